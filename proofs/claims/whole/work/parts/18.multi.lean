section ML
variable {Z : Zc} {cc : ByteArray} {own : String} {nL d X : Nat}
/-- the heap behind new int[N'][K'] -/
def hM (n : Nat) (h : Hp) (N' K' : Nat) : Hp := fun i => if i = n then some (5, .inr (N', .inr (.inr (.inr (.inr fun j => if j < N' then some (n + 1 + j) else none))))) else if n < i ∧ i < n + 1 + N' then some (0, .inr (K', .inl fun _ => 0)) else h i
theorem arrV_rep (c : ClassId) (K : Nat) (v : Value) : ({ cls := c, slots := Array.replicate K v, vm := .none } : Cell) = arrV c K (fun _ => v) := by
  unfold arrV
  congr 1
  apply Array.ext
  · simp
  · intro i h1 h2
    simp
theorem r_multi (hZ : Fx cc own nL d X Z) {N2 : Nat} (hN : NX N2 Z) {pc n x idx N' K' : Nat} {ls : List (Nat × Value)} {st : List Value} {h : Hp} {a b : Int32} (hw : Cond.classLink own idx ("[" ++ (FieldType.array .int).toString) ∈ TT) (hw3 : Cond.arrayClass .int ∈ TT) (ha0 : ¬ a < 0) (hb0 : ¬ b < 0) (haN : a.toNatClampNeg = N') (hbK : b.toNatClampNeg = K') (hl1 : N' ≤ 20) (hl2 : K' ≤ 1000) (hd : decode cc pc = .ok (.multianewarray idx 2, 4)) (hn : n + 1 + N' ≤ N2) (hx0 : x ≤ X)
    (kk : R Z (pc + 4) ls (.ref n :: st) (n + 1 + N') (hM n h N' K') x) : R Z pc ls (.int b :: .int a :: st) n h x := by
  obtain ⟨p, l, e, Rm, s, m, args, below, meth, c, D, cA, ad0, n0, N1, z0, F⟩ := Z
  obtain ⟨hx, hb, hml, hown, hts, hK, hSt, hz, hlk, hN0, hd1, hd2, hc1, hs1⟩ := hZ
  obtain ⟨hN1, hN2⟩ := hN
  intro ad H locs la ha h1 h2 hl0 hs0 hR hS hl
  have hcy : s.vm.findClass (FieldType.array .int).toString = some (cA 0) := (hK.2 0 (cA 0, .int) rfl).2
  have eX : ∀ f, wl cA ad n h ++ va_pl [] f = wl cA ad n h := fun f => List.append_nil _
  have hNK : N' * K' ≤ 1000 * N' := by
    rw [Nat.mul_comm]
    exact Nat.mul_le_mul_right _ hl2
  refine va_mna (X := wl cA ad n h) (L := []) (f := fun _ => .inr (0, [])) (ty := .int) (N' := N') (K' := K') (z := (K', .inl fun _ => 0)) hx hb hown (hts _ hw) hSt.2.2.2.2 (hts _ hw3) hcy hK (by rw [eX]; exact hR.2.2.2.1) (by rw [eX]; exact hR.2.2.2.2) hS (fun q hq => Nat.le_trans hz hq) ha0 hb0 haN hbK (by omega) (by show K' * 4 ≤ _; omega) (by omega) rfl rfl (by omega) (by omega) (fun c => arrV_rep c K' _) hd (fun q r c1 H1 hri _ hK1 hP1 hD1 hS1 => ?_)
  have e0 := aty cA hK (t0 := 5) rfl hK1
  subst e0
  have hbB : n + 1 + N' ≤ BB := Nat.le_trans hn hN2
  obtain ⟨ad', had⟩ : ∃ ad' : Nat → Nat, ad' = fun i => if i = n then q else if n < i ∧ i < n + 1 + N' then r (i - (n + 1)) else ad i := ⟨_, rfl⟩
  have hext : ∀ i, (i < n ∨ BB ≤ i) → ad' i = ad i := fun i hi => by
    rw [had]
    dsimp only
    rw [if_neg (by omega), if_neg (by omega)]
  have had1 : ad' n = q := by rw [had]; simp
  have had2 : ∀ i, i < N' → ad' (n + 1 + i) = r i := fun i hi => by
    rw [had]
    dsimp only
    rw [if_neg (by omega), if_pos (by omega), show n + 1 + i - (n + 1) = i by omega]
  have hh1 : ∀ i, i < n → hM n h N' K' i = h i := fun i hi => by
    unfold hM
    rw [if_neg (by omega), if_neg (by omega)]
  have hh2 : hM n h N' K' n = some (5, .inr (N', .inr (.inr (.inr (.inr fun j => if j < N' then some (n + 1 + j) else none))))) := by
    unfold hM
    rw [if_pos rfl]
  have hh3 : ∀ i, i < N' → hM n h N' K' (n + 1 + i) = some (0, .inr (K', .inl fun _ => 0)) := fun i hi => by
    unfold hM
    rw [if_neg (by omega), if_pos (by omega)]
  have ew : (wl cA ad n h ++ [(q, .inl (cA 5, N', .inr (.inr (.inr (.inr (fun i => if i < N' then some (r i) else none))))))]) ++ va_pl ([] ++ (List.range N').map r) (vr_up (fun _ => .inr (0, [])) ((List.range N').map r) (.inl (cA 0, (K', .inl fun _ => 0)))) = wl cA ad' (n + 1 + N') (hM n h N' K') := by
    have eR : wl cA ad' (n + 1 + N') (hM n h N' K') = ((List.range n).map (fun i => (ad' i, ce cA ad' ((hM n h N' K' i).getD ob0))) ++ [(ad' n, ce cA ad' ((hM n h N' K' n).getD ob0))]) ++ ((List.range N').map (n + 1 + ·)).map (fun i => (ad' i, ce cA ad' ((hM n h N' K' i).getD ob0))) := by
      simp only [wl, List.range_add, List.range_succ, List.map_append, List.map_cons, List.map_nil]
    rw [eR]
    unfold wl va_pl
    rw [List.nil_append]
    congr 1
    · congr 1
      · apply List.map_congr_left
        intro i hi
        have hi := List.mem_range.mp hi
        rw [hh1 i hi, hext i (Or.inl hi)]
        cases ho : h i with
        | none => simp only [Option.getD_none]; rfl
        | some o => simp only [Option.getD_some]; rw [ce_ext hext (hR.2.1 i o ho)]
      · rw [had1, hh2, Option.getD_some]
        have e3 : (fun i => if i < N' then some (r i) else none) = fun k => (if k < N' then some (n + 1 + k) else none).map ad' := by
          funext i
          by_cases hi : i < N'
          · rw [if_pos hi, if_pos hi, Option.map_some, had2 i hi]
          · rw [if_neg hi, if_neg hi]
            rfl
        rw [e3]
        rfl
    · rw [List.map_map, List.map_map]
      apply List.map_congr_left
      intro i hi
      have hi' := List.mem_range.mp hi
      show (r i, vr_up _ _ _ (r i)) = (ad' (n + 1 + i), ce cA ad' ((hM n h N' K' (n + 1 + i)).getD ob0))
      rw [vr_up_in (List.mem_map.mpr ⟨i, hi, rfl⟩), had2 i hi', hh3 i hi', Option.getD_some]
      rfl
  rw [ew] at hP1 hD1
  have hRn : Rep D cA z0 ad' (n + 1 + N') (hM n h N' K') H1 := by
    refine ⟨fun i => ?_, fun i ob hi => ?_, hbB, hP1, hD1⟩
    · unfold hM
      by_cases g1 : i = n
      · rw [if_pos g1]
        exact ⟨fun _ => by omega, fun _ => rfl⟩
      · rw [if_neg g1]
        by_cases g2 : n < i ∧ i < n + 1 + N'
        · rw [if_pos g2]
          exact ⟨fun _ => g2.2, fun _ => rfl⟩
        · rw [if_neg g2, hR.1 i]
          omega
    · unfold hM at hi
      split at hi
      · cases hi
        intro k r hk
        dsimp only at hk
        split at hk
        · cases hk
          left
          omega
        · cases hk
      · split at hi
        · cases hi
          trivial
        · exact ook_mono (by omega) (hR.2.1 i ob hi)
  have k2 := kk ad' H1 locs la (fun i hi => by rw [hext i (hi.imp (fun z => Nat.lt_of_lt_of_le z h1) id)]; exact ha i hi) (by omega) (by omega) (lok_mono (n := n) (by omega) hl0) ⟨Or.inl (by show n < n + 1 + N'; omega), sok_mono (n := n) (by omega) hs0.2.2⟩ hRn hS1 (by unfold lmap; rw [lok_cl hext hl0]; exact hl)
  have e4 : (Value.ref n :: st).map (cv ad') = .ref q :: st.map (cv ad) := by
    rw [List.map_cons, cs_ext hext hs0.2.2]
    show Value.ref (ad' n) :: _ = _
    rw [had1]
  rw [e4] at k2
  exact W.widen (by omega) (by omega) k2
end ML
