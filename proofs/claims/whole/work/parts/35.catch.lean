/-- what is owed where a call has thrown an exception of the class E -/
def CX : Zc → Nat → List (Nat × Value) → List Value → String → Nat → Hp → Prop
  | (p, l, e, Rm, s, m, args, below, meth, c, D, cA, ad0, n0, N1, z0, F), pc, ls, rest, E, n, h =>
    ∀ (ad : Nat → Nat) (H : Heap) (locs : List Loc) (la : Array Slot) (q : Addr) (ce : Cell), adk ad0 n0 ad → n0 ≤ n → n ≤ N1 → lok n ls → Rep D cA z0 ad n h H → va_S (fun q => z0 ≤ q) s.heap H locs → lv_has la c.maxLocals (lmap ad ls) →
      H[q]? = some ce → ce.vm = .none → s.vm.findClass E = some ce.cls → vx_W p l e Rm s m args below meth c H locs ((n - n0) + 1) (1744 * (n - n0) + 8 * 1) F (F0 m pc la (rest.map (cv ad))) q
section CT
variable {Z : Zc} {cc : ByteArray} {own : String} {nL d X : Nat}
theorem r_callXV (hZ : Fx cc own nL d X Z) (hE : ExZ Z) {pc n : Nat} {ls : List (Nat × Value)} {rest As : List Value} {h : Hp} {idx ci a k d' : Nat} {C : String} {T : u_T} {N : Nat} {y : MethodName} {b : ByteArray} {maxL : Nat} {ret : Option FieldType} {o : Option Value ⊕ String} {st0 : List Value}
    (hd : decode cc pc = .ok (.invokevirtual idx, 3)) (hC : CV own idx C y b maxL ret k) (hc : clz[ci]? = some (C, T, N)) (hrec : isO h a ci = some ()) (hEv : EvX d' y b maxL ret (.ref a :: As) n h o) (hst : st0 = As.reverse ++ .ref a :: rest) (hk : As.length = k) (hd' : d' < d) (hcat : (rest.map fun v => v.category).sum ≤ 8) (hX : 1 ≤ X)
    (kk : ∀ r, o = .inl r → R Z (pc + 3) ls (r.toList ++ rest) n h 1) (kx : ∀ E, o = .inr E → CX Z pc ls rest E n h) : R Z pc ls st0 n h 0 := by
  subst hst
  obtain ⟨fs, ho⟩ := isO_spec hrec
  obtain ⟨p, l, e, Rm, s, m, args, below, meth, c, D, cA, ad0, n0, N1, z0, F⟩ := Z
  obtain ⟨hx, hb, hml, hown, hts, hK, hSt, hz, hlk, hN1, hd1, hd2, hc1, hs1⟩ := hZ
  obtain ⟨w1, w2, w3, w4, w5, w6, w7, w8⟩ := hC
  obtain ⟨hE1, hE2⟩ := hE
  intro ad H locs la ha h1 h2 hl0 hs0 hR hS hl
  have hsA : sok n (.ref a :: As) := ⟨Or.inl (hR.dom ho), sok_app hs0⟩
  have hsr : sok n rest := sok_app2 hs0
  have er : ((As.reverse ++ .ref a :: rest).map (cv ad)) = (As.map (cv ad)).reverse ++ .ref (ad a) :: rest.map (cv ad) := by
    rw [List.map_append, List.map_cons, List.map_reverse]
    rfl
  rw [er]
  have hrun := vx_runV (As := As.map (cv ad)) (rest := rest.map (cv ad)) (n := k) ⟨hx, hb, hml, hown, hts⟩ (hEv l D cA z0 ad hE1) (R := Rm) (below := below) (e := e) (H := H) (locs := locs) (cells := (n - n0) + 0) (slots := 1744 * (n - n0) + 8 * 0) (g := F0 m pc la ((As.map (cv ad)).reverse ++ .ref (ad a) :: rest.map (cv ad))) (meth := meth) ⟨⟨rfl, rfl, (by show d' + 1 ≤ Rm.frames; omega), (by show 8 + (maxL + 11) + 64 * d' ≤ Rm.locals; omega), TT_pay hts w5, List.mem_cons_self, hts _ w5, hts _ w4, w6, par_n w7, hts _ w1⟩, hts _ w2, hts _ w3⟩ ⟨PcX_blind, va_recv hK hR.2.2.2.1 hc (hR.at ho), fun U hU hW => ⟨PcE_go hz hK hSt ha hS hR hsA U hU hW, hE2.go hS hU hW⟩⟩ rfl (by rw [List.length_map]; exact hk) (hl.1.trans hml) rfl (lv_room (cat_le hcat)) hd ⟨by omega, by omega⟩
  intro Ts hTs Xs
  rcases hrun Ts hTs Xs with ⟨v, st₀, t, T', L, g0, X', hL, e1, e2, hq, st⟩ | ⟨q, st₀, t, T', L, E, ce, g0, X', hL, e1, e2, hq, hce, hcv, hcl, st⟩
  · cases o with
    | inr E => exact absurd hq id
    | inl r =>
      obtain ⟨⟨ad', hadk, hv, hvok, hRep, -⟩, hzz, hkk⟩ := hq
      cases hv
      rw [g0] at hzz hkk
      have e3 : (r.map (cv ad')).toList ++ rest.map (cv ad) = (r.toList ++ rest).map (cv ad') := by
        rw [List.map_append, cs_ext hadk hsr]
        cases r <;> rfl
      rw [e3] at st
      have hS' : va_S (fun q => z0 ≤ q) s.heap T'.heap (locs ++ L) := ⟨Nat.le_trans hS.1 (by rw [e1]; exact hzz), fun q g1 g2 => by rw [e1, hkk q (Nat.lt_of_lt_of_le g1 hS.1) g2]; exact hS.2.1 q g1 g2, fun q hq => by
          rcases List.mem_append.mp hq with g | g
          · exact hS.2.2 q g
          · exact hL q g⟩
      have hso : sok n (r.toList ++ rest) := by
        cases r with
        | none => exact hsr
        | some w => exact ⟨hvok w rfl, hsr⟩
      obtain ⟨t2, a1, b1⟩ := kk r rfl ad' T'.heap (locs ++ L) la (fun i hi => by rw [hadk i (hi.imp (fun z => Nat.lt_of_lt_of_le z h1) id)]; exact ha i hi) h1 h2 hl0 hso (by rw [e1]; exact hRep) hS' (by unfold lmap; rw [lok_cl hadk hl0]; exact hl) T' rfl X'
      exact ⟨t2, st t2 a1, b1⟩
  · cases o with
    | inl r => exact absurd hq id
    | inr E' =>
      obtain ⟨rfl, hRep, hzz, hkk⟩ := hq
      rw [g0] at hzz hkk
      have hS' : va_S (fun q => z0 ≤ q) s.heap T'.heap (locs ++ L) := ⟨Nat.le_trans hS.1 (by rw [e1]; exact hzz), fun q g1 g2 => by rw [e1, hkk q (Nat.lt_of_lt_of_le g1 hS.1) g2]; exact hS.2.1 q g1 g2, fun q hq => by
          rcases List.mem_append.mp hq with g | g
          · exact hS.2.2 q g
          · exact hL q g⟩
      obtain ⟨t2, a1, b1⟩ := kx E rfl ad T'.heap (locs ++ L) la q ce ha h1 h2 hl0 (by rw [e1]; exact hRep) hS' hl (by rw [e1]; exact hce) hcv hcl T' rfl X'
      exact ⟨t2, st.trans a1, b1⟩
theorem catch_has {la : Array Slot} {nL i : Nat} {q : Addr} {ad : Nat → Nat} {ls ls' : List (Nat × Value)} (hl : lv_has la nL ((i, .ref q) :: (lmap ad ls).filter (fun q => !(q.1 == i) && !(q.1 + 1 == i && q.2.category == 2)))) (hsub : ∀ q ∈ ls', q ∈ ls ∧ q.1 + 1 < i) : lv_has la nL (lmap ad ls') := by
  refine ⟨hl.1, hl.2.1, fun x hx => ?_⟩
  obtain ⟨y, hy, rfl⟩ := List.mem_map.mp hx
  obtain ⟨g1, g2⟩ := hsub y hy
  refine hl.2.2 _ (List.mem_cons_of_mem _ (List.mem_filter.mpr ⟨List.mem_map.mpr ⟨y, g1, rfl⟩, ?_⟩))
  have k1 : (y.1 == i) = false := by simp; omega
  have k2 : (y.1 + 1 == i) = false := by simp; omega
  show (!(y.1 == i) && !(y.1 + 1 == i && _)) = true
  rw [k1, k2]
  rfl
/-- caught by a row of the method's table, and put into the local i, which isn't read -/
theorem catch_n (hZ : Fx cc own nL d X Z) (hE : ExZ Z) {pc n : Nat} {ls ls' : List (Nat × Value)} {rest : List Value} {h : Hp} {E : String} (pre : List ExceptionTableEntry) (x : ExceptionTableEntry) (suf : List ExceptionTableEntry) (hT : TabZ (pre ++ x :: suf) Z) {i k : Nat} {j : Fin 4}
    (hpass : ∀ z ∈ pre, z.catchType ≠ 0 ∧ Cond.classLink own z.catchType xIAE ∈ TT ∧ E = xISE) (hcov : covers x pc = true) (h0 : x.catchType ≠ 0) (hw : Cond.classLink own x.catchType E ∈ TT) (hcast : Cond.castable E E ∈ xB)
    (hd : (decode cc x.handlerPc = .ok (.astore_n j, 1) ∧ (j : Nat) = i ∧ k = 1) ∨ (decode cc x.handlerPc = .ok (.astore i, 2) ∧ k = 2)) (hi : i < nL) (hsub : ∀ q ∈ ls', q ∈ ls ∧ q.1 + 1 < i) (kk : R Z (x.handlerPc + k) ls' [] n h 1) : CX Z pc ls rest E n h := by
  obtain ⟨p, l, e, Rm, s, m, args, below, meth, c, D, cA, ad0, n0, N1, z0, F⟩ := Z
  obtain ⟨hx, hb, hml, hown, hts, hK, hSt, hz, hlk, hN1, hd1, hd2, hc1, hs1⟩ := hZ
  obtain ⟨hE1, hE2⟩ := hE
  intro ad H locs la q ce ha h1 h2 hl0 hR hS hl hce hcv hcl
  refine vx_catch hown pre x suf hT (fun z hz => ?_) hcov h0 (hts _ hw) (va_Nw.use rfl (hE2.2.2.1 _ hcast)) hce hcv hcl ?_
  · obtain ⟨g1, g2, g3⟩ := hpass z hz
    exact Or.inr ⟨g1, xIAE, hts _ g2, by rw [g3]; exact hE2.2.2.2.1⟩
  · have hls' : lok n ls' := lok_of fun q hq => lok_mem hl0 q (hsub q hq).1
    rcases hd with ⟨hd, hj, rfl⟩ | ⟨hd, rfl⟩
    · exact lv_astore_n hx hb hd hj (hml ▸ hl) hi rfl (fun la hl => kk ad H locs la ha h1 h2 hls' trivial hR hS (by rw [hml]; exact catch_has hl hsub))
    · exact lv_astore hx hb hd (hml ▸ hl) hi rfl (fun la hl => kk ad H locs la ha h1 h2 hls' trivial hR hS (by rw [hml]; exact catch_has hl hsub))
end CT
