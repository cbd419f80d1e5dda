/-! the reference's ear: faults (sounds 200, gears 201), sets -/
section
variable {d : Mem} {N : Nat} {te : Nat → Nat} {H : Int64}
theorem snd_loopM {D : Mem} {i g : Int} {p2 p6 p8 : Int32} {p4 : Int64} (hN : N ≤ 60) (i0 : 0 ≤ i) (i1 : i < 8) (h190 : D 190 i = N) {τ : Nat} (t1 : 1 ≤ τ) (t2 : τ ≤ 99) (ht : f_X12_teeth (mkH D) 183 (J g) = some (J (τ : Int))) : ∀ (r m t : Nat) (x : Int64), N - t ≤ r → r < m → t ≤ 200 → ∃ y, iter (b_X12_ear_150 (mkH D) 183 (J i) p2 p4 p6 (J g) p8) m (x, J (t : Int)) = some y ∧ ∀ s, tb y s = (tb x s || decide (s < N ∧ t ≤ s ∧ (s - t) % τ = 0))
  | r, 0, t, x, hr, hm, ht' => by omega
  | r, m + 1, t, x, hr, hm, ht' => by
    have a190 : aI (mkH D) 190 (J i) = some (J (N : Int)) := by rw [q_aI (len := 8) rfl (by decide) i0 (by omega), h190]
    by_cases c : N ≤ t
    · refine ⟨x, iter_E ?_, fun s => ?_⟩
      · unfold b_X12_ear_150
        refine bind_eq (z183_7 D) (bind_eq a190 ?_)
        rw [if_pos (by rw [J_le (by omega) (by omega) (by omega) (by omega)]; omega)]
      · rw [decide_eq_false (by omega), Bool.or_false]
    · match r, hr, hm with
      | 0, hr, hm => omega
      | r + 1, hr, hm =>
        obtain ⟨y, h3, h4⟩ := snd_loopM hN i0 i1 h190 t1 t2 ht r m (t + τ) (x ||| (K 1 <<< ((J (t : Int)).toInt64 &&& 63))) (by omega) (by omega) (by omega)
        refine ⟨y, ?_, fun s => ?_⟩
        · rw [iter_S (t := (x ||| (K 1 <<< ((J (t : Int)).toInt64 &&& 63)), J ((t + τ : Nat) : Int))) ?_]
          · exact h3
          · unfold b_X12_ear_150
            refine bind_eq (z183_7 D) (bind_eq a190 ?_)
            rw [if_neg (by rw [J_le (by omega) (by omega) (by omega) (by omega)]; omega)]
            refine bind_eq rfl (bind_eq (isO183 _) (bind_eq ht (bind_eq rfl ?_)))
            rw [J_add]
            rfl
        · rw [h4 s, tb_or, tb_bit (by omega), Bool.or_assoc]
          congr 1
          have k := step_mod (te := τ) (t := t) (s := s) t1
          rw [Bool.eq_iff_iff, Bool.or_eq_true, decide_eq_true_iff, decide_eq_true_iff, decide_eq_true_iff]
          constructor
          · rintro (e | ⟨a, b⟩)
            · exact ⟨by omega, k.mpr (Or.inl e)⟩
            · exact ⟨a, k.mpr (Or.inr b)⟩
          · rintro ⟨a, b⟩
            rcases k.mp b with e | e
            · exact Or.inl e
            · exact Or.inr ⟨a, e⟩
theorem sL200 (D : Mem) {i : Int} (x : Int64) (h0 : 0 ≤ i) (h1 : i < 1200) : sL (mkH D) 200 (J i) x = some (mkH (up D 200 i x.toInt)) := by
  have h := q_sL (d := D) (a := 200) (i := i) (v := x.toInt) (len := 1200) rfl (by decide) h0 (by omega)
  rw [K_self] at h
  exact h
/-- the rows 200, 201 tell the list -/
def LR (D : Mem) (N : Nat) (te : Nat → Nat) (L : List (Nat × Nat)) : Prop := ∀ (a : Nat) (x : Nat × Nat), L[a]? = some x → K (D 200 a) = Xs N te x.1 x.2 ∧ D 201 a = x.1
theorem LR_add {D : Mem} {L : List (Nat × Nat)} (R : LR D N te L) (g p : Nat) : LR (up (up D 200 L.length (Xs N te g p).toInt) 201 L.length g) N te (L ++ [(g, p)]) := fun a x hx => by
  by_cases c : a < L.length
  · rw [List.getElem?_append_left c] at hx
    obtain ⟨h1, h2⟩ := R a x hx
    rw [up_na (by decide), up_nk (by omega), up_nk (by omega), up_na (by decide)]
    exact ⟨h1, h2⟩
  · rw [List.getElem?_append_right (by omega)] at hx
    by_cases c2 : a = L.length
    · subst c2
      rw [Nat.sub_self] at hx
      have hx : some (g, p) = some x := hx
      have hx := (Option.some.inj hx).symm
      subst hx
      rw [up_na (by decide), up_same, up_same, K_self]
      exact ⟨rfl, rfl⟩
    · obtain ⟨z, hz⟩ : ∃ z, a - L.length = z + 1 := ⟨a - L.length - 1, by omega⟩
      rw [hz] at hx
      have hx : (none : Option (Nat × Nat)) = some x := hx
      cases hx
theorem flG_len (g : Nat) : ∀ n : Nat, (flG N te H g n).length ≤ n
  | 0 => Nat.le_refl 0
  | n + 1 => by
    have h := flG_len g n
    unfold flG
    split
    · rw [List.length_append]
      show _ + 1 ≤ _
      omega
    · omega
theorem flA_len (h : ∀ g, te g ≤ 99) : ∀ g : Nat, (flA N te H g).length ≤ 99 * g
  | 0 => Nat.le_refl 0
  | g + 1 => by
    have h1 := flA_len h g
    have h2 := flG_len (N := N) (te := te) (H := H) g (te g)
    have h3 := h g
    show (flA N te H g ++ flG N te H g (te g)).length ≤ _
    rw [List.length_append]
    omega
theorem flA_mem {G : Nat} : ∀ g : Nat, ∀ x, x ∈ flA N te H g → x.1 < g := by
  have one : ∀ g n x, x ∈ flG N te H g n → x.1 = g := by
    intro g n
    induction n with
    | zero => intro x h; cases h
    | succ n ih =>
      intro x h
      unfold flG at h
      split at h
      · rcases List.mem_append.mp h with h | h
        · exact ih x h
        · rw [List.mem_singleton.mp h]
      · exact ih x h
  intro g
  induction g with
  | zero => intro x h; cases h
  | succ g ih =>
    intro x h
    rcases List.mem_append.mp h with h | h
    · have := ih x h
      omega
    · have := one g _ x h
      omega
/-- frame of the reference's ear -/
def FrE (D d : Mem) : Prop := ∀ x k, x ≠ 200 → x ≠ 201 → D x k = d x k
theorem m_faults {G : Nat} (hG : d 185 1740 = G) (G12 : G ≤ 12) (hN : N ≤ 60) {i : Int} (i0 : 0 ≤ i) (i1 : i < 8) (h190 : d 190 i = N) (tr : ∀ g, 4 ≤ te g ∧ te g ≤ 99) (ht : ∀ g : Nat, g < G → d 185 (19 * (g : Int) + 1) = te g) (a2 : Int32) : ∃ D, iter (b_X12_ear_116 183 (J i) a2 H) FU (J 0, J 0, mkH d) = some (J ((flA N te H G).length : Int), mkH D) ∧ LR D N te (flA N te H G) ∧ FrE D d := by
  obtain ⟨e, h1, D, rfl, h2, h3⟩ : ∃ e, iter (b_X12_ear_116 183 (J i) a2 H) FU (J 0, J 0, mkH d) = some e ∧ ∃ D : Mem, e = (J ((flA N te H G).length : Int), mkH D) ∧ LR D N te (flA N te H G) ∧ FrE D d := by
    refine iter_for (fun g st => ∃ D : Mem, st = (J ((flA N te H g).length : Int), J (g : Int), mkH D) ∧ LR D N te (flA N te H g) ∧ FrE D d) _ G (by omega) ⟨d, rfl, fun a x h => (by cases h), fun _ _ _ _ => rfl⟩ ?_ ?_
    · rintro g st hg ⟨D, rfl, R, F⟩
      obtain ⟨t1, t2⟩ := tr g
      have al := flA_len (N := N) (te := te) (H := H) (fun g => (tr g).2) g
      have teq : ∀ E : Mem, FrE E d → f_X12_teeth (mkH E) 183 (J (g : Int)) = some (J (te g : Int)) := fun E Fq => by
        rw [m_teeth (d := E) (i := (g : Int)) (by omega) (by omega), Fq 185 _ (by decide) (by decide), ht g hg]
      obtain ⟨e, q1, D2, rfl, R2, F2⟩ : ∃ e, iter (b_X12_ear_132 183 (J i) a2 H (J (g : Int))) FU (J ((flA N te H g).length : Int), J 0, mkH D) = some e ∧ ∃ D2 : Mem, e = (J ((flA N te H g ++ flG N te H g (te g)).length : Int), mkH D2) ∧ LR D2 N te (flA N te H g ++ flG N te H g (te g)) ∧ FrE D2 d := by
        refine iter_for (fun p st => ∃ E : Mem, st = (J ((flA N te H g ++ flG N te H g p).length : Int), J (p : Int), mkH E) ∧ LR E N te (flA N te H g ++ flG N te H g p) ∧ FrE E d) _ (te g) (by omega) ⟨D, by rw [show flG N te H g 0 = [] from rfl, List.append_nil]; rfl, by rw [show flG N te H g 0 = [] from rfl, List.append_nil]; exact R, F⟩ ?_ ?_
        · rintro p st hp ⟨E, rfl, RE, Fq⟩
          have gl := flG_len (N := N) (te := te) (H := H) g p
          obtain ⟨y, s1, s2⟩ := snd_loopM (D := E) (i := i) (g := (g : Int)) (p2 := a2) (p4 := H) (p6 := J ((flA N te H g ++ flG N te H g p).length : Int)) (p8 := J (p : Int)) hN i0 i1 (by rw [Fq 190 i (by decide) (by decide)]; exact h190) (by omega : 1 ≤ te g) t2 (teq E Fq) 60 FU p (K 0) (by omega) (by decide) (by omega)
          have ey : y = Xs N te g p := tb_ext (fun s _ => by
            rw [s2 s, tb_K0, Bool.false_or]
            unfold Xs
            rw [tb_sdL hN, Bool.eq_iff_iff, decide_eq_true_iff, decide_eq_true_iff, ph_mod (by omega) hp])
          rw [ey] at s1
          have len : (flA N te H g ++ flG N te H g p).length ≤ 1188 := by
            rw [List.length_append]
            omega
          have pre : ∀ {Y : Option ((Int32 × Int32 × Hp) ⊕ (Int32 × Hp))}, ((if (lg_cmp (Xs N te g p &&& (H ^^^ (K (-1)))) (K 0)) = 0 then
      (gR (mkH E) 183 11 28).bind fun x6 =>
      (sL (mkH E) x6 (J ((flA N te H g ++ flG N te H g p).length : Int)) (Xs N te g p)).bind fun h7 =>
      (gR h7 183 11 29).bind fun x8 =>
      (sI h7 x8 (J ((flA N te H g ++ flG N te H g p).length : Int)) (J (g : Int))).bind fun h9 =>
      (some (J ((flA N te H g ++ flG N te H g p).length : Int) + (J 1))).bind fun x10 =>
      some (x10, h9)
    else
      some (J ((flA N te H g ++ flG N te H g p).length : Int), mkH E))).bind (fun (j5 : Int32 × Hp) =>
    (some (J (p : Int) + (J 1))).bind fun x12 =>
    some (.inl (j5.1, x12, j5.2))) = Y → b_X12_ear_132 183 (J i) a2 H (J (g : Int)) (J ((flA N te H g ++ flG N te H g p).length : Int), J (p : Int), mkH E) = Y := by
            intro Y hY
            unfold b_X12_ear_132
            refine bind_eq (isO183 _) (bind_eq (teq E Fq) ?_)
            rw [if_neg (by rw [J_le (by omega) (by omega) (by omega) (by omega)]; omega)]
            exact bind_eq rfl (bind_eq s1 hY)
          by_cases c : inB H (Xs N te g p) = true
          · have fl1 : flG N te H g (p + 1) = flG N te H g p ++ [(g, p)] := by
              show (if inB H (Xs N te g p) = true then _ else _) = _
              exact if_pos c
            have ap : flA N te H g ++ flG N te H g (p + 1) = (flA N te H g ++ flG N te H g p) ++ [(g, p)] := by rw [fl1, List.append_assoc]
            generalize flA N te H g ++ flG N te H g p = L at *
            have RA := LR_add RE g p
            obtain ⟨E1, hE1⟩ : ∃ E1, E1 = up E 200 L.length (Xs N te g p).toInt := ⟨_, rfl⟩
            refine ⟨(J ((L.length : Int) + 1), J ((p : Int) + 1), mkH (up E1 201 L.length g)), pre ?_, up E1 201 L.length g, ?_, ?_, fun x k n1 n2 => by rw [up_na n2, hE1, up_na n1, Fq x k n1 n2]⟩
            · rw [if_pos ((lg0 _ _).mpr (of_decide_eq_true c))]
              refine bind_eq (a := (J ((L.length : Int) + 1), mkH (up E1 201 L.length g))) ?_ (bind_eq rfl (by rw [J_add]))
              refine bind_eq (z183_41 E) (bind_eq (sL200 E _ (by omega) (by omega)) ?_)
              rw [← hE1]
              refine bind_eq (z183_42 E1) (bind_eq (q_sI (len := 1200) rfl (by decide) (by omega) (by omega)) (bind_eq rfl ?_))
              rw [J_add]
            · rw [ap, List.length_append]
              rfl
            · rw [ap, hE1]
              exact RA
          · have fl1 : flG N te H g (p + 1) = flG N te H g p := by
              show (if inB H (Xs N te g p) = true then _ else _) = _
              exact if_neg c
            refine ⟨(J ((flA N te H g ++ flG N te H g p).length : Int), J ((p : Int) + 1), mkH E), pre ?_, E, by rw [fl1]; rfl, by rw [fl1]; exact RE, Fq⟩
            rw [if_neg (fun q => c (decide_eq_true ((lg0 _ _).mp q)))]
            refine bind_eq rfl (bind_eq rfl ?_)
            rw [J_add]
        · rintro st ⟨E, rfl, RE, Fq⟩
          refine ⟨_, ?_, E, rfl, RE, Fq⟩
          unfold b_X12_ear_132
          refine bind_eq (isO183 _) (bind_eq (teq E Fq) ?_)
          rw [if_pos (by rw [J_le (by omega) (by omega) (by omega) (by omega)]; omega)]
      refine ⟨(J ((flA N te H g ++ flG N te H g (te g)).length : Int), J ((g : Int) + 1), mkH D2), ?_, D2, rfl, R2, F2⟩
      unfold b_X12_ear_116
      refine bind_eq (z183_2 D) (bind_eq (aI185 D (by decide) (by decide)) ?_)
      rw [F 185 _ (by decide) (by decide), hG, if_neg (by rw [J_le (by omega) (by omega) (by omega) (by omega)]; omega)]
      refine bind_eq rfl (bind_eq q1 (bind_eq rfl ?_))
      rw [J_add]
    · rintro st ⟨D, rfl, R, F⟩
      refine ⟨_, ?_, D, rfl, R, F⟩
      unfold b_X12_ear_116
      refine bind_eq (z183_2 D) (bind_eq (aI185 D (by decide) (by decide)) ?_)
      rw [F 185 _ (by decide) (by decide), hG, if_pos (by rw [J_le (by omega) (by omega) (by omega) (by omega)]; omega)]
  exact ⟨D, h1, h2, h3⟩
/-- the sets found so far, and what is told of them -/
def MSt (H : Int64) (c : Nat → Nat) (s1 bl mb : Int32) : Prop := s1 = J ((if H = K 0 then 1 else 0) + (c 0 : Int)) ∧ (∀ t, t < 32 → ti bl t = (decide (H ≠ K 0) && decide (c (t + 1) = c 0))) ∧ (∀ t, t < 32 → ti mb t = decide (0 < c (t + 1))) ∧ ∀ t, c (t + 1) ≤ c 0
theorem MSt_add {c : Nat → Nat} {s1 bl mb mk : Int32} {g h : Nat} (M : MSt H c s1 bl mb) (hm : ∀ t, t < 32 → ti mk t = decide (t = g ∨ t = h)) : MSt H (fun k => c k + wtS k g h) (s1 + J 1) (bl &&& mk) (mb ||| mk) := by
  obtain ⟨m1, m2, m3, m4⟩ := M
  have w0 := wt_0 g h
  have wt : ∀ t, wtS (t + 1) g h = if t = g ∨ t = h then 1 else 0 := fun t => by
    unfold wtS
    rw [if_neg (by omega)]
    by_cases q : t = g ∨ t = h
    · rw [if_pos q, if_pos (by omega)]
    · rw [if_neg q, if_neg (by omega)]
  refine ⟨?_, fun t ht => ?_, fun t ht => ?_, fun t => ?_⟩
  · rw [m1, J_add]
    show J _ = J (_ + ((c 0 + wtS 0 g h : Nat) : Int))
    rw [w0]
    congr 1
    omega
  · have l := m4 t
    rw [ti_and, m2 t ht, hm t ht]
    show _ = (decide (H ≠ K 0) && decide (c (t + 1) + wtS (t + 1) g h = c 0 + wtS 0 g h))
    rw [w0, wt t, Bool.and_assoc]
    congr 1
    by_cases q : t = g ∨ t = h
    · rw [if_pos q, decide_eq_true q, Bool.and_true]
      exact decide_eq_decide.mpr (by omega)
    · rw [if_neg q, decide_eq_false q, Bool.and_false]
      exact (decide_eq_false (by omega)).symm
  · rw [ti_or, m3 t ht, hm t ht]
    show _ = decide (0 < c (t + 1) + wtS (t + 1) g h)
    rw [wt t]
    by_cases q : t = g ∨ t = h
    · rw [if_pos q, decide_eq_true q, Bool.or_true]
      exact (decide_eq_true (by omega)).symm
    · rw [if_neg q, decide_eq_false q, Bool.or_false]
      exact decide_eq_decide.mpr (by omega)
  · show c (t + 1) + wtS (t + 1) g h ≤ c 0 + wtS 0 g h
    have l := m4 t
    have := wt_le (t + 1) g h
    omega
theorem ti_bit2 {g h : Nat} (g1 : g < 32) (h1 : h < 32) (t : Nat) : ti ((J 1 <<< (J (g : Int) &&& 31)) ||| (J 1 <<< (J (h : Int) &&& 31))) t = decide (t = g ∨ t = h) := by
  rw [ti_or, ti_bit g1, ti_bit h1, Bool.eq_iff_iff, Bool.or_eq_true, decide_eq_true_iff, decide_eq_true_iff, decide_eq_true_iff]
theorem drop_one {α : Type} {L : List α} {a : Nat} {x : α} (h : L[a]? = some x) : L.drop a = x :: L.drop (a + 1) := by
  obtain ⟨h1, h2⟩ := List.getElem?_eq_some_iff.mp h
  rw [List.drop_eq_getElem_cons h1, h2]
theorem m_sets {D : Mem} {L : List (Nat × Nat)} (R : LR D N te L) (len : L.length ≤ 1188) (mem : ∀ x, x ∈ L → x.1 < 12) (a2 : Int32) {s0 b0 m0 : Int32} (M0 : MSt H (fun _ => 0) s0 b0 m0) : ∃ s1 bl mb, iter (b_X12_ear_268 (mkH D) 183 a2 H (J (L.length : Int))) FU (s0, b0, m0, J 0) = some (s1, bl, mb) ∧ MSt H (fun k => ouW N te H k L) s1 bl mb := by
  have a200 : ∀ (a : Nat) (x : Nat × Nat), L[a]? = some x → aL (mkH D) 200 (J (a : Int)) = some (Xs N te x.1 x.2) ∧ aI (mkH D) 201 (J (a : Int)) = some (J (x.1 : Int)) ∧ x.1 < 12 := fun a x hx => by
    obtain ⟨h1, h2⟩ := R a x hx
    obtain ⟨l1, l2⟩ := List.getElem?_eq_some_iff.mp hx
    refine ⟨by rw [q_aL (len := 1200) rfl (by decide) (by omega) (by omega), h1], by rw [q_aI (len := 1200) rfl (by decide) (by omega) (by omega), h2], mem x ?_⟩
    rw [← l2]
    exact List.getElem_mem l1
  obtain ⟨e, h1, s1, bl, mb, rfl, h2⟩ : ∃ e, iter (b_X12_ear_268 (mkH D) 183 a2 H (J (L.length : Int))) FU (s0, b0, m0, J 0) = some e ∧ ∃ s1 bl mb, e = (s1, bl, mb) ∧ MSt H (fun k => ouW N te H k L) s1 bl mb := by
    refine iter_for (fun a st => ∃ (s1 bl mb : Int32) (c : Nat → Nat), st = (s1, bl, mb, J (a : Int)) ∧ MSt H c s1 bl mb ∧ ∀ k, c k + ouW N te H k (L.drop a) = ouW N te H k L) _ L.length (by omega) ⟨s0, b0, m0, fun _ => 0, rfl, M0, fun k => by rw [Nat.zero_add, List.drop_zero]⟩ ?_ ?_
    · rintro a st ha ⟨s1, bl, mb, c, rfl, M, S⟩
      obtain ⟨x, hx⟩ : ∃ x, L[a]? = some x := ⟨L[a], List.getElem?_eq_getElem ha⟩
      obtain ⟨x1, x2, x3⟩ := a200 a x hx
      have dr := drop_one hx
      -- the fault alone
      obtain ⟨s2, bl2, mb2, q1, M1⟩ : ∃ s2 bl2 mb2, (if (lg_cmp (Xs N te x.1 x.2) H) = 0 then
      (some (s1 + (J 1))).bind fun x4 =>
      (gR (mkH D) 183 11 29).bind fun x5 =>
      (aI (mkH D) x5 (J (a : Int))).bind fun x6 =>
      (some (bl &&& ((J 1) <<< (x6 &&& 31)))).bind fun x7 =>
      (gR (mkH D) 183 11 29).bind fun x8 =>
      (aI (mkH D) x8 (J (a : Int))).bind fun x9 =>
      (some (mb ||| ((J 1) <<< (x9 &&& 31)))).bind fun x10 =>
      some (x4, x7, x10)
    else
      some (s1, bl, mb)) = some (s2, bl2, mb2) ∧ MSt H (fun k => c k + oneW N te H k x) s2 bl2 mb2 := by
        by_cases e : Xs N te x.1 x.2 = H
        · refine ⟨s1 + J 1, bl &&& (J 1 <<< (J (x.1 : Int) &&& 31)), mb ||| (J 1 <<< (J (x.1 : Int) &&& 31)), ?_, ?_⟩
          · rw [if_pos ((lg0 _ _).mpr e)]
            exact bind_eq rfl (bind_eq (z183_42 D) (bind_eq x2 (bind_eq rfl (bind_eq (z183_42 D) (bind_eq x2 (bind_eq rfl rfl))))))
          · have q := MSt_add (g := x.1) (h := x.1) (mk := J 1 <<< (J (x.1 : Int) &&& 31)) M (fun t _ => by
              rw [ti_bit (by omega), Bool.eq_iff_iff, decide_eq_true_iff, decide_eq_true_iff]
              omega)
            have ec : (fun k => c k + oneW N te H k x) = fun k => c k + wtS k x.1 x.1 := funext fun k => by
              unfold oneW
              rw [if_pos e]
            rw [ec]
            exact q
        · refine ⟨s1, bl, mb, by rw [if_neg (fun q => e ((lg0 _ _).mp q))], ?_⟩
          have ec : (fun k => c k + oneW N te H k x) = c := funext fun k => by
            unfold oneW
            rw [if_neg e]
            rfl
          rw [ec]
          exact M
      generalize hc1 : (fun k => c k + oneW N te H k x) = c1 at *
      have S1 : ∀ k, c1 k = c k + oneW N te H k x := fun k => by rw [← hc1]
      obtain ⟨e, q2, s3, bl3, mb3, c3, rfl, M3, S3⟩ : ∃ e, iter (b_X12_ear_325 (mkH D) 183 a2 H (J (L.length : Int)) (J (a : Int))) FU (s2, bl2, mb2, J ((a : Int) + 1)) = some e ∧ ∃ (s3 bl3 mb3 : Int32) (c3 : Nat → Nat), e = (s3, bl3, mb3) ∧ MSt H c3 s3 bl3 mb3 ∧ ∀ k, c3 k = c1 k + inW N te H k x (L.drop (a + 1)) := by
        refine iter_for (fun y st => ∃ (s1 bl mb : Int32) (c : Nat → Nat), st = (s1, bl, mb, J ((a : Int) + 1 + y)) ∧ MSt H c s1 bl mb ∧ ∀ k, c k + inW N te H k x (L.drop (a + 1 + y)) = c1 k + inW N te H k x (L.drop (a + 1))) _ (L.length - (a + 1)) (by omega) ⟨s2, bl2, mb2, c1, by rw [csN0, Int.add_zero], M1, fun k => rfl⟩ ?_ ?_
        · rintro y st hy ⟨s4, bl4, mb4, c4, rfl, M4, S4⟩
          have hb : a + 1 + y < L.length := by omega
          obtain ⟨z, hz⟩ : ∃ z, L[a + 1 + y]? = some z := ⟨L[a + 1 + y], List.getElem?_eq_getElem hb⟩
          obtain ⟨y1, y2, y3⟩ := a200 (a + 1 + y) z hz
          have ey : ((a + 1 + y : Nat) : Int) = (a : Int) + 1 + y := by omega
          rw [ey] at y1 y2
          have dr2 := drop_one hz
          obtain ⟨s5, bl5, mb5, q3, M5⟩ : ∃ s5 bl5 mb5, (if J (x.1 : Int) = J (z.1 : Int) then
      some (s4, bl4, mb4)
    else
      (gR (mkH D) 183 11 28).bind fun x6 =>
      (aL (mkH D) x6 (J (a : Int))).bind fun x7 =>
      (gR (mkH D) 183 11 28).bind fun x8 =>
      (aL (mkH D) x8 (J ((a : Int) + 1 + y))).bind fun x9 =>
      (if (lg_cmp (x7 ||| x9) H) = 0 then
        (some (s4 + (J 1))).bind fun x10 =>
        (gR (mkH D) 183 11 29).bind fun x11 =>
        (aI (mkH D) x11 (J (a : Int))).bind fun x12 =>
        (gR (mkH D) 183 11 29).bind fun x13 =>
        (aI (mkH D) x13 (J ((a : Int) + 1 + y))).bind fun x14 =>
        (some (((J 1) <<< (x12 &&& 31)) ||| ((J 1) <<< (x14 &&& 31)))).bind fun x15 =>
        (some (bl4 &&& x15)).bind fun x16 =>
        (some (mb4 ||| x15)).bind fun x17 =>
        some (x10, x16, x17)
      else
        some (s4, bl4, mb4))) = some (s5, bl5, mb5) ∧ MSt H (fun k => c4 k + twoW N te H k x z) s5 bl5 mb5 := by
            have jx : (J (x.1 : Int) = J (z.1 : Int)) ↔ x.1 = z.1 := by
              rw [J_eq (by omega) (by omega) (by omega) (by omega)]
              omega
            by_cases e1 : x.1 = z.1
            · refine ⟨s4, bl4, mb4, by rw [if_pos (jx.mpr e1)], ?_⟩
              have ec : (fun k => c4 k + twoW N te H k x z) = c4 := funext fun k => by
                unfold twoW
                rw [if_neg (fun h => h.1 e1)]
                rfl
              rw [ec]
              exact M4
            · by_cases e2 : Xs N te x.1 x.2 ||| Xs N te z.1 z.2 = H
              · refine ⟨s4 + J 1, bl4 &&& ((J 1 <<< (J (x.1 : Int) &&& 31)) ||| (J 1 <<< (J (z.1 : Int) &&& 31))), mb4 ||| ((J 1 <<< (J (x.1 : Int) &&& 31)) ||| (J 1 <<< (J (z.1 : Int) &&& 31))), ?_, ?_⟩
                · rw [if_neg (fun q => e1 (jx.mp q))]
                  refine bind_eq (z183_41 D) (bind_eq x1 (bind_eq (z183_41 D) (bind_eq y1 ?_)))
                  rw [if_pos ((lg0 _ _).mpr e2)]
                  exact bind_eq rfl (bind_eq (z183_42 D) (bind_eq x2 (bind_eq (z183_42 D) (bind_eq y2 (bind_eq rfl (bind_eq rfl (bind_eq rfl rfl)))))))
                · have q := MSt_add (g := x.1) (h := z.1) M4 (fun t _ => ti_bit2 (by omega) (by omega) t)
                  have ec : (fun k => c4 k + twoW N te H k x z) = fun k => c4 k + wtS k x.1 z.1 := funext fun k => by
                    unfold twoW
                    rw [if_pos ⟨e1, e2⟩]
                  rw [ec]
                  exact q
              · refine ⟨s4, bl4, mb4, ?_, ?_⟩
                · rw [if_neg (fun q => e1 (jx.mp q))]
                  refine bind_eq (z183_41 D) (bind_eq x1 (bind_eq (z183_41 D) (bind_eq y1 ?_)))
                  rw [if_neg (fun q => e2 ((lg0 _ _).mp q))]
                · have ec : (fun k => c4 k + twoW N te H k x z) = c4 := funext fun k => by
                    unfold twoW
                    rw [if_neg (fun h => e2 h.2)]
                    rfl
                  rw [ec]
                  exact M4
          refine ⟨(s5, bl5, mb5, J ((a : Int) + 1 + ((y + 1 : Nat) : Int))), ?_, s5, bl5, mb5, _, rfl, M5, fun k => ?_⟩
          · unfold b_X12_ear_325
            rw [if_neg (by rw [J_le (by omega) (by omega) (by omega) (by omega)]; omega)]
            refine bind_eq (z183_42 D) (bind_eq x2 (bind_eq (z183_42 D) (bind_eq y2 (bind_eq q3 (bind_eq rfl ?_)))))
            rw [J_add, Int.add_assoc]
            rfl
          · have q := S4 k
            rw [dr2] at q
            have q : c4 k + (twoW N te H k x z + inW N te H k x (L.drop (a + 1 + y + 1))) = _ := q
            rw [← q, show a + 1 + (y + 1) = a + 1 + y + 1 by omega]
            omega
        · rintro st ⟨s4, bl4, mb4, c4, rfl, M4, S4⟩
          refine ⟨(s4, bl4, mb4), ?_, s4, bl4, mb4, c4, rfl, M4, fun k => ?_⟩
          · unfold b_X12_ear_325
            rw [if_pos (by rw [J_le (by omega) (by omega) (by omega) (by omega)]; omega)]
          · have q := S4 k
            rw [show a + 1 + (L.length - (a + 1)) = L.length by omega, List.drop_length] at q
            have q : c4 k + 0 = _ := q
            rw [← q, Nat.add_zero]
      refine ⟨(s3, bl3, mb3, J ((a : Int) + 1)), ?_, s3, bl3, mb3, c3, rfl, M3, fun k => ?_⟩
      · unfold b_X12_ear_268
        rw [if_neg (by rw [J_le (by omega) (by omega) (by omega) (by omega)]; omega)]
        refine bind_eq (z183_41 D) (bind_eq x1 (bind_eq q1 (bind_eq rfl ?_)))
        rw [J_add]
        exact bind_eq q2 (bind_eq rfl rfl)
      · have q := S k
        rw [dr] at q
        have q : c k + (oneW N te H k x + inW N te H k x (L.drop (a + 1)) + ouW N te H k (L.drop (a + 1))) = _ := q
        rw [S3 k, S1 k, ← q]
        omega
    · rintro st ⟨s1, bl, mb, c, rfl, M, S⟩
      have ec : c = fun k => ouW N te H k L := funext fun k => by
        have q := S k
        rw [List.drop_length] at q
        have q : c k + 0 = _ := q
        rw [← q, Nat.add_zero]
      refine ⟨(s1, bl, mb), ?_, s1, bl, mb, rfl, by rw [← ec]; exact M⟩
      unfold b_X12_ear_268
      rw [if_pos (by rw [J_le (by omega) (by omega) (by omega) (by omega)]; omega)]
  exact ⟨s1, bl, mb, h1, h2⟩
end
