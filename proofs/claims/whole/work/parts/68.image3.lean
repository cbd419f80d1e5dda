section
variable {d : Mem}
theorem m_cp {a b : Nat} {f : Int32 → Hp → Option ((Int32 × Hp) ⊕ Hp)} (h : a ≠ b) {N : Nat} (hN : N = 1744) (hb : ∀ (D : Mem) (k : Nat), k < N → f (J (k : Int)) (mkH D) = some (.inl (J ((k : Int) + 1), mkH (up D b k (D a k))))) (he : ∀ D : Mem, f (J (N : Int)) (mkH D) = some (.inr (mkH D))) : iter (fun s : Int32 × Hp => f s.1 s.2) FU (J 0, mkH d) = some (mkH (fl d b 0 N (d a))) := by
  refine iter_at (fun k => (J (k : Int), mkH (fl d b 0 k (d a)))) N (by simp only [cs0, fl_0]) (by omega) (fun k hk => ?_) ?_
  · show f (J (k : Int)) (mkH (fl d b 0 k (d a))) = _
    rw [hb _ k hk, fl_na h]
    exact congrArg (fun z => some (Sum.inl (J ((k : Int) + 1), mkH z))) (fl_up (by omega) (by omega) rfl)
  · exact he _
theorem ag_image (I : INV d) : ∃ r d1 d2, f_X11_image (mkH d) 0 = some (r, mkH d1) ∧ f_X12_image (mkH d1) 183 = some (r, mkH d2) ∧ INV d2 := by
  obtain ⟨P, L, R, M, S, C⟩ := id I
  obtain ⟨d1, q1, P1, x1⟩ := c_plantTake (p := 77) (p' := 1) (r := 185) isP_77 isP_1 (by omega) (by omega) P
  have L1 : LD d1 59 60 61 185 := LD_rows (x1 59 (by omega)) (x1 60 (by omega)) (x1 61 (by omega)) (x1 185 (by omega)) L
  obtain ⟨d2, q2, P2, x2⟩ := c_loadsTake (l := 106) (l' := 59) (r := 185) ⟨rfl, rfl, rfl⟩ ⟨rfl, rfl, rfl⟩ (by omega) (by omega) L1
  have R1 : RB d2 62 76 185 := RB_rows (by rw [x2 62 (by omega), x1 62 (by omega)]) (by rw [x2 76 (by omega), x1 76 (by omega)]) (by rw [x2 185 (by omega), x1 185 (by omega)]) (fun q q0 q1 => by
    have := rA_le (b := 62) q0 q1
    rw [x2 _ (by omega), x1 _ (by omega)]) R
  obtain ⟨d3, q3, P3, x3⟩ := c_bookTake (b := 109) (b' := 62) (r := 185) isB_109 isB_62 (by omega) (by omega) R1
  have fr : ∀ x, (x < 77 ∨ 123 < x) → d3 x = d x := fun x hx => by rw [x3 x (by omega), x2 x (by omega), x1 x (by omega)]
  obtain ⟨D, hD⟩ : ∃ D, D = up d3 0 7 1 := ⟨_, rfl⟩
  have fD : ∀ x k, (x < 77 ∨ 123 < x) → ¬ (x = 0 ∧ k = 7) → D x k = d x k := fun x k hx h => by
    rw [hD]
    unfold up
    rw [if_neg h, fr x hx]
  have c1 : D 1 1 = d 185 1740 := by rw [fD 1 1 (by omega) (by omega), P.1]
  have qc : f_X11_image (mkH d) 0 = some (J (d 185 1740), mkH D) := by
    refine bind_eq (q_gR rfl rfl) (bind_eq (q_gR rfl rfl) (bind_eq (q_isO rfl) (bind_eq q1 (bind_eq (q_gR rfl rfl) (bind_eq (q_gR rfl rfl) (bind_eq (q_isO rfl) (bind_eq q2 (bind_eq (q_gR rfl rfl) (bind_eq (q_gR rfl rfl) (bind_eq (q_isO rfl) (bind_eq q3 (bind_eq (q_pI rfl rfl) ?_))))))))))))
    rw [show ((7 : Nat) : Int) = 7 from rfl, ← hD]
    refine bind_eq (q_gR rfl rfl) (bind_eq (q_gI rfl rfl) ?_)
    rw [show ((1 : Nat) : Int) = 1 from rfl, c1]
  obtain ⟨N, hN⟩ : ∃ N : Nat, N = 1744 := ⟨_, rfl⟩
  have LM : iter (b_X12_image_2 183) FU (J 0, mkH D) = some (mkH (fl D 186 0 N (D 185))) := by
    refine iter_at (fun k => (J (k : Int), mkH (fl D 186 0 k (D 185)))) N (by simp only [cs0, fl_0]) (by omega) (fun k hk => ?_) ?_
    · have e : fl D 186 0 k (D 185) 185 k = D 185 k := fl_na (by decide)
      simp (disch := first | omega | assumption | decide) only [b_X12_image_2, e, z183_0, z183_1, z183_2, z183_3, z183_4, z183_5, z183_6, z183_7, z183_8, z183_9, z183_10, z183_11, z183_12, z183_13, z183_14, z183_15, z183_16, z183_17, z183_18, z183_19, z183_20, z183_21, z183_22, z183_23, z183_24, z183_25, z183_26, z183_27, z183_28, z183_29, z183_30, z183_31, z183_32, z183_33, z183_34, z183_35, z183_36, z183_37, z183_38, z183_39, z183_40, z183_41, z183_42, z184_0, z184_1, z185_0, z185_1, z186_0, z186_1, z187_0, z187_1, z188_0, z188_1, z189_0, z189_1, z190_0, z190_1, z191_0, z191_1, z192_0, z192_1, z193_0, z193_1, z194_0, z194_1, z195_0, z195_1, z196_0, z196_1, z197_0, z197_1, z198_0, z198_1, z198_2, z199_0, z199_1, z200_0, z200_1, z201_0, z201_1, z202_0, z202_1, SN0, SN1, SN2, SN3, SN4, SN5, SN6, SN7, SN8, SN9, SN10, SN11, SN12, SN13, SN14, SN15, SN16, SN17, SN18, SJ0, SJ1, SJ2, SJ3, SJ4, SJ5, bindS, if_pos, if_neg, w_isWithin, w_isIn, JB_0, JB_1, bz_B, ite10, ite01, Int.natCast_add, csN0, csN1, csN16, Int.toNat_natCast, ite_not, not_true_eq_false, not_false_eq_true]
      exact congrArg (fun z => some (Sum.inl (J ((k : Int) + 1), mkH z))) (fl_up (by omega) (by omega) rfl)
    · simp (disch := first | omega | assumption | decide) only [b_X12_image_2, z183_0, z183_1, z183_2, z183_3, z183_4, z183_5, z183_6, z183_7, z183_8, z183_9, z183_10, z183_11, z183_12, z183_13, z183_14, z183_15, z183_16, z183_17, z183_18, z183_19, z183_20, z183_21, z183_22, z183_23, z183_24, z183_25, z183_26, z183_27, z183_28, z183_29, z183_30, z183_31, z183_32, z183_33, z183_34, z183_35, z183_36, z183_37, z183_38, z183_39, z183_40, z183_41, z183_42, z184_0, z184_1, z185_0, z185_1, z186_0, z186_1, z187_0, z187_1, z188_0, z188_1, z189_0, z189_1, z190_0, z190_1, z191_0, z191_1, z192_0, z192_1, z193_0, z193_1, z194_0, z194_1, z195_0, z195_1, z196_0, z196_1, z197_0, z197_1, z198_0, z198_1, z198_2, z199_0, z199_1, z200_0, z200_1, z201_0, z201_1, z202_0, z202_1, SN0, SN1, SN2, SN3, SN4, SN5, SN6, SN7, SN8, SN9, SN10, SN11, SN12, SN13, SN14, SN15, SN16, SN17, SN18, SJ0, SJ1, SJ2, SJ3, SJ4, SJ5, bindS, if_pos, if_neg, w_isWithin, w_isIn, JB_0, JB_1, bz_B, ite10, ite01, Int.natCast_add, csN0, csN1, csN16, Int.toNat_natCast, ite_not, not_true_eq_false, not_false_eq_true]
  obtain ⟨E, hE⟩ : ∃ E, E = fl D 186 0 N (D 185) := ⟨_, rfl⟩
  rw [← hE] at LM
  have e185 : E 185 = D 185 := by rw [hE, fl_row (by decide)]
  have x1740 : up E 183 10 1 185 1740 = d 185 1740 := by rw [up_na (by decide), e185, fD 185 1740 (by omega) (by omega)]
  have qm : f_X12_image (mkH D) 183 = some (J (d 185 1740), mkH (up E 183 10 1)) := by
    refine bind_eq rfl (bind_eq LM (bind_eq (q_pI rfl rfl) (bind_eq (q_gR rfl rfl) ?_)))
    rw [show ((10 : Nat) : Int) = 10 from rfl]
    refine bind_eq (q_aI (len := 1744) rfl (by decide) (by decide) (by decide)) ?_
    rw [x1740]
  refine ⟨_, _, _, qc, qm, ?_⟩
  have rE : ∀ x k, x ≠ 186 → ¬ (x = 183 ∧ k = 10) → up E 183 10 1 x k = D x k := fun x k h h2 => by
    rw [hE]
    unfold up
    rw [if_neg h2, fl_na h]
  have rR : ∀ x, (x ≤ 76 ∨ 124 ≤ x) → x ≠ 186 → x ≠ 183 → x ≠ 0 → up E 183 10 1 x = d x := fun x h1 h2 h3 h4 => funext fun k => by rw [rE x k h2 (by omega), fD x k (by omega) (by omega)]
  have rI : ∀ x, 77 ≤ x → x ≤ 123 → up E 183 10 1 x = d3 x := fun x h1 h2 => funext fun k => by rw [rE x k (by omega) (by omega), hD, up_na (by omega)]
  have r186 : ∀ k, 0 ≤ k → k < 1744 → up E 183 10 1 186 k = up E 183 10 1 185 k := fun k k0 k1 => by
    rw [up_na (by decide), up_na (by decide), e185, hE, fl_in k0 (by omega)]
  have r185 : up E 183 10 1 185 = d 185 := rR 185 (by omega) (by decide) (by decide) (by decide)
  have d185 : d3 185 = d 185 := fr 185 (by omega)
  refine ⟨PL_rows (rR _ (by omega) (by decide) (by decide) (by decide)) (rR _ (by omega) (by decide) (by decide) (by decide)) (rR _ (by omega) (by decide) (by decide) (by decide)) (rR _ (by omega) (by decide) (by decide) (by decide)) r185 (fun i i0 i1 => ?_) P, LD_rows (rR _ (by omega) (by decide) (by decide) (by decide)) (rR _ (by omega) (by decide) (by decide) (by decide)) (rR _ (by omega) (by decide) (by decide) (by decide)) r185 L, RB_rows (rR _ (by omega) (by decide) (by decide) (by decide)) (rR _ (by omega) (by decide) (by decide) (by decide)) r185 (fun q q0 q1 => ?_) R, ?_, fun i i0 i1 => ?_, fun x h0 h1 => ?_⟩
  · have := gA_le (p := 1) i0 i1
    exact ⟨rR _ (by omega) (by omega) (by omega) (by omega), rR _ (by omega) (by omega) (by omega) (by omega)⟩
  · have := rA_le (b := 62) q0 q1
    exact rR _ (by omega) (by omega) (by omega) (by omega)
  · have e07 : up E 183 10 1 0 7 = 1 := by rw [rE 0 7 (by decide) (by omega), hD, up_same]
    have e183 : up E 183 10 1 183 10 = 1 := up_same _ _ _ _
    unfold IM
    rw [e07, e183]
    have g185 : up E 183 10 1 185 = d3 185 := by rw [r185, d185]
    refine ⟨rfl, Or.inr ⟨rfl, PL_r r186 (PL_rows (rI _ (by omega) (by omega)) (rI _ (by omega) (by omega)) (rI _ (by omega) (by omega)) (rI _ (by omega) (by omega)) g185 (fun i i0 i1 => ?_) (PL_rows (d := d1) (d' := d3) (by rw [x3 77 (by omega), x2 77 (by omega)]) (by rw [x3 79 (by omega), x2 79 (by omega)]) (by rw [x3 80 (by omega), x2 80 (by omega)]) (by rw [x3 81 (by omega), x2 81 (by omega)]) (by rw [x3 185 (by omega), x2 185 (by omega)]) (fun i i0 i1 => ?_) P1)), LD_r r186 (LD_rows (rI _ (by omega) (by omega)) (rI _ (by omega) (by omega)) (rI _ (by omega) (by omega)) g185 (LD_rows (d := d2) (d' := d3) (x3 106 (by omega)) (x3 107 (by omega)) (x3 108 (by omega)) (x3 185 (by omega)) P2)), RB_r r186 (RB_rows (rI _ (by omega) (by omega)) (rI _ (by omega) (by omega)) g185 (fun q q0 q1 => ?_) P3)⟩⟩
    · have := gA_le (p := 77) i0 i1
      exact ⟨rI _ (by omega) (by omega), rI _ (by omega) (by omega)⟩
    · have := gA_le (p := 77) i0 i1
      exact ⟨by rw [x3 _ (by omega), x2 _ (by omega)], by rw [x3 _ (by omega), x2 _ (by omega)]⟩
    · have := rA_le (b := 109) q0 q1
      exact rI _ (by omega) (by omega)
  · have q := sA_le i0 i1
    have rr : ∀ x, 124 ≤ x → x ≤ 193 → x ≠ 183 → x ≠ 186 → up E 183 10 1 x = d x := fun x h1 h2 h3 h4 => rR x (by omega) h4 h3 (by omega)
    exact SH_rows (rr _ (by omega) (by omega) (by omega) (by omega)) (rr _ (by omega) (by omega) (by omega) (by omega)) (rr _ (by omega) (by omega) (by omega) (by omega)) (rr _ (by omega) (by omega) (by omega) (by omega)) (congrFun (rr 188 (by omega) (by omega) (by omega) (by omega)) i) (congrFun (rr 189 (by omega) (by omega) (by omega) (by omega)) i) (congrFun (rr 190 (by omega) (by omega) (by omega) (by omega)) i) (fun k _ _ => congrFun (rr 191 (by omega) (by omega) (by omega) (by omega)) _) (congrFun (rr 192 (by omega) (by omega) (by omega) (by omega)) i) (congrFun (rr 193 (by omega) (by omega) (by omega) (by omega)) i) (S i i0 i1)
  · rw [rR 184 (by omega) (by decide) (by decide) (by decide)]
    exact C x h0 h1
theorem ag_restore (I : INV d) : ∃ r d1 d2, f_X11_restore (mkH d) 0 = some (r, mkH d1) ∧ f_X12_restore (mkH d1) 183 = some (r, mkH d2) ∧ INV d2 := by
  obtain ⟨P, L, R, ⟨M1, M2⟩, S, C⟩ := id I
  by_cases c0 : d 183 10 = 0
  · refine ⟨J (-3), d, d, ?_, ?_, I⟩
    · refine bind_eq (q_gI rfl rfl) ?_
      rw [show ((7 : Nat) : Int) = 7 from rfl, M1, c0]
      rfl
    · refine bind_eq (q_gI rfl rfl) ?_
      rw [show ((10 : Nat) : Int) = 10 from rfl, c0]
      rfl
  · obtain ⟨m1, m2, m3, m4⟩ : d 183 10 = 1 ∧ PL d 77 79 80 81 186 ∧ LD d 106 107 108 186 ∧ RB d 109 123 186 := by
      rcases M2 with h | h
      · exact absurd h c0
      · exact h
    have n1 : ¬ (J 1 = 0) := by decide
    obtain ⟨d1, q1, P1, x1⟩ := c_plantTake (p := 1) (p' := 77) (r := 186) isP_1 isP_77 (by omega) (by omega) m2
    have L1 : LD d1 106 107 108 186 := LD_rows (x1 106 (by omega)) (x1 107 (by omega)) (x1 108 (by omega)) (x1 186 (by omega)) m3
    obtain ⟨d2, q2, P2, x2⟩ := c_loadsTake (l := 59) (l' := 106) (r := 186) ⟨rfl, rfl, rfl⟩ ⟨rfl, rfl, rfl⟩ (by omega) (by omega) L1
    have R1 : RB d2 109 123 186 := RB_rows (by rw [x2 109 (by omega), x1 109 (by omega)]) (by rw [x2 123 (by omega), x1 123 (by omega)]) (by rw [x2 186 (by omega), x1 186 (by omega)]) (fun q q0 q1 => by
      have := rA_le (b := 109) q0 q1
      rw [x2 _ (by omega), x1 _ (by omega)]) m4
    obtain ⟨d3, q3, P3, x3⟩ := c_bookTake (b := 62) (b' := 109) (r := 186) isB_62 isB_109 (by omega) (by omega) R1
    have fr : ∀ x, (x = 0 ∨ 30 ≤ x ∧ x ≤ 58 ∨ 77 ≤ x) → d3 x = d x := fun x hx => by rw [x3 x (by omega), x2 x (by omega), x1 x (by omega)]
    have y1 : PL d3 1 3 4 5 186 := PL_rows (by rw [x3 1 (by omega), x2 1 (by omega)]) (by rw [x3 3 (by omega), x2 3 (by omega)]) (by rw [x3 4 (by omega), x2 4 (by omega)]) (by rw [x3 5 (by omega), x2 5 (by omega)]) (by rw [x3 186 (by omega), x2 186 (by omega)]) (fun i i0 i1 => by
      have := gA_le (p := 1) i0 i1
      exact ⟨by rw [x3 _ (by omega), x2 _ (by omega)], by rw [x3 _ (by omega), x2 _ (by omega)]⟩) P1
    have y2 : LD d3 59 60 61 186 := LD_rows (x3 59 (by omega)) (x3 60 (by omega)) (x3 61 (by omega)) (x3 186 (by omega)) P2
    have c1 : d3 1 1 = d 186 1740 := by rw [y1.1, fr 186 (by omega)]
    have qc : f_X11_restore (mkH d) 0 = some (J (d 186 1740), mkH d3) := by
      refine bind_eq (q_gI rfl rfl) ?_
      rw [show ((7 : Nat) : Int) = 7 from rfl, M1, m1, if_neg n1]
      refine bind_eq (q_gR rfl rfl) (bind_eq (q_gR rfl rfl) (bind_eq (q_isO rfl) (bind_eq q1 (bind_eq (q_gR rfl rfl) (bind_eq (q_gR rfl rfl) (bind_eq (q_isO rfl) (bind_eq q2 (bind_eq (q_gR rfl rfl) (bind_eq (q_gR rfl rfl) (bind_eq (q_isO rfl) (bind_eq q3 (bind_eq (q_gR rfl rfl) (bind_eq (q_gI rfl rfl) ?_)))))))))))))
      rw [show ((1 : Nat) : Int) = 1 from rfl, c1]
    obtain ⟨N, hN⟩ : ∃ N : Nat, N = 1744 := ⟨_, rfl⟩
    have LM : iter (b_X12_restore_12 183) FU (J 0, mkH d3) = some (mkH (fl d3 185 0 N (d3 186))) := by
      refine iter_at (fun k => (J (k : Int), mkH (fl d3 185 0 k (d3 186)))) N (by simp only [cs0, fl_0]) (by omega) (fun k hk => ?_) ?_
      · have e : fl d3 185 0 k (d3 186) 186 k = d3 186 k := fl_na (by decide)
        simp (disch := first | omega | assumption | decide) only [b_X12_restore_12, e, z183_0, z183_1, z183_2, z183_3, z183_4, z183_5, z183_6, z183_7, z183_8, z183_9, z183_10, z183_11, z183_12, z183_13, z183_14, z183_15, z183_16, z183_17, z183_18, z183_19, z183_20, z183_21, z183_22, z183_23, z183_24, z183_25, z183_26, z183_27, z183_28, z183_29, z183_30, z183_31, z183_32, z183_33, z183_34, z183_35, z183_36, z183_37, z183_38, z183_39, z183_40, z183_41, z183_42, z184_0, z184_1, z185_0, z185_1, z186_0, z186_1, z187_0, z187_1, z188_0, z188_1, z189_0, z189_1, z190_0, z190_1, z191_0, z191_1, z192_0, z192_1, z193_0, z193_1, z194_0, z194_1, z195_0, z195_1, z196_0, z196_1, z197_0, z197_1, z198_0, z198_1, z198_2, z199_0, z199_1, z200_0, z200_1, z201_0, z201_1, z202_0, z202_1, SN0, SN1, SN2, SN3, SN4, SN5, SN6, SN7, SN8, SN9, SN10, SN11, SN12, SN13, SN14, SN15, SN16, SN17, SN18, SJ0, SJ1, SJ2, SJ3, SJ4, SJ5, bindS, if_pos, if_neg, w_isWithin, w_isIn, JB_0, JB_1, bz_B, ite10, ite01, Int.natCast_add, csN0, csN1, csN16, Int.toNat_natCast, ite_not, not_true_eq_false, not_false_eq_true]
        exact congrArg (fun z => some (Sum.inl (J ((k : Int) + 1), mkH z))) (fl_up (by omega) (by omega) rfl)
      · simp (disch := first | omega | assumption | decide) only [b_X12_restore_12, z183_0, z183_1, z183_2, z183_3, z183_4, z183_5, z183_6, z183_7, z183_8, z183_9, z183_10, z183_11, z183_12, z183_13, z183_14, z183_15, z183_16, z183_17, z183_18, z183_19, z183_20, z183_21, z183_22, z183_23, z183_24, z183_25, z183_26, z183_27, z183_28, z183_29, z183_30, z183_31, z183_32, z183_33, z183_34, z183_35, z183_36, z183_37, z183_38, z183_39, z183_40, z183_41, z183_42, z184_0, z184_1, z185_0, z185_1, z186_0, z186_1, z187_0, z187_1, z188_0, z188_1, z189_0, z189_1, z190_0, z190_1, z191_0, z191_1, z192_0, z192_1, z193_0, z193_1, z194_0, z194_1, z195_0, z195_1, z196_0, z196_1, z197_0, z197_1, z198_0, z198_1, z198_2, z199_0, z199_1, z200_0, z200_1, z201_0, z201_1, z202_0, z202_1, SN0, SN1, SN2, SN3, SN4, SN5, SN6, SN7, SN8, SN9, SN10, SN11, SN12, SN13, SN14, SN15, SN16, SN17, SN18, SJ0, SJ1, SJ2, SJ3, SJ4, SJ5, bindS, if_pos, if_neg, w_isWithin, w_isIn, JB_0, JB_1, bz_B, ite10, ite01, Int.natCast_add, csN0, csN1, csN16, Int.toNat_natCast, ite_not, not_true_eq_false, not_false_eq_true]
    obtain ⟨E, hE⟩ : ∃ E, E = fl d3 185 0 N (d3 186) := ⟨_, rfl⟩
    rw [← hE] at LM
    have rE : ∀ x, x ≠ 185 → E x = d3 x := fun x h => by rw [hE, fl_row h]
    have r185 : ∀ k, 0 ≤ k → k < 1744 → E 185 k = E 186 k := fun k k0 k1 => by rw [rE 186 (by decide), hE, fl_in k0 (by omega)]
    have x1740 : E 185 1740 = d 186 1740 := by rw [r185 1740 (by decide) (by decide), rE 186 (by decide), fr 186 (by omega)]
    have qm : f_X12_restore (mkH d3) 183 = some (J (d 186 1740), mkH E) := by
      have m1' : d3 183 10 = 1 := by rw [fr 183 (by omega), m1]
      refine bind_eq (q_gI rfl rfl) ?_
      rw [show ((10 : Nat) : Int) = 10 from rfl, m1', if_neg n1]
      refine bind_eq rfl (bind_eq LM (bind_eq (q_gR rfl rfl) (bind_eq (q_aI (len := 1744) rfl (by decide) (by decide) (by decide)) ?_)))
      rw [x1740]
    refine ⟨_, _, _, qc, qm, INV_mk I (PL_r r185 (PL_rows (rE _ (by decide)) (rE _ (by decide)) (rE _ (by decide)) (rE _ (by decide)) (rE _ (by decide)) (fun i i0 i1 => ?_) y1)) (LD_r r185 (LD_rows (rE _ (by decide)) (rE _ (by decide)) (rE _ (by decide)) (rE _ (by decide)) y2)) (RB_r r185 (RB_rows (rE _ (by decide)) (rE _ (by decide)) (rE _ (by decide)) (fun q q0 q1 => ?_) P3)) (fun x k s h1 h2 => ?_)⟩
    · have := gA_le (p := 1) i0 i1
      exact ⟨rE _ (by omega), rE _ (by omega)⟩
    · have := rA_le (b := 62) q0 q1
      exact rE _ (by omega)
    · rw [rE x h2, fr x (by omega)]
end
