/-! all of a rule by the class -/
theorem rs_mk (d : Mem) (p s : Int) : up (up d 128 2 p) 128 3 s = rs d p s := by
  funext a k
  unfold up rs
  by_cases c : a = 128 ∧ k = 3
  · rw [if_pos c, if_neg (by omega), if_pos c]
  · rw [if_neg c, if_neg c]
theorem k_start {d : Mem} {b : Nat} {m : Int} (hb : shR b = some (0, 120)) (m0 : 0 ≤ m) (m1 : m ≤ 120) : f_X4_startOn_6 (mkH d) 128 b (J m) = some (mkH (rs (up (up d 128 0 b) 128 1 m) 0 0)) := by
  have q : ∀ D : Mem, aN (mkH D) b = some (J 120) := fun D => q_aN hb (by decide)
  simp (disch := first | omega | assumption | decide) only [f_X4_startOn_6, q, rs_mk, z128_0, z128_1, z128_2, z128_3, z128_4, z128_5, z128_6, z128_7, z128_8, z128_9, z130_0, z130_1, SN0, SN1, SN2, SN3, SN4, SN5, SN6, SN7, SN8, SN9, SN10, SN11, SN12, SN13, SN14, SN15, SN16, SN17, SN18, SJ0, SJ1, SJ2, SJ3, SJ4, SJ5, bindS, if_pos, if_neg, w_isWithin, w_isIn, JB_0, JB_1, bz_B, ite10, ite01, Int.natCast_add, csN0, csN1, csN16, Int.toNat_natCast, ite_not, not_true_eq_false, not_false_eq_true]
theorem k_place (d : Mem) (p : Int) : f_X7_faultPlace (mkH (rs d p 1)) 128 = some (J p) := by
  have e3 := rs_st d p 1
  have e2 := rs_at d p 1
  simp (disch := first | omega | assumption | decide) only [f_X7_faultPlace, e3, e2, z128_0, z128_1, z128_2, z128_3, z128_4, z128_5, z128_6, z128_7, z128_8, z128_9, z130_0, z130_1, SN0, SN1, SN2, SN3, SN4, SN5, SN6, SN7, SN8, SN9, SN10, SN11, SN12, SN13, SN14, SN15, SN16, SN17, SN18, SJ0, SJ1, SJ2, SJ3, SJ4, SJ5, bindS, if_pos, if_neg, w_isWithin, w_isIn, JB_0, JB_1, bz_B, ite10, ite01, Int.natCast_add, csN0, csN1, csN16, Int.toNat_natCast, ite_not, not_true_eq_false, not_false_eq_true]
theorem k_place0 (d : Mem) (p : Int) : f_X7_faultPlace (mkH (rs d p 0)) 128 = some (J (-4)) := by
  have e3 := rs_st d p 0
  simp (disch := first | omega | assumption | decide) only [f_X7_faultPlace, e3, z128_0, z128_1, z128_2, z128_3, z128_4, z128_5, z128_6, z128_7, z128_8, z128_9, z130_0, z130_1, SN0, SN1, SN2, SN3, SN4, SN5, SN6, SN7, SN8, SN9, SN10, SN11, SN12, SN13, SN14, SN15, SN16, SN17, SN18, SJ0, SJ1, SJ2, SJ3, SJ4, SJ5, bindS, if_pos, if_neg, w_isWithin, w_isIn, JB_0, JB_1, bz_B, ite10, ite01, Int.natCast_add, csN0, csN1, csN16, Int.toNat_natCast, ite_not, not_true_eq_false, not_false_eq_true]
theorem bzB (v : Bool) : bz (J (B (v = true))) = some () := by cases v <;> rfl
theorem k_all {d : Mem} {b : Nat} {tx : Int → Int} {m : Int} (hb : shR b = some (0, 120)) (m0 : 0 ≤ m) (m1 : m ≤ 120) (ht : ∀ k, 0 ≤ k → k < m → d b k = tx k ∧ -128 ≤ tx k ∧ tx k ≤ 127) : ∃ (v : Bool) (D : Mem), f_X7_readAll (mkH d) 128 b (J m) = some (J (B (v = true)), mkH D) ∧ (∀ x, x ≠ 128 → D x = d x) ∧ f_X7_faultPlace (mkH D) 128 = some (J (if (topS (chS tx m) (fldC d)).2.1 = true ∧ (topS (chS tx m) (fldC d)).1 = m then -4 else (topS (chS tx m) (fldC d)).1)) ∧ ((topS (chS tx m) (fldC d)).2.1 = true → v = (topS (chS tx m) (fldC d)).2.2) := by
  have nb : b ≠ 128 := by
    intro e
    rw [e] at hb
    exact absurd hb (by decide)
  obtain ⟨D, hD⟩ : ∃ D, D = up (up d 128 0 b) 128 1 m := ⟨_, rfl⟩
  have qs := k_start (d := d) hb m0 m1
  rw [← hD] at qs
  have fr : ∀ x, x ≠ 128 → D x = d x := fun x h => by
    funext k
    rw [hD, up_na h, up_na h]
  have ef : fldC D = fldC d := by
    funext c
    unfold fldC
    rw [fr 130 (by decide)]
  have R : RD D b tx m := ⟨by rw [hD, up_nk (by decide), up_same], by rw [hD, up_same], m0, m1, hb, fun k h0 h1 => by rw [fr b nb]; exact ht k h0 h1⟩
  obtain ⟨v, g1, g2⟩ := k_or R 10 0 (by decide) (by decide) 130 0 (by decide) m0 (by omega)
  obtain ⟨o1, o2, o3⟩ := orS_rng (tx := tx) (n := m) (tst_rng (tx := tx) (n := m) (fld := fldC D) 130 0) 0 (by decide) m0
  have eT : orS (chS tx m) (tstS (chS tx m) (fldC D) 130 0) 0 = topS (chS tx m) (fldC d) := by rw [ef]; rfl
  rw [eT] at g1 g2 o2 o3
  generalize topS (chS tx m) (fldC d) = T at *
  have g1 : f_X7_readOr 10 (mkH (rs D 0 0)) 128 (J 0) = _ := g1
  have f2 : ∀ p s x, x ≠ 128 → rs D p s x = d x := fun p s x h => by
    funext k
    rw [rs_na h, fr x h]
  have qO : ∀ p s, isO (mkH (rs D p s)) 128 6 = some () := fun p s => q_isO rfl
  have e0 : ∀ p s, rs D p s 128 1 = m := fun p s => by rw [rs_nk (by decide) (by decide), hD, up_same]
  by_cases c : T.2.1 = true
  · rw [if_pos c] at g1
    have e3 := rs_st D T.1 0
    have e2 := rs_at D T.1 0
    have e1 := e0 T.1 0
    by_cases c2 : T.1 = m
    · refine ⟨v, rs D T.1 0, ?_, f2 _ _, ?_, g2⟩
      · simp (disch := first | omega | assumption | decide) only [f_X7_readAll, qs, g1, e3, f_X4_isAtEnd_6, e1, e2, rs_us, bzB, z128_0, z128_1, z128_2, z128_3, z128_4, z128_5, z128_6, z128_7, z128_8, z128_9, z130_0, z130_1, SN0, SN1, SN2, SN3, SN4, SN5, SN6, SN7, SN8, SN9, SN10, SN11, SN12, SN13, SN14, SN15, SN16, SN17, SN18, SJ0, SJ1, SJ2, SJ3, SJ4, SJ5, bindS, if_pos, if_neg, w_isWithin, w_isIn, JB_0, JB_1, bz_B, ite10, ite01, Int.natCast_add, csN0, csN1, csN16, Int.toNat_natCast, ite_not, not_true_eq_false, not_false_eq_true]
        rw [B_f (fun h => h)]
      · rw [if_pos ⟨c, c2⟩]
        exact k_place0 _ _
    · refine ⟨v, rs D T.1 1, ?_, f2 _ _, ?_, g2⟩
      · simp (disch := first | omega | assumption | decide) only [f_X7_readAll, qs, g1, e3, f_X4_isAtEnd_6, e1, e2, rs_us, bzB, z128_0, z128_1, z128_2, z128_3, z128_4, z128_5, z128_6, z128_7, z128_8, z128_9, z130_0, z130_1, SN0, SN1, SN2, SN3, SN4, SN5, SN6, SN7, SN8, SN9, SN10, SN11, SN12, SN13, SN14, SN15, SN16, SN17, SN18, SJ0, SJ1, SJ2, SJ3, SJ4, SJ5, bindS, if_pos, if_neg, w_isWithin, w_isIn, JB_0, JB_1, bz_B, ite10, ite01, Int.natCast_add, csN0, csN1, csN16, Int.toNat_natCast, ite_not, not_true_eq_false, not_false_eq_true]
      · rw [if_neg (fun h => c2 h.2)]
        exact k_place _ _
  · rw [if_neg c] at g1
    have e3 := rs_st D T.1 1
    refine ⟨v, rs D T.1 1, ?_, f2 _ _, ?_, g2⟩
    · simp (disch := first | omega | assumption | decide) only [f_X7_readAll, qs, g1, e3, rs_us, bzB, z128_0, z128_1, z128_2, z128_3, z128_4, z128_5, z128_6, z128_7, z128_8, z128_9, z130_0, z130_1, SN0, SN1, SN2, SN3, SN4, SN5, SN6, SN7, SN8, SN9, SN10, SN11, SN12, SN13, SN14, SN15, SN16, SN17, SN18, SJ0, SJ1, SJ2, SJ3, SJ4, SJ5, bindS, if_pos, if_neg, w_isWithin, w_isIn, JB_0, JB_1, bz_B, ite10, ite01, Int.natCast_add, csN0, csN1, csN16, Int.toNat_natCast, ite_not, not_true_eq_false, not_false_eq_true]
    · rw [if_neg (fun h => c h.1)]
      exact k_place _ _
