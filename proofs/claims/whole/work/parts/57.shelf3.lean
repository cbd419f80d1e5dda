section
variable {d : Mem}
theorem J_self (x : Int32) : x = J x.toInt := (J_toInt x).symm
theorem i8_rng (x : Int32) : -128 ≤ x.toInt8.toInt32.toInt ∧ x.toInt8.toInt32.toInt ≤ 127 := by
  have h1 := Int8.le_toInt x.toInt8
  have h2 := Int8.toInt_lt x.toInt8
  rw [Int8.toInt_toInt32]
  omega
theorem i32_rng (x : Int32) : -2147483648 ≤ x.toInt ∧ x.toInt < 2147483648 := by
  have h1 := Int32.le_toInt x
  have h2 := Int32.toInt_lt x
  omega
theorem ag_put (I : INV d) (x y u : Int32) : ∃ r d1 d2, f_X11_put (mkH d) 0 x y u = some (r, mkH d1) ∧ f_X12_put (mkH d1) 183 x y u = some (r, mkH d2) ∧ INV d2 := by
  obtain ⟨i, z1, z2, rfl⟩ := J_of x
  obtain ⟨k, k1, k2, rfl⟩ := J_of y
  have e1 := c_isShelf z1 z2
  have e2 := m_isShelf z1 z2
  by_cases c : 0 ≤ i ∧ i ≤ 7
  · rw [B_t c] at e1 e2
    obtain ⟨c1, c2⟩ := c
    have c3 : i < 8 := by omega
    have hS := isS_A c1 c3
    have sl := sA_le c1 c3
    obtain ⟨s1, s2, s3, s4, s5, s6, s7, s8, s9, s10, s11⟩ := I.2.2.2.2.1 i c1 c3
    have g := c_rowR (d := d) hS (by omega) (by omega)
    have w := m_wrongRow (d := d) c1 c3 s4 s5 s6 s7 (f := -1) (by decide) (by decide)
    rw [s1] at g
    by_cases q0 : d 188 i = 0
    · rw [if_pos q0] at g
      rw [q0] at w
      have w : f_X12_wrongRow (mkH d) 183 (J i) (J (-1)) = some (J (-11)) := w
      exact ⟨J (-11), d, d, by simp (disch := first | omega | assumption | decide) only [f_X11_put, e1, g, z0_0, z0_1, z0_2, z0_3, z0_4, z0_5, z0_6, z0_7, z0_8, z0_9, z0_10, z0_11, z0_12, z0_13, z0_14, z0_15, z0_16, z0_17, z1_0, z1_1, z1_2, z1_3, z1_4, z1_5, z1_6, z1_7, z1_8, z2_0, z3_0, z3_1, z4_0, z4_1, z5_0, z5_1, z124_0, SG0, SG1, SG2, SG3, SG4, SG5, SG6, SG7, SG8, SG9, SG10, SG11, SG12, SS0, SS1, SS2, SS3, SS4, SS5, SS6, SS7, SS8, SS9, SS10, SS11, z30_0, z30_1, z30_2, z30_3, z30_4, z30_5, z30_6, z30_7, z30_8, z59_0, z59_1, z59_2, z59_3, z59_4, z62_0, z62_1, z62_2, z62_3, z62_4, z63_0, z76_0, z76_1, z125_0, z125_1, z125_2, z125_3, z125_4, z125_5, z125_6, z125_7, z125_8, z125_9, z125_10, z125_11, z125_12, z125_13, z128_0, z128_1, z128_2, z128_3, z128_4, z128_5, z128_6, z128_7, z128_8, z128_9, z130_0, z130_1, z131_0, z131_1, z131_2, z131_3, z131_4, z131_5, z131_6, z131_7, z131_8, z140_0, z140_1, z140_2, z140_3, z140_4, z140_5, z140_6, z140_7, z145_0, z145_1, z146_0, z146_1, z146_2, z146_3, z146_4, z146_5, z146_6, z146_7, z146_8, z146_9, z146_10, z146_11, z146_12, z146_13, z146_14, SN0, SN1, SN2, SN3, SN4, SN5, SN6, SN7, SN8, SN9, SN10, SN11, SN12, SN13, SN14, SN15, SN16, SN17, SN18, SJ0, SJ1, SJ2, SJ3, SJ4, SJ5, bindS, if_pos, if_neg, w_isWithin, w_isIn, JB_0, JB_1, bz_B, ite10, ite01, Int.natCast_add, csN0, csN1, csN16, Int.toNat_natCast, ite_not, not_true_eq_false, not_false_eq_true], by simp (disch := first | omega | assumption | decide) only [f_X12_put, w, z183_0, z183_1, z183_2, z183_3, z183_4, z183_5, z183_6, z183_7, z183_8, z183_9, z183_10, z183_11, z183_12, z183_13, z183_14, z183_15, z183_16, z183_17, z183_18, z183_19, z183_20, z183_21, z183_22, z183_23, z183_24, z183_25, z183_26, z183_27, z183_28, z183_29, z183_30, z183_31, z183_32, z183_33, z183_34, z183_35, z183_36, z183_37, z183_38, z183_39, z183_40, z183_41, z183_42, z184_0, z184_1, z185_0, z185_1, z186_0, z186_1, z187_0, z187_1, z188_0, z188_1, z189_0, z189_1, z190_0, z190_1, z191_0, z191_1, z192_0, z192_1, z193_0, z193_1, z194_0, z194_1, z195_0, z195_1, z196_0, z196_1, z197_0, z197_1, z198_0, z198_1, z198_2, z199_0, z199_1, z200_0, z200_1, z201_0, z201_1, z202_0, z202_1, SN0, SN1, SN2, SN3, SN4, SN5, SN6, SN7, SN8, SN9, SN10, SN11, SN12, SN13, SN14, SN15, SN16, SN17, SN18, SJ0, SJ1, SJ2, SJ3, SJ4, SJ5, bindS, if_pos, if_neg, w_isWithin, w_isIn, JB_0, JB_1, bz_B, ite10, ite01, Int.natCast_add, csN0, csN1, csN16, Int.toNat_natCast, ite_not, not_true_eq_false, not_false_eq_true], I⟩
    · rw [if_neg q0] at g
      by_cases q2 : d 188 i = 2
      · rw [if_pos q2] at g
        rw [q2] at w
        have w : f_X12_wrongRow (mkH d) 183 (J i) (J (-1)) = some (J 0) := w
        by_cases hk : 0 ≤ k ∧ k ≤ d 190 i - 1
        · have b1 := B_t hk
          have hp : f_X8_hasPlace (mkH d) (sA i) (J k) = some (J 1) := by simp (disch := first | omega | assumption | decide) only [f_X8_hasPlace, s3, b1, SS0, SS1, SS2, SS3, SS4, SS5, SS6, SS7, SS8, SS9, SS10, SS11, SG0, SG1, SG2, SG3, SG4, SG5, SG6, SG7, SG8, SG9, SG10, SG11, SG12, SN0, SN1, SN2, SN3, SN4, SN5, SN6, SN7, SN8, SN9, SN10, SN11, SN12, SN13, SN14, SN15, SN16, SN17, SN18, SJ0, SJ1, SJ2, SJ3, SJ4, SJ5, bindS, if_pos, if_neg, w_isWithin, w_isIn, JB_0, JB_1, bz_B, ite10, ite01, Int.natCast_add, csN0, csN1, csN16, Int.toNat_natCast, ite_not, not_true_eq_false, not_false_eq_true]
          obtain ⟨hk1, hk2⟩ := hk
          -- the value that is put
          obtain ⟨v, hv⟩ : ∃ v : Int32, v = if d 189 i = 0 then u.toInt8.toInt32 else if d 189 i = 1 then u.toInt16.toInt32 else u := ⟨_, rfl⟩
          have hvr := i32_rng v
          have p1 : f_X8_setElement (mkH d) (sA i) (J k) u = some (mkH (up d (sA i + 3) k v.toInt)) := by
            have hsI : sI (mkH d) (sA i + 3) (J k) v = some (mkH (up d (sA i + 3) k v.toInt)) := by
              conv => lhs; rw [J_self v]
              exact SS10 d _ k v.toInt hS hk1 (by omega)
            unfold f_X8_setElement
            refine bind_eq (SS3 d _ hS) ?_
            rw [s2]
            by_cases t0 : d 189 i = 0
            · rw [if_pos t0] at hv
              rw [hv] at hsI ⊢
              rw [t0, if_pos rfl]
              exact bind_eq (bind_eq (SS5 d _ hS) (bind_eq hsI rfl)) rfl
            · rw [if_neg t0] at hv
              rw [if_neg (by rw [J_eq (by omega) (by omega) (by omega) (by omega)]; exact t0)]
              by_cases t1 : d 189 i = 1
              · rw [if_pos t1] at hv
                rw [hv] at hsI ⊢
                rw [t1, if_pos rfl]
                exact bind_eq (bind_eq (SS5 d _ hS) (bind_eq hsI rfl)) rfl
              · rw [if_neg t1] at hv
                rw [hv] at hsI ⊢
                rw [if_neg (by rw [J_eq (by omega) (by omega) (by omega) (by omega)]; exact t1)]
                exact bind_eq (bind_eq (SS5 d _ hS) (bind_eq hsI rfl)) rfl
          generalize hV : v.toInt = V at *
          obtain ⟨d1, hd1⟩ : ∃ d1, d1 = up d (sA i + 3) k V := ⟨_, rfl⟩
          rw [← hd1] at p1
          have x188 : d1 188 = d 188 := by rw [hd1, up_row (by omega)]
          have x189 : d1 189 = d 189 := by rw [hd1, up_row (by omega)]
          have x190 : d1 190 = d 190 := by rw [hd1, up_row (by omega)]
          have w1 : f_X12_wrongRow (mkH d1) 183 (J i) (J (-1)) = some (J 0) := by
            have h := m_wrongRow (d := d1) c1 c3 (by rw [x188]; exact s4) (by rw [x188]; exact s5) (by rw [x189]; exact s6) (by rw [x189]; exact s7) (f := -1) (by decide) (by decide)
            rw [x188, q2] at h
            exact h
          have q1 : f_X11_put (mkH d) 0 (J i) (J k) u = some (J 0, mkH d1) := by simp (disch := first | omega | assumption | decide) only [f_X11_put, e1, g, hp, p1, z0_0, z0_1, z0_2, z0_3, z0_4, z0_5, z0_6, z0_7, z0_8, z0_9, z0_10, z0_11, z0_12, z0_13, z0_14, z0_15, z0_16, z0_17, z1_0, z1_1, z1_2, z1_3, z1_4, z1_5, z1_6, z1_7, z1_8, z2_0, z3_0, z3_1, z4_0, z4_1, z5_0, z5_1, z124_0, SG0, SG1, SG2, SG3, SG4, SG5, SG6, SG7, SG8, SG9, SG10, SG11, SG12, SS0, SS1, SS2, SS3, SS4, SS5, SS6, SS7, SS8, SS9, SS10, SS11, z30_0, z30_1, z30_2, z30_3, z30_4, z30_5, z30_6, z30_7, z30_8, z59_0, z59_1, z59_2, z59_3, z59_4, z62_0, z62_1, z62_2, z62_3, z62_4, z63_0, z76_0, z76_1, z125_0, z125_1, z125_2, z125_3, z125_4, z125_5, z125_6, z125_7, z125_8, z125_9, z125_10, z125_11, z125_12, z125_13, z128_0, z128_1, z128_2, z128_3, z128_4, z128_5, z128_6, z128_7, z128_8, z128_9, z130_0, z130_1, z131_0, z131_1, z131_2, z131_3, z131_4, z131_5, z131_6, z131_7, z131_8, z140_0, z140_1, z140_2, z140_3, z140_4, z140_5, z140_6, z140_7, z145_0, z145_1, z146_0, z146_1, z146_2, z146_3, z146_4, z146_5, z146_6, z146_7, z146_8, z146_9, z146_10, z146_11, z146_12, z146_13, z146_14, SN0, SN1, SN2, SN3, SN4, SN5, SN6, SN7, SN8, SN9, SN10, SN11, SN12, SN13, SN14, SN15, SN16, SN17, SN18, SJ0, SJ1, SJ2, SJ3, SJ4, SJ5, bindS, if_pos, if_neg, w_isWithin, w_isIn, JB_0, JB_1, bz_B, ite10, ite01, Int.natCast_add, csN0, csN1, csN16, Int.toNat_natCast, ite_not, not_true_eq_false, not_false_eq_true]
          have hsM : sI (mkH d1) 191 (J (120 * i + k)) v = some (mkH (up d1 191 (120 * i + k) V)) := by
            conv => lhs; rw [J_self v, hV]
            exact q_sI (len := 960) rfl (by decide) (by omega) (by omega)
          have q2' : f_X12_put (mkH d1) 183 (J i) (J k) u = some (J 0, mkH (up d1 191 (120 * i + k) V)) := by
            have b2 : B (0 ≤ k ∧ k ≤ d1 190 i - 1) = 1 := by rw [x190]; exact b1
            have hin : f_X12_isIn (J k).toInt64 (K 0) (J (d1 190 i) - J 1).toInt64 = some (J 1) := by
              have r9 : 0 ≤ d1 190 i ∧ d1 190 i ≤ 120 := by rw [x190]; exact ⟨s8, s9⟩
              simp (disch := first | omega | assumption | decide) only [b2, SN0, SN1, SN2, SN3, SN4, SN5, SN6, SN7, SN8, SN9, SN10, SN11, SN12, SN13, SN14, SN15, SN16, SN17, SN18, SJ0, SJ1, SJ2, SJ3, SJ4, SJ5, bindS, if_pos, if_neg, w_isWithin, w_isIn, JB_0, JB_1, bz_B, ite10, ite01, Int.natCast_add, csN0, csN1, csN16, Int.toNat_natCast, ite_not, not_true_eq_false, not_false_eq_true]
            have a190 : aI (mkH d1) 190 (J i) = some (J (d1 190 i)) := q_aI (len := 8) rfl (by decide) (by omega) (by omega)
            have a189 : aI (mkH d1) 189 (J i) = some (J (d 189 i)) := by rw [← x189]; exact q_aI (len := 8) rfl (by decide) (by omega) (by omega)
            unfold f_X12_put
            refine bind_eq (z183_0 d1) (bind_eq w1 ?_)
            rw [if_pos (by rfl)]
            refine bind_eq (q_gR rfl rfl) (bind_eq a190 (bind_eq hin ?_))
            rw [if_neg (by decide)]
            refine bind_eq (q_gR rfl rfl) (bind_eq (q_gR rfl rfl) (bind_eq a189 (bind_eq (a := v) ?_ (bind_eq (a := mkH (up d1 191 (120 * i + k) V)) ?_ rfl))))
            · by_cases t0 : d 189 i = 0
              · rw [if_pos t0] at hv
                rw [t0, if_pos (by rfl), hv]
              · rw [if_neg t0] at hv
                rw [if_neg (by rw [J_zero, J_eq (by omega) (by omega) (by omega) (by omega)]; exact t0)]
                refine bind_eq (q_gR rfl rfl) (bind_eq a189 ?_)
                by_cases t1 : d 189 i = 1
                · rw [if_pos t1] at hv
                  rw [t1, if_pos (by rfl), hv]
                · rw [if_neg t1] at hv
                  rw [if_neg (by rw [J_eq (by omega) (by omega) (by omega) (by omega)]; exact t1), hv]
            · rw [J_mul, J_add]
              exact hsM
          have fo : ∀ a y, a ≠ 191 → a ≠ sA i + 3 → up d1 191 (120 * i + k) V a y = d a y := fun a y h0 h1 => by rw [up_na h0, hd1, up_na h1]
          refine ⟨J 0, d1, _, q1, q2', INV_sh I i c1 c3 ?_ ?_⟩
          · unfold SH
            rw [fo (sA i) 0 (by omega) (by omega), fo (sA i) 2 (by omega) (by omega), fo (sA i) 3 (by omega) (by omega), fo 188 i (by decide) (by omega), fo 189 i (by decide) (by omega), fo 190 i (by decide) (by omega)]
            refine ⟨s1, s2, s3, s4, s5, s6, s7, s8, s9, fun y y0 y1 => ?_, fun h => by omega⟩
            have ea : up d1 191 (120 * i + k) V (sA i + 3) y = if y = k then V else d (sA i + 3) y := by
              rw [up_na (by omega), hd1]
              unfold up
              simp only [true_and]
            have eb : up d1 191 (120 * i + k) V 191 (120 * i + y) = if y = k then V else d 191 (120 * i + y) := by
              by_cases e : y = k
              · rw [if_pos e, e, up_same]
              · rw [if_neg e, up_nk (by omega), hd1, up_na (by omega)]
            rw [ea, eb]
            by_cases e : y = k
            · rw [if_pos e, if_pos e]
              refine ⟨rfl, by omega, by omega, fun h => ?_⟩
              rw [if_pos h] at hv
              have := i8_rng u
              rw [← hV, hv]
              exact this
            · rw [if_neg e, if_neg e]
              exact s10 y y0 y1
          · intro a y sc n1 n2 n3 n4 n5 n6
            by_cases a191 : a = 191
            · rw [a191, up_nk (by omega), hd1, up_na (by omega)]
            · exact fo a y a191 n4
        · have b1 := B_f hk
          have hp : f_X8_hasPlace (mkH d) (sA i) (J k) = some (J 0) := by simp (disch := first | omega | assumption | decide) only [f_X8_hasPlace, s3, b1, SS0, SS1, SS2, SS3, SS4, SS5, SS6, SS7, SS8, SS9, SS10, SS11, SG0, SG1, SG2, SG3, SG4, SG5, SG6, SG7, SG8, SG9, SG10, SG11, SG12, SN0, SN1, SN2, SN3, SN4, SN5, SN6, SN7, SN8, SN9, SN10, SN11, SN12, SN13, SN14, SN15, SN16, SN17, SN18, SJ0, SJ1, SJ2, SJ3, SJ4, SJ5, bindS, if_pos, if_neg, w_isWithin, w_isIn, JB_0, JB_1, bz_B, ite10, ite01, Int.natCast_add, csN0, csN1, csN16, Int.toNat_natCast, ite_not, not_true_eq_false, not_false_eq_true]
          exact ⟨J (-13), d, d, by simp (disch := first | omega | assumption | decide) only [f_X11_put, e1, g, hp, z0_0, z0_1, z0_2, z0_3, z0_4, z0_5, z0_6, z0_7, z0_8, z0_9, z0_10, z0_11, z0_12, z0_13, z0_14, z0_15, z0_16, z0_17, z1_0, z1_1, z1_2, z1_3, z1_4, z1_5, z1_6, z1_7, z1_8, z2_0, z3_0, z3_1, z4_0, z4_1, z5_0, z5_1, z124_0, SG0, SG1, SG2, SG3, SG4, SG5, SG6, SG7, SG8, SG9, SG10, SG11, SG12, SS0, SS1, SS2, SS3, SS4, SS5, SS6, SS7, SS8, SS9, SS10, SS11, z30_0, z30_1, z30_2, z30_3, z30_4, z30_5, z30_6, z30_7, z30_8, z59_0, z59_1, z59_2, z59_3, z59_4, z62_0, z62_1, z62_2, z62_3, z62_4, z63_0, z76_0, z76_1, z125_0, z125_1, z125_2, z125_3, z125_4, z125_5, z125_6, z125_7, z125_8, z125_9, z125_10, z125_11, z125_12, z125_13, z128_0, z128_1, z128_2, z128_3, z128_4, z128_5, z128_6, z128_7, z128_8, z128_9, z130_0, z130_1, z131_0, z131_1, z131_2, z131_3, z131_4, z131_5, z131_6, z131_7, z131_8, z140_0, z140_1, z140_2, z140_3, z140_4, z140_5, z140_6, z140_7, z145_0, z145_1, z146_0, z146_1, z146_2, z146_3, z146_4, z146_5, z146_6, z146_7, z146_8, z146_9, z146_10, z146_11, z146_12, z146_13, z146_14, SN0, SN1, SN2, SN3, SN4, SN5, SN6, SN7, SN8, SN9, SN10, SN11, SN12, SN13, SN14, SN15, SN16, SN17, SN18, SJ0, SJ1, SJ2, SJ3, SJ4, SJ5, bindS, if_pos, if_neg, w_isWithin, w_isIn, JB_0, JB_1, bz_B, ite10, ite01, Int.natCast_add, csN0, csN1, csN16, Int.toNat_natCast, ite_not, not_true_eq_false, not_false_eq_true], by simp (disch := first | omega | assumption | decide) only [f_X12_put, w, b1, z183_0, z183_1, z183_2, z183_3, z183_4, z183_5, z183_6, z183_7, z183_8, z183_9, z183_10, z183_11, z183_12, z183_13, z183_14, z183_15, z183_16, z183_17, z183_18, z183_19, z183_20, z183_21, z183_22, z183_23, z183_24, z183_25, z183_26, z183_27, z183_28, z183_29, z183_30, z183_31, z183_32, z183_33, z183_34, z183_35, z183_36, z183_37, z183_38, z183_39, z183_40, z183_41, z183_42, z184_0, z184_1, z185_0, z185_1, z186_0, z186_1, z187_0, z187_1, z188_0, z188_1, z189_0, z189_1, z190_0, z190_1, z191_0, z191_1, z192_0, z192_1, z193_0, z193_1, z194_0, z194_1, z195_0, z195_1, z196_0, z196_1, z197_0, z197_1, z198_0, z198_1, z198_2, z199_0, z199_1, z200_0, z200_1, z201_0, z201_1, z202_0, z202_1, SN0, SN1, SN2, SN3, SN4, SN5, SN6, SN7, SN8, SN9, SN10, SN11, SN12, SN13, SN14, SN15, SN16, SN17, SN18, SJ0, SJ1, SJ2, SJ3, SJ4, SJ5, bindS, if_pos, if_neg, w_isWithin, w_isIn, JB_0, JB_1, bz_B, ite10, ite01, Int.natCast_add, csN0, csN1, csN16, Int.toNat_natCast, ite_not, not_true_eq_false, not_false_eq_true], I⟩
      · rw [if_neg q2] at g
        have w : f_X12_wrongRow (mkH d) 183 (J i) (J (-1)) = some (J (-12)) := by
          rw [w]
          unfold wrS2
          rw [if_neg q0, if_neg q2]
        exact ⟨J (-12), d, d, by simp (disch := first | omega | assumption | decide) only [f_X11_put, e1, g, z0_0, z0_1, z0_2, z0_3, z0_4, z0_5, z0_6, z0_7, z0_8, z0_9, z0_10, z0_11, z0_12, z0_13, z0_14, z0_15, z0_16, z0_17, z1_0, z1_1, z1_2, z1_3, z1_4, z1_5, z1_6, z1_7, z1_8, z2_0, z3_0, z3_1, z4_0, z4_1, z5_0, z5_1, z124_0, SG0, SG1, SG2, SG3, SG4, SG5, SG6, SG7, SG8, SG9, SG10, SG11, SG12, SS0, SS1, SS2, SS3, SS4, SS5, SS6, SS7, SS8, SS9, SS10, SS11, z30_0, z30_1, z30_2, z30_3, z30_4, z30_5, z30_6, z30_7, z30_8, z59_0, z59_1, z59_2, z59_3, z59_4, z62_0, z62_1, z62_2, z62_3, z62_4, z63_0, z76_0, z76_1, z125_0, z125_1, z125_2, z125_3, z125_4, z125_5, z125_6, z125_7, z125_8, z125_9, z125_10, z125_11, z125_12, z125_13, z128_0, z128_1, z128_2, z128_3, z128_4, z128_5, z128_6, z128_7, z128_8, z128_9, z130_0, z130_1, z131_0, z131_1, z131_2, z131_3, z131_4, z131_5, z131_6, z131_7, z131_8, z140_0, z140_1, z140_2, z140_3, z140_4, z140_5, z140_6, z140_7, z145_0, z145_1, z146_0, z146_1, z146_2, z146_3, z146_4, z146_5, z146_6, z146_7, z146_8, z146_9, z146_10, z146_11, z146_12, z146_13, z146_14, SN0, SN1, SN2, SN3, SN4, SN5, SN6, SN7, SN8, SN9, SN10, SN11, SN12, SN13, SN14, SN15, SN16, SN17, SN18, SJ0, SJ1, SJ2, SJ3, SJ4, SJ5, bindS, if_pos, if_neg, w_isWithin, w_isIn, JB_0, JB_1, bz_B, ite10, ite01, Int.natCast_add, csN0, csN1, csN16, Int.toNat_natCast, ite_not, not_true_eq_false, not_false_eq_true], by simp (disch := first | omega | assumption | decide) only [f_X12_put, w, z183_0, z183_1, z183_2, z183_3, z183_4, z183_5, z183_6, z183_7, z183_8, z183_9, z183_10, z183_11, z183_12, z183_13, z183_14, z183_15, z183_16, z183_17, z183_18, z183_19, z183_20, z183_21, z183_22, z183_23, z183_24, z183_25, z183_26, z183_27, z183_28, z183_29, z183_30, z183_31, z183_32, z183_33, z183_34, z183_35, z183_36, z183_37, z183_38, z183_39, z183_40, z183_41, z183_42, z184_0, z184_1, z185_0, z185_1, z186_0, z186_1, z187_0, z187_1, z188_0, z188_1, z189_0, z189_1, z190_0, z190_1, z191_0, z191_1, z192_0, z192_1, z193_0, z193_1, z194_0, z194_1, z195_0, z195_1, z196_0, z196_1, z197_0, z197_1, z198_0, z198_1, z198_2, z199_0, z199_1, z200_0, z200_1, z201_0, z201_1, z202_0, z202_1, SN0, SN1, SN2, SN3, SN4, SN5, SN6, SN7, SN8, SN9, SN10, SN11, SN12, SN13, SN14, SN15, SN16, SN17, SN18, SJ0, SJ1, SJ2, SJ3, SJ4, SJ5, bindS, if_pos, if_neg, w_isWithin, w_isIn, JB_0, JB_1, bz_B, ite10, ite01, Int.natCast_add, csN0, csN1, csN16, Int.toNat_natCast, ite_not, not_true_eq_false, not_false_eq_true], I⟩
  · have w := m_wrongRowBad (d := d) z1 z2 c (f := -1)
    rw [B_f c] at e1
    exact ⟨J (-1), d, d, by simp (disch := first | omega | assumption | decide) only [f_X11_put, e1, z0_0, z0_1, z0_2, z0_3, z0_4, z0_5, z0_6, z0_7, z0_8, z0_9, z0_10, z0_11, z0_12, z0_13, z0_14, z0_15, z0_16, z0_17, z1_0, z1_1, z1_2, z1_3, z1_4, z1_5, z1_6, z1_7, z1_8, z2_0, z3_0, z3_1, z4_0, z4_1, z5_0, z5_1, z124_0, SG0, SG1, SG2, SG3, SG4, SG5, SG6, SG7, SG8, SG9, SG10, SG11, SG12, SS0, SS1, SS2, SS3, SS4, SS5, SS6, SS7, SS8, SS9, SS10, SS11, z30_0, z30_1, z30_2, z30_3, z30_4, z30_5, z30_6, z30_7, z30_8, z59_0, z59_1, z59_2, z59_3, z59_4, z62_0, z62_1, z62_2, z62_3, z62_4, z63_0, z76_0, z76_1, z125_0, z125_1, z125_2, z125_3, z125_4, z125_5, z125_6, z125_7, z125_8, z125_9, z125_10, z125_11, z125_12, z125_13, z128_0, z128_1, z128_2, z128_3, z128_4, z128_5, z128_6, z128_7, z128_8, z128_9, z130_0, z130_1, z131_0, z131_1, z131_2, z131_3, z131_4, z131_5, z131_6, z131_7, z131_8, z140_0, z140_1, z140_2, z140_3, z140_4, z140_5, z140_6, z140_7, z145_0, z145_1, z146_0, z146_1, z146_2, z146_3, z146_4, z146_5, z146_6, z146_7, z146_8, z146_9, z146_10, z146_11, z146_12, z146_13, z146_14, SN0, SN1, SN2, SN3, SN4, SN5, SN6, SN7, SN8, SN9, SN10, SN11, SN12, SN13, SN14, SN15, SN16, SN17, SN18, SJ0, SJ1, SJ2, SJ3, SJ4, SJ5, bindS, if_pos, if_neg, w_isWithin, w_isIn, JB_0, JB_1, bz_B, ite10, ite01, Int.natCast_add, csN0, csN1, csN16, Int.toNat_natCast, ite_not, not_true_eq_false, not_false_eq_true], by simp (disch := first | omega | assumption | decide) only [f_X12_put, w, z183_0, z183_1, z183_2, z183_3, z183_4, z183_5, z183_6, z183_7, z183_8, z183_9, z183_10, z183_11, z183_12, z183_13, z183_14, z183_15, z183_16, z183_17, z183_18, z183_19, z183_20, z183_21, z183_22, z183_23, z183_24, z183_25, z183_26, z183_27, z183_28, z183_29, z183_30, z183_31, z183_32, z183_33, z183_34, z183_35, z183_36, z183_37, z183_38, z183_39, z183_40, z183_41, z183_42, z184_0, z184_1, z185_0, z185_1, z186_0, z186_1, z187_0, z187_1, z188_0, z188_1, z189_0, z189_1, z190_0, z190_1, z191_0, z191_1, z192_0, z192_1, z193_0, z193_1, z194_0, z194_1, z195_0, z195_1, z196_0, z196_1, z197_0, z197_1, z198_0, z198_1, z198_2, z199_0, z199_1, z200_0, z200_1, z201_0, z201_1, z202_0, z202_1, SN0, SN1, SN2, SN3, SN4, SN5, SN6, SN7, SN8, SN9, SN10, SN11, SN12, SN13, SN14, SN15, SN16, SN17, SN18, SJ0, SJ1, SJ2, SJ3, SJ4, SJ5, bindS, if_pos, if_neg, w_isWithin, w_isIn, JB_0, JB_1, bz_B, ite10, ite01, Int.natCast_add, csN0, csN1, csN16, Int.toNat_natCast, ite_not, not_true_eq_false, not_false_eq_true], I⟩
end
