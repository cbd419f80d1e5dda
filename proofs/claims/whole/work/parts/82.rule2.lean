section
variable {d : Mem}
theorem ag_rule (I : INV d) (x : Int32) : ∃ r d1 d2, f_X11_rule (mkH d) 0 x = some (r, mkH d1) ∧ f_X12_rule (mkH d1) 183 x = some (r, mkH d2) ∧ INV d2 := by
  obtain ⟨i, z1, z2, rfl⟩ := J_of x
  have e1 := c_isShelf z1 z2
  have e2 := m_isShelf z1 z2
  by_cases c : 0 ≤ i ∧ i ≤ 7
  · rw [B_t c] at e1 e2
    obtain ⟨c1, c2⟩ := c
    have c3 : i < 8 := by omega
    have hS := isS_A c1 c3
    have sl := sA_le c1 c3
    obtain ⟨P, L, RR, -, S, C⟩ := id I
    obtain ⟨r1, r2, r3, r4⟩ := id RR
    obtain ⟨s1, s2, s3, s4, s5, s6, s7, s8, s9, s10, s11⟩ := S i c1 c3
    have g := c_bytesR (d := d) hS (by omega) (by omega) (by omega) (by omega)
    have w := m_wrongRow (d := d) c1 c3 s4 s5 s6 s7 (f := 0) (by decide) (by decide)
    rw [s1, s2] at g
    unfold wrS2 at w
    by_cases cq : d 185 1742 = 12
    · exact ⟨J (-2), d, d, by simp (disch := first | omega | assumption | decide) only [f_X11_rule, e1, r1, cq, z0_0, z0_1, z0_2, z0_3, z0_4, z0_5, z0_6, z0_7, z0_8, z0_9, z0_10, z0_11, z0_12, z0_13, z0_14, z0_15, z0_16, z0_17, z1_0, z1_1, z1_2, z1_3, z1_4, z1_5, z1_6, z1_7, z1_8, z2_0, z3_0, z3_1, z4_0, z4_1, z5_0, z5_1, z124_0, SG0, SG1, SG2, SG3, SG4, SG5, SG6, SG7, SG8, SG9, SG10, SG11, SG12, SS0, SS1, SS2, SS3, SS4, SS5, SS6, SS7, SS8, SS9, SS10, SS11, z30_0, z30_1, z30_2, z30_3, z30_4, z30_5, z30_6, z30_7, z30_8, z59_0, z59_1, z59_2, z59_3, z59_4, z62_0, z62_1, z62_2, z62_3, z62_4, z63_0, z76_0, z76_1, z125_0, z125_1, z125_2, z125_3, z125_4, z125_5, z125_6, z125_7, z125_8, z125_9, z125_10, z125_11, z125_12, z125_13, z128_0, z128_1, z128_2, z128_3, z128_4, z128_5, z128_6, z128_7, z128_8, z128_9, z130_0, z130_1, z131_0, z131_1, z131_2, z131_3, z131_4, z131_5, z131_6, z131_7, z131_8, z140_0, z140_1, z140_2, z140_3, z140_4, z140_5, z140_6, z140_7, z145_0, z145_1, z146_0, z146_1, z146_2, z146_3, z146_4, z146_5, z146_6, z146_7, z146_8, z146_9, z146_10, z146_11, z146_12, z146_13, z146_14, SN0, SN1, SN2, SN3, SN4, SN5, SN6, SN7, SN8, SN9, SN10, SN11, SN12, SN13, SN14, SN15, SN16, SN17, SN18, SJ0, SJ1, SJ2, SJ3, SJ4, SJ5, bindS, if_pos, if_neg, w_isWithin, w_isIn, JB_0, JB_1, bz_B, ite10, ite01, Int.natCast_add, csN0, csN1, csN16, Int.toNat_natCast, ite_not, not_true_eq_false, not_false_eq_true], by simp (disch := first | omega | assumption | decide) only [f_X12_rule, e2, cq, z183_0, z183_1, z183_2, z183_3, z183_4, z183_5, z183_6, z183_7, z183_8, z183_9, z183_10, z183_11, z183_12, z183_13, z183_14, z183_15, z183_16, z183_17, z183_18, z183_19, z183_20, z183_21, z183_22, z183_23, z183_24, z183_25, z183_26, z183_27, z183_28, z183_29, z183_30, z183_31, z183_32, z183_33, z183_34, z183_35, z183_36, z183_37, z183_38, z183_39, z183_40, z183_41, z183_42, z184_0, z184_1, z185_0, z185_1, z186_0, z186_1, z187_0, z187_1, z188_0, z188_1, z189_0, z189_1, z190_0, z190_1, z191_0, z191_1, z192_0, z192_1, z193_0, z193_1, z194_0, z194_1, z195_0, z195_1, z196_0, z196_1, z197_0, z197_1, z198_0, z198_1, z198_2, z199_0, z199_1, z200_0, z200_1, z201_0, z201_1, z202_0, z202_1, SN0, SN1, SN2, SN3, SN4, SN5, SN6, SN7, SN8, SN9, SN10, SN11, SN12, SN13, SN14, SN15, SN16, SN17, SN18, SJ0, SJ1, SJ2, SJ3, SJ4, SJ5, bindS, if_pos, if_neg, w_isWithin, w_isIn, JB_0, JB_1, bz_B, ite10, ite01, Int.natCast_add, csN0, csN1, csN16, Int.toNat_natCast, ite_not, not_true_eq_false, not_false_eq_true], I⟩
    by_cases k0 : d 188 i = 0
    · rw [if_pos k0] at g w
      exact ⟨J (-11), d, d, by simp (disch := first | omega | assumption | decide) only [f_X11_rule, e1, r1, g, z0_0, z0_1, z0_2, z0_3, z0_4, z0_5, z0_6, z0_7, z0_8, z0_9, z0_10, z0_11, z0_12, z0_13, z0_14, z0_15, z0_16, z0_17, z1_0, z1_1, z1_2, z1_3, z1_4, z1_5, z1_6, z1_7, z1_8, z2_0, z3_0, z3_1, z4_0, z4_1, z5_0, z5_1, z124_0, SG0, SG1, SG2, SG3, SG4, SG5, SG6, SG7, SG8, SG9, SG10, SG11, SG12, SS0, SS1, SS2, SS3, SS4, SS5, SS6, SS7, SS8, SS9, SS10, SS11, z30_0, z30_1, z30_2, z30_3, z30_4, z30_5, z30_6, z30_7, z30_8, z59_0, z59_1, z59_2, z59_3, z59_4, z62_0, z62_1, z62_2, z62_3, z62_4, z63_0, z76_0, z76_1, z125_0, z125_1, z125_2, z125_3, z125_4, z125_5, z125_6, z125_7, z125_8, z125_9, z125_10, z125_11, z125_12, z125_13, z128_0, z128_1, z128_2, z128_3, z128_4, z128_5, z128_6, z128_7, z128_8, z128_9, z130_0, z130_1, z131_0, z131_1, z131_2, z131_3, z131_4, z131_5, z131_6, z131_7, z131_8, z140_0, z140_1, z140_2, z140_3, z140_4, z140_5, z140_6, z140_7, z145_0, z145_1, z146_0, z146_1, z146_2, z146_3, z146_4, z146_5, z146_6, z146_7, z146_8, z146_9, z146_10, z146_11, z146_12, z146_13, z146_14, SN0, SN1, SN2, SN3, SN4, SN5, SN6, SN7, SN8, SN9, SN10, SN11, SN12, SN13, SN14, SN15, SN16, SN17, SN18, SJ0, SJ1, SJ2, SJ3, SJ4, SJ5, bindS, if_pos, if_neg, w_isWithin, w_isIn, JB_0, JB_1, bz_B, ite10, ite01, Int.natCast_add, csN0, csN1, csN16, Int.toNat_natCast, ite_not, not_true_eq_false, not_false_eq_true], by simp (disch := first | omega | assumption | decide) only [f_X12_rule, e2, w, z183_0, z183_1, z183_2, z183_3, z183_4, z183_5, z183_6, z183_7, z183_8, z183_9, z183_10, z183_11, z183_12, z183_13, z183_14, z183_15, z183_16, z183_17, z183_18, z183_19, z183_20, z183_21, z183_22, z183_23, z183_24, z183_25, z183_26, z183_27, z183_28, z183_29, z183_30, z183_31, z183_32, z183_33, z183_34, z183_35, z183_36, z183_37, z183_38, z183_39, z183_40, z183_41, z183_42, z184_0, z184_1, z185_0, z185_1, z186_0, z186_1, z187_0, z187_1, z188_0, z188_1, z189_0, z189_1, z190_0, z190_1, z191_0, z191_1, z192_0, z192_1, z193_0, z193_1, z194_0, z194_1, z195_0, z195_1, z196_0, z196_1, z197_0, z197_1, z198_0, z198_1, z198_2, z199_0, z199_1, z200_0, z200_1, z201_0, z201_1, z202_0, z202_1, SN0, SN1, SN2, SN3, SN4, SN5, SN6, SN7, SN8, SN9, SN10, SN11, SN12, SN13, SN14, SN15, SN16, SN17, SN18, SJ0, SJ1, SJ2, SJ3, SJ4, SJ5, bindS, if_pos, if_neg, w_isWithin, w_isIn, JB_0, JB_1, bz_B, ite10, ite01, Int.natCast_add, csN0, csN1, csN16, Int.toNat_natCast, ite_not, not_true_eq_false, not_false_eq_true], I⟩
    · rw [if_neg k0] at g w
      by_cases k2 : d 188 i = 2
      · rw [if_pos k2, if_neg (by decide)] at w
        by_cases k3 : d 189 i = 0
        · rw [if_pos k3] at w
          rw [if_pos ⟨k2, k3⟩] at g
          obtain ⟨v, d1, a1, f1, a2, -⟩ := k_all (d := d) (b := sA i + 3) (tx := fun k => d 191 (120 * i + k)) (m := d 190 i) hS.2 s8 s9 (fun k h0 h1 => ⟨(s10 k h0 (by omega)).1, (s10 k h0 (by omega)).2.2.2 k3⟩)
          have lt : d 185 1742 < 12 := by omega
          have wr : ∀ D : Mem, (∀ x, 188 ≤ x → x ≤ 191 → D x = d x) → f_X12_wrongRow (mkH D) 183 (J i) (J 0) = some (J 0) := fun D fD => by
            have h := m_wrongRow (d := D) c1 c3 (by rw [fD 188 (by decide) (by decide)]; exact s4) (by rw [fD 188 (by decide) (by decide)]; exact s5) (by rw [fD 189 (by decide) (by decide)]; exact s6) (by rw [fD 189 (by decide) (by decide)]; exact s7) (f := 0) (by decide) (by decide)
            unfold wrS2 at h
            rw [fD 188 (by decide) (by decide), fD 189 (by decide) (by decide), if_neg k0, if_pos k2, if_neg (by decide), if_pos k3] at h
            exact h
          have fo : ∀ D : Mem, (∀ x, 188 ≤ x → x ≤ 191 → D x = d x) → ∃ E, f_X12_faultOf (mkH D) 183 (J i) = some (J (if (topS (chS (fun k => d 191 (120 * i + k)) (d 190 i)) (fldC d)).2.1 = true ∧ (topS (chS (fun k => d 191 (120 * i + k)) (d 190 i)) (fldC d)).1 = d 190 i then -4 else (topS (chS (fun k => d 191 (120 * i + k)) (d 190 i)) (fldC d)).1), mkH E) ∧ ∀ x k, ¬ (x = 183 ∧ k ≠ 10) → E x k = D x k := fun D fD => by
            have y190 : D 190 i = d 190 i := by rw [fD 190 (by decide) (by decide)]
            obtain ⟨E, b1, b2⟩ := m_faultOf (d := D) c1 c3 (by rw [y190]; exact s8) (by rw [y190]; exact s9) (tx := fun k => d 191 (120 * i + k)) (fun k h0 h1 => by
              rw [y190] at h1
              exact ⟨by rw [fD 191 (by decide) (by decide)], (s10 k h0 (by omega)).2.2.2 k3⟩) (fldC d)
            rw [y190] at b1
            exact ⟨E, b1, b2⟩
          obtain ⟨o1, o2, o3⟩ := orS_rng (tx := fun k => d 191 (120 * i + k)) (n := d 190 i) (tst_rng (tx := fun k => d 191 (120 * i + k)) (n := d 190 i) (fld := fldC d) 130 0) 0 (by decide) s8
          have eT : orS (chS (fun k => d 191 (120 * i + k)) (d 190 i)) (tstS (chS (fun k => d 191 (120 * i + k)) (d 190 i)) (fldC d) 130 0) 0 = topS (chS (fun k => d 191 (120 * i + k)) (d 190 i)) (fldC d) := rfl
          rw [eT] at o2 o3
          by_cases hok : (topS (chS (fun k => d 191 (120 * i + k)) (d 190 i)) (fldC d)).2.1 = true ∧ (topS (chS (fun k => d 191 (120 * i + k)) (d 190 i)) (fldC d)).1 = d 190 i
          · rw [if_pos hok] at a2
            obtain ⟨q, hq⟩ : ∃ q, q = d 185 1742 := ⟨_, rfl⟩
            rw [← hq] at r1 r2 lt cq
            obtain ⟨dB, b1, b2, b3, b4, b5, b6⟩ := c_addRule (d := d1) (b := 62) (a := sA i + 3) isB_62 hS.2 (by omega) (q := q) (n := d 190 i) (by rw [f1 62 (by decide)]; exact r1) r2 lt s8 s9
            have rl := rA_le (b := 62) r2 lt
            have fB : ∀ x, x ≠ 128 → (x < 62 ∨ 76 < x) → dB x = d x := fun x h h2 => by rw [b6 x (by omega) (by omega) (by omega), f1 x h]
            obtain ⟨E, p1, p2⟩ := fo dB (fun x h0 h1 => fB x (by omega) (by omega))
            rw [if_pos hok] at p1
            have w1 := wr dB (fun x h0 h1 => fB x (by omega) (by omega))
            have y1 : dB 185 1742 = q := by rw [fB 185 (by decide) (by decide), hq]
            have y2 : E 185 1742 = q := by rw [p2 185 1742 (by decide), y1]
            have y3 : d1 (sA i) 3 = d 190 i := by rw [f1 (sA i) (by omega), s3]
            have y4 : d1 62 2 = q := by rw [f1 62 (by decide)]; exact r1
            have y5 : up E 185 1742 (q + 1) 190 i = d 190 i := by rw [up_na (by decide), p2 190 i (by omega), fB 190 (by decide) (by decide)]
            obtain ⟨G, hG⟩ : ∃ G, G = up (up E 185 1742 (q + 1)) 185 (276 + 121 * q) (d 190 i) := ⟨_, rfl⟩
            obtain ⟨F, l1, l2, l3⟩ := m_ruleL (D := G) (i := i) (q := q) (n := d 190 i) c1 c3 r2 lt (by rw [hG, up_na (by decide), y5]) s8 s9
            have a190 : ∀ D : Mem, aI (mkH D) 190 (J i) = some (J (D 190 i)) := fun D => q_aI (len := 8) rfl (by decide) c1 (by omega)
            have aS1 : ∀ (D : Mem) (v : Int), sI (mkH D) 185 (J (276 + 121 * q)) (J v) = some (mkH (up D 185 (276 + 121 * q) v)) := fun D v => q_sI (len := 1744) rfl (by decide) (by omega) (by omega)
            refine ⟨J q, dB, F, ?_, ?_, ?_⟩
            · simp (disch := first | omega | assumption | decide) only [f_X11_rule, e1, r1, g, s3, a1, a2, y3, b1, b2, Int.add_sub_cancel, z0_0, z0_1, z0_2, z0_3, z0_4, z0_5, z0_6, z0_7, z0_8, z0_9, z0_10, z0_11, z0_12, z0_13, z0_14, z0_15, z0_16, z0_17, z1_0, z1_1, z1_2, z1_3, z1_4, z1_5, z1_6, z1_7, z1_8, z2_0, z3_0, z3_1, z4_0, z4_1, z5_0, z5_1, z124_0, SG0, SG1, SG2, SG3, SG4, SG5, SG6, SG7, SG8, SG9, SG10, SG11, SG12, SS0, SS1, SS2, SS3, SS4, SS5, SS6, SS7, SS8, SS9, SS10, SS11, z30_0, z30_1, z30_2, z30_3, z30_4, z30_5, z30_6, z30_7, z30_8, z59_0, z59_1, z59_2, z59_3, z59_4, z62_0, z62_1, z62_2, z62_3, z62_4, z63_0, z76_0, z76_1, z125_0, z125_1, z125_2, z125_3, z125_4, z125_5, z125_6, z125_7, z125_8, z125_9, z125_10, z125_11, z125_12, z125_13, z128_0, z128_1, z128_2, z128_3, z128_4, z128_5, z128_6, z128_7, z128_8, z128_9, z130_0, z130_1, z131_0, z131_1, z131_2, z131_3, z131_4, z131_5, z131_6, z131_7, z131_8, z140_0, z140_1, z140_2, z140_3, z140_4, z140_5, z140_6, z140_7, z145_0, z145_1, z146_0, z146_1, z146_2, z146_3, z146_4, z146_5, z146_6, z146_7, z146_8, z146_9, z146_10, z146_11, z146_12, z146_13, z146_14, SN0, SN1, SN2, SN3, SN4, SN5, SN6, SN7, SN8, SN9, SN10, SN11, SN12, SN13, SN14, SN15, SN16, SN17, SN18, SJ0, SJ1, SJ2, SJ3, SJ4, SJ5, bindS, if_pos, if_neg, w_isWithin, w_isIn, JB_0, JB_1, bz_B, ite10, ite01, Int.natCast_add, csN0, csN1, csN16, Int.toNat_natCast, ite_not, not_true_eq_false, not_false_eq_true]
            · simp (disch := first | omega | assumption | decide) only [f_X12_rule, e2, y1, w1, p1, y2, a190, y5, aS1, ← hG, l1, z183_0, z183_1, z183_2, z183_3, z183_4, z183_5, z183_6, z183_7, z183_8, z183_9, z183_10, z183_11, z183_12, z183_13, z183_14, z183_15, z183_16, z183_17, z183_18, z183_19, z183_20, z183_21, z183_22, z183_23, z183_24, z183_25, z183_26, z183_27, z183_28, z183_29, z183_30, z183_31, z183_32, z183_33, z183_34, z183_35, z183_36, z183_37, z183_38, z183_39, z183_40, z183_41, z183_42, z184_0, z184_1, z185_0, z185_1, z186_0, z186_1, z187_0, z187_1, z188_0, z188_1, z189_0, z189_1, z190_0, z190_1, z191_0, z191_1, z192_0, z192_1, z193_0, z193_1, z194_0, z194_1, z195_0, z195_1, z196_0, z196_1, z197_0, z197_1, z198_0, z198_1, z198_2, z199_0, z199_1, z200_0, z200_1, z201_0, z201_1, z202_0, z202_1, SN0, SN1, SN2, SN3, SN4, SN5, SN6, SN7, SN8, SN9, SN10, SN11, SN12, SN13, SN14, SN15, SN16, SN17, SN18, SJ0, SJ1, SJ2, SJ3, SJ4, SJ5, bindS, if_pos, if_neg, w_isWithin, w_isIn, JB_0, JB_1, bz_B, ite10, ite01, Int.natCast_add, csN0, csN1, csN16, Int.toNat_natCast, ite_not, not_true_eq_false, not_false_eq_true]
            · have gF : ∀ x k, x ≠ 128 → ¬ (x = 183 ∧ k ≠ 10) → x ≠ 62 → x ≠ 76 → x ≠ rA 62 q → x ≠ 185 → F x k = d x k := fun x k h1 h2 h3 h4 h5 h6 => by
                rw [l3 x k (fun e => h6 e.1), hG, up_na h6, up_na h6, p2 x k h2, b6 x h3 h4 h5, f1 x h1]
              have g185 : ∀ k, k ≠ 1742 → (k < 276 + 121 * q ∨ 276 + 121 * q + d 190 i < k) → F 185 k = d 185 k := fun k h1 h2 => by
                rw [l3 185 k (by omega), hG, up_nk (by omega), up_nk h1, p2 185 k (by omega), fB 185 (by decide) (by decide)]
              have f62 : F 62 2 = q + 1 := by rw [l3 62 2 (by omega), hG, up_na (by decide), up_na (by decide), p2 62 2 (by decide), b2]
              have f76q : F 76 q = d 190 i := by
                rw [l3 76 q (by omega), hG, up_na (by decide), up_na (by decide), p2 76 q (by omega)]
                exact b3
              have f76 : ∀ j, j ≠ q → F 76 j = d 76 j := fun j h => by
                rw [l3 76 j (by omega), hG, up_na (by decide), up_na (by decide), p2 76 j (by omega)]
                exact (b4 j h).trans (congrFun (f1 76 (by decide)) j)
              have f185q : F 185 (276 + 121 * q) = d 190 i := by rw [l3 185 _ (by omega), hG, up_same]
              have f1742 : F 185 1742 = q + 1 := by rw [l3 185 1742 (by omega), hG, up_nk (by omega), up_same]
              have fT : ∀ k, 0 ≤ k → k < d 190 i → F 185 (276 + 121 * q + 1 + k) = d 191 (120 * i + k) := fun k h0 h1 => by
                rw [l2 k h0 h1, hG, up_na (by decide), up_na (by decide), p2 191 _ (by omega), fB 191 (by decide) (by decide)]
              have fq : ∀ k, 0 ≤ k → k < d 190 i → F (rA 62 q) k = d 191 (120 * i + k) := fun k h0 h1 => by
                rw [l3 _ _ (by omega), hG, up_na (by omega), up_na (by omega), p2 _ _ (by omega), b5 k h0 h1, f1 _ (by omega)]
                exact (s10 k h0 (by omega)).1
              refine INV_mk I (PL_keep P (fun x k h0 h1 => gF x k (by omega) (by omega) (by omega) (by omega) (by omega) (by omega)) (fun k h => g185 k (by omega) (by omega))) (LD_keep L (fun x k h0 h1 => gF x k (by omega) (by omega) (by omega) (by omega) (by omega) (by omega)) (fun k h => g185 k (by omega) (by omega))) ⟨?_, ?_, ?_, ?_⟩ (fun x k h0 h1 h2 => gF x k (fun e => h0 (by unfold Sc; omega)) (fun e => h0 (by unfold Sc; omega)) (by omega) (by omega) (by omega) h2)
              · rw [f62, f1742]
              · rw [f1742]
                omega
              · rw [f1742]
                omega
              · intro j j0 j1
                rw [f1742] at j1
                by_cases e : j = q
                · rw [e]
                  unfold RU
                  rw [f76q, f185q]
                  refine ⟨rfl, s8, s9, fun k k0 k1 => ?_, fun fld => ?_⟩
                  · rw [fq k k0 k1, fT k k0 k1]
                    exact ⟨rfl, (s10 k k0 (by omega)).2.2.2 k3⟩
                  · have ec : chS (fun k => F 185 (276 + 121 * q + 1 + k)) (d 190 i) = chS (fun k => d 191 (120 * i + k)) (d 190 i) := by
                      funext p
                      unfold chS
                      split
                      · rename_i hp
                        exact fT p hp.1 hp.2
                      · rfl
                    rw [ec]
                    obtain ⟨t1, t2⟩ := top_fld (c := chS (fun k => d 191 (120 * i + k)) (d 190 i)) (f := fld) (f' := fldC d)
                    rw [t1, t2]
                    exact ⟨hok.2, hok.1⟩
                · have rj := rA_le (b := 62) j0 (by omega : j < 12)
                  have nr : rA 62 j ≠ rA 62 q := by unfold rA; omega
                  obtain ⟨z1', z2', z3', z4', z5'⟩ := r4 j j0 (by omega)
                  unfold RU
                  rw [f76 j e, g185 (276 + 121 * j) (by omega) (by omega)]
                  refine ⟨z1', z2', z3', fun k k0 k1 => ?_, ?_⟩
                  · rw [gF (rA 62 j) k (by omega) (by omega) (by omega) (by omega) nr (by omega), g185 (276 + 121 * j + 1 + k) (by omega) (by omega)]
                    exact z4' k k0 k1
                  · have ec : chS (fun k => F 185 (276 + 121 * j + 1 + k)) (d 185 (276 + 121 * j)) = chS (fun k => d 185 (276 + 121 * j + 1 + k)) (d 185 (276 + 121 * j)) := by
                      funext p
                      unfold chS
                      split
                      · exact g185 _ (by omega) (by omega)
                      · rfl
                    intro fld
                    rw [ec]
                    exact z5' fld
          · rw [if_neg hok] at a2
            obtain ⟨E, b1, b2⟩ := fo d1 (fun x h0 h1 => f1 x (by omega))
            rw [if_neg hok] at b1
            have w1 := wr d1 (fun x h0 h1 => f1 x (by omega))
            generalize (topS (chS (fun k => d 191 (120 * i + k)) (d 190 i)) (fldC d)).1 = R at a2 b1 o2 o3
            have y1742 : d1 185 1742 = d 185 1742 := by rw [f1 185 (by decide)]
            refine ⟨J (-100 - R), d1, E, ?_, ?_, INV_fr I (fun a k h => ?_)⟩
            · simp (disch := first | omega | assumption | decide) only [f_X11_rule, e1, r1, g, s3, a1, a2, z0_0, z0_1, z0_2, z0_3, z0_4, z0_5, z0_6, z0_7, z0_8, z0_9, z0_10, z0_11, z0_12, z0_13, z0_14, z0_15, z0_16, z0_17, z1_0, z1_1, z1_2, z1_3, z1_4, z1_5, z1_6, z1_7, z1_8, z2_0, z3_0, z3_1, z4_0, z4_1, z5_0, z5_1, z124_0, SG0, SG1, SG2, SG3, SG4, SG5, SG6, SG7, SG8, SG9, SG10, SG11, SG12, SS0, SS1, SS2, SS3, SS4, SS5, SS6, SS7, SS8, SS9, SS10, SS11, z30_0, z30_1, z30_2, z30_3, z30_4, z30_5, z30_6, z30_7, z30_8, z59_0, z59_1, z59_2, z59_3, z59_4, z62_0, z62_1, z62_2, z62_3, z62_4, z63_0, z76_0, z76_1, z125_0, z125_1, z125_2, z125_3, z125_4, z125_5, z125_6, z125_7, z125_8, z125_9, z125_10, z125_11, z125_12, z125_13, z128_0, z128_1, z128_2, z128_3, z128_4, z128_5, z128_6, z128_7, z128_8, z128_9, z130_0, z130_1, z131_0, z131_1, z131_2, z131_3, z131_4, z131_5, z131_6, z131_7, z131_8, z140_0, z140_1, z140_2, z140_3, z140_4, z140_5, z140_6, z140_7, z145_0, z145_1, z146_0, z146_1, z146_2, z146_3, z146_4, z146_5, z146_6, z146_7, z146_8, z146_9, z146_10, z146_11, z146_12, z146_13, z146_14, SN0, SN1, SN2, SN3, SN4, SN5, SN6, SN7, SN8, SN9, SN10, SN11, SN12, SN13, SN14, SN15, SN16, SN17, SN18, SJ0, SJ1, SJ2, SJ3, SJ4, SJ5, bindS, if_pos, if_neg, w_isWithin, w_isIn, JB_0, JB_1, bz_B, ite10, ite01, Int.natCast_add, csN0, csN1, csN16, Int.toNat_natCast, ite_not, not_true_eq_false, not_false_eq_true]
            · simp (disch := first | omega | assumption | decide) only [f_X12_rule, e2, y1742, w1, b1, z183_0, z183_1, z183_2, z183_3, z183_4, z183_5, z183_6, z183_7, z183_8, z183_9, z183_10, z183_11, z183_12, z183_13, z183_14, z183_15, z183_16, z183_17, z183_18, z183_19, z183_20, z183_21, z183_22, z183_23, z183_24, z183_25, z183_26, z183_27, z183_28, z183_29, z183_30, z183_31, z183_32, z183_33, z183_34, z183_35, z183_36, z183_37, z183_38, z183_39, z183_40, z183_41, z183_42, z184_0, z184_1, z185_0, z185_1, z186_0, z186_1, z187_0, z187_1, z188_0, z188_1, z189_0, z189_1, z190_0, z190_1, z191_0, z191_1, z192_0, z192_1, z193_0, z193_1, z194_0, z194_1, z195_0, z195_1, z196_0, z196_1, z197_0, z197_1, z198_0, z198_1, z198_2, z199_0, z199_1, z200_0, z200_1, z201_0, z201_1, z202_0, z202_1, SN0, SN1, SN2, SN3, SN4, SN5, SN6, SN7, SN8, SN9, SN10, SN11, SN12, SN13, SN14, SN15, SN16, SN17, SN18, SJ0, SJ1, SJ2, SJ3, SJ4, SJ5, bindS, if_pos, if_neg, w_isWithin, w_isIn, JB_0, JB_1, bz_B, ite10, ite01, Int.natCast_add, csN0, csN1, csN16, Int.toNat_natCast, ite_not, not_true_eq_false, not_false_eq_true]
            · rw [b2 a k (fun e => h (by unfold Sc; omega)), f1 a (fun e => h (by unfold Sc; omega))]
        · rw [if_neg k3] at w
          rw [if_neg (fun h => k3 h.2)] at g
          exact ⟨J (-12), d, d, by simp (disch := first | omega | assumption | decide) only [f_X11_rule, e1, r1, g, z0_0, z0_1, z0_2, z0_3, z0_4, z0_5, z0_6, z0_7, z0_8, z0_9, z0_10, z0_11, z0_12, z0_13, z0_14, z0_15, z0_16, z0_17, z1_0, z1_1, z1_2, z1_3, z1_4, z1_5, z1_6, z1_7, z1_8, z2_0, z3_0, z3_1, z4_0, z4_1, z5_0, z5_1, z124_0, SG0, SG1, SG2, SG3, SG4, SG5, SG6, SG7, SG8, SG9, SG10, SG11, SG12, SS0, SS1, SS2, SS3, SS4, SS5, SS6, SS7, SS8, SS9, SS10, SS11, z30_0, z30_1, z30_2, z30_3, z30_4, z30_5, z30_6, z30_7, z30_8, z59_0, z59_1, z59_2, z59_3, z59_4, z62_0, z62_1, z62_2, z62_3, z62_4, z63_0, z76_0, z76_1, z125_0, z125_1, z125_2, z125_3, z125_4, z125_5, z125_6, z125_7, z125_8, z125_9, z125_10, z125_11, z125_12, z125_13, z128_0, z128_1, z128_2, z128_3, z128_4, z128_5, z128_6, z128_7, z128_8, z128_9, z130_0, z130_1, z131_0, z131_1, z131_2, z131_3, z131_4, z131_5, z131_6, z131_7, z131_8, z140_0, z140_1, z140_2, z140_3, z140_4, z140_5, z140_6, z140_7, z145_0, z145_1, z146_0, z146_1, z146_2, z146_3, z146_4, z146_5, z146_6, z146_7, z146_8, z146_9, z146_10, z146_11, z146_12, z146_13, z146_14, SN0, SN1, SN2, SN3, SN4, SN5, SN6, SN7, SN8, SN9, SN10, SN11, SN12, SN13, SN14, SN15, SN16, SN17, SN18, SJ0, SJ1, SJ2, SJ3, SJ4, SJ5, bindS, if_pos, if_neg, w_isWithin, w_isIn, JB_0, JB_1, bz_B, ite10, ite01, Int.natCast_add, csN0, csN1, csN16, Int.toNat_natCast, ite_not, not_true_eq_false, not_false_eq_true], by simp (disch := first | omega | assumption | decide) only [f_X12_rule, e2, w, z183_0, z183_1, z183_2, z183_3, z183_4, z183_5, z183_6, z183_7, z183_8, z183_9, z183_10, z183_11, z183_12, z183_13, z183_14, z183_15, z183_16, z183_17, z183_18, z183_19, z183_20, z183_21, z183_22, z183_23, z183_24, z183_25, z183_26, z183_27, z183_28, z183_29, z183_30, z183_31, z183_32, z183_33, z183_34, z183_35, z183_36, z183_37, z183_38, z183_39, z183_40, z183_41, z183_42, z184_0, z184_1, z185_0, z185_1, z186_0, z186_1, z187_0, z187_1, z188_0, z188_1, z189_0, z189_1, z190_0, z190_1, z191_0, z191_1, z192_0, z192_1, z193_0, z193_1, z194_0, z194_1, z195_0, z195_1, z196_0, z196_1, z197_0, z197_1, z198_0, z198_1, z198_2, z199_0, z199_1, z200_0, z200_1, z201_0, z201_1, z202_0, z202_1, SN0, SN1, SN2, SN3, SN4, SN5, SN6, SN7, SN8, SN9, SN10, SN11, SN12, SN13, SN14, SN15, SN16, SN17, SN18, SJ0, SJ1, SJ2, SJ3, SJ4, SJ5, bindS, if_pos, if_neg, w_isWithin, w_isIn, JB_0, JB_1, bz_B, ite10, ite01, Int.natCast_add, csN0, csN1, csN16, Int.toNat_natCast, ite_not, not_true_eq_false, not_false_eq_true], I⟩
      · rw [if_neg k2] at w
        rw [if_neg (fun h => k2 h.1)] at g
        exact ⟨J (-12), d, d, by simp (disch := first | omega | assumption | decide) only [f_X11_rule, e1, r1, g, z0_0, z0_1, z0_2, z0_3, z0_4, z0_5, z0_6, z0_7, z0_8, z0_9, z0_10, z0_11, z0_12, z0_13, z0_14, z0_15, z0_16, z0_17, z1_0, z1_1, z1_2, z1_3, z1_4, z1_5, z1_6, z1_7, z1_8, z2_0, z3_0, z3_1, z4_0, z4_1, z5_0, z5_1, z124_0, SG0, SG1, SG2, SG3, SG4, SG5, SG6, SG7, SG8, SG9, SG10, SG11, SG12, SS0, SS1, SS2, SS3, SS4, SS5, SS6, SS7, SS8, SS9, SS10, SS11, z30_0, z30_1, z30_2, z30_3, z30_4, z30_5, z30_6, z30_7, z30_8, z59_0, z59_1, z59_2, z59_3, z59_4, z62_0, z62_1, z62_2, z62_3, z62_4, z63_0, z76_0, z76_1, z125_0, z125_1, z125_2, z125_3, z125_4, z125_5, z125_6, z125_7, z125_8, z125_9, z125_10, z125_11, z125_12, z125_13, z128_0, z128_1, z128_2, z128_3, z128_4, z128_5, z128_6, z128_7, z128_8, z128_9, z130_0, z130_1, z131_0, z131_1, z131_2, z131_3, z131_4, z131_5, z131_6, z131_7, z131_8, z140_0, z140_1, z140_2, z140_3, z140_4, z140_5, z140_6, z140_7, z145_0, z145_1, z146_0, z146_1, z146_2, z146_3, z146_4, z146_5, z146_6, z146_7, z146_8, z146_9, z146_10, z146_11, z146_12, z146_13, z146_14, SN0, SN1, SN2, SN3, SN4, SN5, SN6, SN7, SN8, SN9, SN10, SN11, SN12, SN13, SN14, SN15, SN16, SN17, SN18, SJ0, SJ1, SJ2, SJ3, SJ4, SJ5, bindS, if_pos, if_neg, w_isWithin, w_isIn, JB_0, JB_1, bz_B, ite10, ite01, Int.natCast_add, csN0, csN1, csN16, Int.toNat_natCast, ite_not, not_true_eq_false, not_false_eq_true], by simp (disch := first | omega | assumption | decide) only [f_X12_rule, e2, w, z183_0, z183_1, z183_2, z183_3, z183_4, z183_5, z183_6, z183_7, z183_8, z183_9, z183_10, z183_11, z183_12, z183_13, z183_14, z183_15, z183_16, z183_17, z183_18, z183_19, z183_20, z183_21, z183_22, z183_23, z183_24, z183_25, z183_26, z183_27, z183_28, z183_29, z183_30, z183_31, z183_32, z183_33, z183_34, z183_35, z183_36, z183_37, z183_38, z183_39, z183_40, z183_41, z183_42, z184_0, z184_1, z185_0, z185_1, z186_0, z186_1, z187_0, z187_1, z188_0, z188_1, z189_0, z189_1, z190_0, z190_1, z191_0, z191_1, z192_0, z192_1, z193_0, z193_1, z194_0, z194_1, z195_0, z195_1, z196_0, z196_1, z197_0, z197_1, z198_0, z198_1, z198_2, z199_0, z199_1, z200_0, z200_1, z201_0, z201_1, z202_0, z202_1, SN0, SN1, SN2, SN3, SN4, SN5, SN6, SN7, SN8, SN9, SN10, SN11, SN12, SN13, SN14, SN15, SN16, SN17, SN18, SJ0, SJ1, SJ2, SJ3, SJ4, SJ5, bindS, if_pos, if_neg, w_isWithin, w_isIn, JB_0, JB_1, bz_B, ite10, ite01, Int.natCast_add, csN0, csN1, csN16, Int.toNat_natCast, ite_not, not_true_eq_false, not_false_eq_true], I⟩
  · rw [B_f c] at e1 e2
    exact ⟨J (-1), d, d, by simp (disch := first | omega | assumption | decide) only [f_X11_rule, e1, z0_0, z0_1, z0_2, z0_3, z0_4, z0_5, z0_6, z0_7, z0_8, z0_9, z0_10, z0_11, z0_12, z0_13, z0_14, z0_15, z0_16, z0_17, z1_0, z1_1, z1_2, z1_3, z1_4, z1_5, z1_6, z1_7, z1_8, z2_0, z3_0, z3_1, z4_0, z4_1, z5_0, z5_1, z124_0, SG0, SG1, SG2, SG3, SG4, SG5, SG6, SG7, SG8, SG9, SG10, SG11, SG12, SS0, SS1, SS2, SS3, SS4, SS5, SS6, SS7, SS8, SS9, SS10, SS11, z30_0, z30_1, z30_2, z30_3, z30_4, z30_5, z30_6, z30_7, z30_8, z59_0, z59_1, z59_2, z59_3, z59_4, z62_0, z62_1, z62_2, z62_3, z62_4, z63_0, z76_0, z76_1, z125_0, z125_1, z125_2, z125_3, z125_4, z125_5, z125_6, z125_7, z125_8, z125_9, z125_10, z125_11, z125_12, z125_13, z128_0, z128_1, z128_2, z128_3, z128_4, z128_5, z128_6, z128_7, z128_8, z128_9, z130_0, z130_1, z131_0, z131_1, z131_2, z131_3, z131_4, z131_5, z131_6, z131_7, z131_8, z140_0, z140_1, z140_2, z140_3, z140_4, z140_5, z140_6, z140_7, z145_0, z145_1, z146_0, z146_1, z146_2, z146_3, z146_4, z146_5, z146_6, z146_7, z146_8, z146_9, z146_10, z146_11, z146_12, z146_13, z146_14, SN0, SN1, SN2, SN3, SN4, SN5, SN6, SN7, SN8, SN9, SN10, SN11, SN12, SN13, SN14, SN15, SN16, SN17, SN18, SJ0, SJ1, SJ2, SJ3, SJ4, SJ5, bindS, if_pos, if_neg, w_isWithin, w_isIn, JB_0, JB_1, bz_B, ite10, ite01, Int.natCast_add, csN0, csN1, csN16, Int.toNat_natCast, ite_not, not_true_eq_false, not_false_eq_true], by simp (disch := first | omega | assumption | decide) only [f_X12_rule, e2, z183_0, z183_1, z183_2, z183_3, z183_4, z183_5, z183_6, z183_7, z183_8, z183_9, z183_10, z183_11, z183_12, z183_13, z183_14, z183_15, z183_16, z183_17, z183_18, z183_19, z183_20, z183_21, z183_22, z183_23, z183_24, z183_25, z183_26, z183_27, z183_28, z183_29, z183_30, z183_31, z183_32, z183_33, z183_34, z183_35, z183_36, z183_37, z183_38, z183_39, z183_40, z183_41, z183_42, z184_0, z184_1, z185_0, z185_1, z186_0, z186_1, z187_0, z187_1, z188_0, z188_1, z189_0, z189_1, z190_0, z190_1, z191_0, z191_1, z192_0, z192_1, z193_0, z193_1, z194_0, z194_1, z195_0, z195_1, z196_0, z196_1, z197_0, z197_1, z198_0, z198_1, z198_2, z199_0, z199_1, z200_0, z200_1, z201_0, z201_1, z202_0, z202_1, SN0, SN1, SN2, SN3, SN4, SN5, SN6, SN7, SN8, SN9, SN10, SN11, SN12, SN13, SN14, SN15, SN16, SN17, SN18, SJ0, SJ1, SJ2, SJ3, SJ4, SJ5, bindS, if_pos, if_neg, w_isWithin, w_isIn, JB_0, JB_1, bz_B, ite10, ite01, Int.natCast_add, csN0, csN1, csN16, Int.toNat_natCast, ite_not, not_true_eq_false, not_false_eq_true], I⟩
end
