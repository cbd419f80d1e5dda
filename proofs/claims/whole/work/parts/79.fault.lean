/-! fault -/
theorem ms_mk (d : Mem) (p s : Int) : up (up d 183 12 p) 183 25 s = ms d p s := by
  funext a k
  unfold up ms
  by_cases c : a = 183 ∧ k = 25
  · rw [if_pos c, if_neg (by omega), if_pos c]
  · rw [if_neg c, if_neg c]
/-- the memory of the model that reads n signs of the row b from o on -/
def mo (d : Mem) (b o n : Int) : Mem := up (up (up d 183 16 b) 183 13 o) 183 14 n
section
variable {d : Mem}
theorem mo_MD {b : Nat} {o : Int} {tx : Int → Int} {n : Int} (n0 : 0 ≤ n) (n1 : n ≤ 120) (hb : b ≠ 183) (hl : ∃ len : Nat, shR b = some (0, len) ∧ 0 ≤ o ∧ o + n ≤ len ∧ len ≤ 10000) (ht : ∀ k, 0 ≤ k → k < n → d b (o + k) = tx k ∧ -128 ≤ tx k ∧ tx k ≤ 127) : MD (mo d b o n) b o tx n := by
  refine ⟨?_, ?_, ?_, n0, n1, hb, hl, fun k h0 h1 => ?_⟩
  · unfold mo
    rw [up_nk (by decide), up_nk (by decide), up_same]
  · unfold mo
    rw [up_nk (by decide), up_same]
  · unfold mo
    rw [up_same]
  · unfold mo
    rw [up_na hb, up_na hb, up_na hb]
    exact ht k h0 h1
theorem mo_na {b o n : Int} {x : Nat} {k : Int} (h : ¬ (x = 183 ∧ (k = 16 ∨ k = 13 ∨ k = 14))) : mo d b o n x k = d x k := by
  unfold mo up
  rw [if_neg (by omega), if_neg (by omega), if_neg (by omega)]
theorem ms_nn {p s : Int} {x : Nat} {k : Int} (h : ¬ (x = 183 ∧ (k = 12 ∨ k = 25))) : ms d p s x k = d x k := by
  unfold ms
  rw [if_neg (by omega), if_neg (by omega)]
theorem m_faultOf {i : Int} (h0 : 0 ≤ i) (h1 : i < 8) (n0 : 0 ≤ d 190 i) (n1 : d 190 i ≤ 120) {tx : Int → Int} (ht : ∀ k, 0 ≤ k → k < d 190 i → d 191 (120 * i + k) = tx k ∧ -128 ≤ tx k ∧ tx k ≤ 127) (fld : Int → Int32) : ∃ D, f_X12_faultOf (mkH d) 183 (J i) = some (J (if (topS (chS tx (d 190 i)) fld).2.1 = true ∧ (topS (chS tx (d 190 i)) fld).1 = d 190 i then -4 else (topS (chS tx (d 190 i)) fld).1), mkH D) ∧ ∀ x k, ¬ (x = 183 ∧ k ≠ 10) → D x k = d x k := by
  obtain ⟨n, hn⟩ : ∃ n, n = d 190 i := ⟨_, rfl⟩
  rw [← hn] at n0 n1 ht ⊢
  have M : MD (mo d (191 : Nat) (120 * i) n) 191 (120 * i) tx n := mo_MD n0 n1 (by decide) ⟨960, rfl, by omega, by omega, by decide⟩ ht
  obtain ⟨s', t, -⟩ := m_top M (fld := fld)
  obtain ⟨o1, o2, o3⟩ := orS_rng (tx := tx) (n := n) (tst_rng (tx := tx) (n := n) (fld := fld) 130 0) 0 (by decide) n0
  have eT : orS (chS tx n) (tstS (chS tx n) fld 130 0) 0 = topS (chS tx n) fld := rfl
  rw [eT] at o2 o3
  have q1 : f_X12_opens (mkH d) 183 (J i) = some (mkH (up (mo d (191 : Nat) (120 * i) n) 183 12 0)) := by
    have a : ∀ D : Mem, aI (mkH D) 190 (J i) = some (J (D 190 i)) := fun D => q_aI (len := 8) rfl (by decide) h0 (by omega)
    have e : up (up d 183 16 ((191 : Nat) : Int)) 183 13 (120 * i) 190 i = n := by rw [up_na (by decide), up_na (by decide), hn]
    simp (disch := first | omega | assumption | decide) only [f_X12_opens, a, e, z183_0, z183_1, z183_2, z183_3, z183_4, z183_5, z183_6, z183_7, z183_8, z183_9, z183_10, z183_11, z183_12, z183_13, z183_14, z183_15, z183_16, z183_17, z183_18, z183_19, z183_20, z183_21, z183_22, z183_23, z183_24, z183_25, z183_26, z183_27, z183_28, z183_29, z183_30, z183_31, z183_32, z183_33, z183_34, z183_35, z183_36, z183_37, z183_38, z183_39, z183_40, z183_41, z183_42, z184_0, z184_1, z185_0, z185_1, z186_0, z186_1, z187_0, z187_1, z188_0, z188_1, z189_0, z189_1, z190_0, z190_1, z191_0, z191_1, z192_0, z192_1, z193_0, z193_1, z194_0, z194_1, z195_0, z195_1, z196_0, z196_1, z197_0, z197_1, z198_0, z198_1, z198_2, z199_0, z199_1, z200_0, z200_1, z201_0, z201_1, z202_0, z202_1, SN0, SN1, SN2, SN3, SN4, SN5, SN6, SN7, SN8, SN9, SN10, SN11, SN12, SN13, SN14, SN15, SN16, SN17, SN18, SJ0, SJ1, SJ2, SJ3, SJ4, SJ5, bindS, if_pos, if_neg, w_isWithin, w_isIn, JB_0, JB_1, bz_B, ite10, ite01, Int.natCast_add, csN0, csN1, csN16, Int.toNat_natCast, ite_not, not_true_eq_false, not_false_eq_true]
    rfl
  generalize topS (chS tx n) fld = T at *
  have x12 : gI (mkH (ms (mo d (191 : Nat) (120 * i) n) T.1 s')) 183 11 12 = some (J T.1) := by
    rw [q_gI rfl rfl]
    exact congrArg (fun z => some (J z)) (ms_at _ _ _)
  have x14 : gI (mkH (ms (mo d (191 : Nat) (120 * i) n) T.1 s')) 183 11 14 = some (J n) := by
    rw [q_gI rfl rfl]
    exact congrArg (fun z => some (J z)) (by rw [ms_nn (by omega)]; exact M.2.2.1)
  have p25 : pF (mkH (up (mo d (191 : Nat) (120 * i) n) 183 12 0)) 183 11 25 (.int (J 0)) = some (mkH (ms (mo d (191 : Nat) (120 * i) n) 0 0)) := by
    rw [q_pI rfl rfl]
    exact congrArg (fun z => some (mkH z)) (ms_mk _ _ _)
  refine ⟨ms (mo d (191 : Nat) (120 * i) n) T.1 s', ?_, fun x k h => by rw [ms_nn (d := mo d (191 : Nat) (120 * i) n) (p := T.1) (s := s') (by omega), mo_na (by omega)]⟩
  unfold f_X12_faultOf
  refine bind_eq (isO183 _) (bind_eq q1 (bind_eq p25 (bind_eq (isO183 _) (bind_eq t ?_))))
  by_cases c : T.2.1 = true
  · simp only [JBt c, if_false, x12, x14, bindS]
    by_cases c2 : T.1 = n
    · rw [if_pos (show J T.1 = J n by rw [c2]), if_pos (show T.2.1 = true ∧ T.1 = n from ⟨c, c2⟩)]
      rfl
    · rw [if_neg (show ¬ J T.1 = J n by rw [J_eq (by omega) (by omega) (by omega) (by omega)]; exact c2), if_neg (show ¬ (T.2.1 = true ∧ T.1 = n) from fun h => c2 h.2)]
      rfl
  · simp only [JBf c, if_true, x12, bindS]
    rw [if_neg (show ¬ (T.2.1 = true ∧ T.1 = n) from fun h => c h.1)]
theorem ag_fault (I : INV d) (x : Int32) : ∃ r d1 d2, f_X11_fault (mkH d) 0 x = some (r, mkH d1) ∧ f_X12_fault (mkH d1) 183 x = some (r, mkH d2) ∧ INV d2 := by
  obtain ⟨i, z1, z2, rfl⟩ := J_of x
  have e1 := c_isShelf z1 z2
  by_cases c : 0 ≤ i ∧ i ≤ 7
  · rw [B_t c] at e1
    obtain ⟨c1, c2⟩ := c
    have c3 : i < 8 := by omega
    have hS := isS_A c1 c3
    have sl := sA_le c1 c3
    obtain ⟨s1, s2, s3, s4, s5, s6, s7, s8, s9, s10, s11⟩ := I.2.2.2.2.1 i c1 c3
    have g := c_bytesR (d := d) hS (by omega) (by omega) (by omega) (by omega)
    have w := m_wrongRow (d := d) c1 c3 s4 s5 s6 s7 (f := 0) (by decide) (by decide)
    rw [s1, s2] at g
    unfold wrS2 at w
    by_cases k0 : d 188 i = 0
    · rw [if_pos k0] at g w
      exact ⟨J (-11), d, d, by simp (disch := first | omega | assumption | decide) only [f_X11_fault, e1, g, z0_0, z0_1, z0_2, z0_3, z0_4, z0_5, z0_6, z0_7, z0_8, z0_9, z0_10, z0_11, z0_12, z0_13, z0_14, z0_15, z0_16, z0_17, z1_0, z1_1, z1_2, z1_3, z1_4, z1_5, z1_6, z1_7, z1_8, z2_0, z3_0, z3_1, z4_0, z4_1, z5_0, z5_1, z124_0, SG0, SG1, SG2, SG3, SG4, SG5, SG6, SG7, SG8, SG9, SG10, SG11, SG12, SS0, SS1, SS2, SS3, SS4, SS5, SS6, SS7, SS8, SS9, SS10, SS11, z30_0, z30_1, z30_2, z30_3, z30_4, z30_5, z30_6, z30_7, z30_8, z59_0, z59_1, z59_2, z59_3, z59_4, z62_0, z62_1, z62_2, z62_3, z62_4, z63_0, z76_0, z76_1, z125_0, z125_1, z125_2, z125_3, z125_4, z125_5, z125_6, z125_7, z125_8, z125_9, z125_10, z125_11, z125_12, z125_13, z128_0, z128_1, z128_2, z128_3, z128_4, z128_5, z128_6, z128_7, z128_8, z128_9, z130_0, z130_1, z131_0, z131_1, z131_2, z131_3, z131_4, z131_5, z131_6, z131_7, z131_8, z140_0, z140_1, z140_2, z140_3, z140_4, z140_5, z140_6, z140_7, z145_0, z145_1, z146_0, z146_1, z146_2, z146_3, z146_4, z146_5, z146_6, z146_7, z146_8, z146_9, z146_10, z146_11, z146_12, z146_13, z146_14, SN0, SN1, SN2, SN3, SN4, SN5, SN6, SN7, SN8, SN9, SN10, SN11, SN12, SN13, SN14, SN15, SN16, SN17, SN18, SJ0, SJ1, SJ2, SJ3, SJ4, SJ5, bindS, if_pos, if_neg, w_isWithin, w_isIn, JB_0, JB_1, bz_B, ite10, ite01, Int.natCast_add, csN0, csN1, csN16, Int.toNat_natCast, ite_not, not_true_eq_false, not_false_eq_true], by simp (disch := first | omega | assumption | decide) only [f_X12_fault, w, z183_0, z183_1, z183_2, z183_3, z183_4, z183_5, z183_6, z183_7, z183_8, z183_9, z183_10, z183_11, z183_12, z183_13, z183_14, z183_15, z183_16, z183_17, z183_18, z183_19, z183_20, z183_21, z183_22, z183_23, z183_24, z183_25, z183_26, z183_27, z183_28, z183_29, z183_30, z183_31, z183_32, z183_33, z183_34, z183_35, z183_36, z183_37, z183_38, z183_39, z183_40, z183_41, z183_42, z184_0, z184_1, z185_0, z185_1, z186_0, z186_1, z187_0, z187_1, z188_0, z188_1, z189_0, z189_1, z190_0, z190_1, z191_0, z191_1, z192_0, z192_1, z193_0, z193_1, z194_0, z194_1, z195_0, z195_1, z196_0, z196_1, z197_0, z197_1, z198_0, z198_1, z198_2, z199_0, z199_1, z200_0, z200_1, z201_0, z201_1, z202_0, z202_1, SN0, SN1, SN2, SN3, SN4, SN5, SN6, SN7, SN8, SN9, SN10, SN11, SN12, SN13, SN14, SN15, SN16, SN17, SN18, SJ0, SJ1, SJ2, SJ3, SJ4, SJ5, bindS, if_pos, if_neg, w_isWithin, w_isIn, JB_0, JB_1, bz_B, ite10, ite01, Int.natCast_add, csN0, csN1, csN16, Int.toNat_natCast, ite_not, not_true_eq_false, not_false_eq_true], I⟩
    · rw [if_neg k0] at g w
      by_cases k2 : d 188 i = 2
      · rw [if_pos k2, if_neg (by decide)] at w
        by_cases k3 : d 189 i = 0
        · rw [if_pos k3] at w
          rw [if_pos ⟨k2, k3⟩] at g
          obtain ⟨v, d1, a1, f1, a2, -⟩ := k_all (d := d) (b := sA i + 3) (tx := fun k => d 191 (120 * i + k)) (m := d 190 i) hS.2 s8 s9 (fun k h0 h1 => ⟨(s10 k h0 (by omega)).1, (s10 k h0 (by omega)).2.2.2 k3⟩)
          have y190 : d1 190 i = d 190 i := by rw [f1 190 (by decide)]
          obtain ⟨D, b1, b2⟩ := m_faultOf (d := d1) c1 c3 (by rw [y190]; exact s8) (by rw [y190]; exact s9) (tx := fun k => d 191 (120 * i + k)) (fun k h0 h1 => by
            rw [y190] at h1
            exact ⟨by rw [f1 191 (by decide)], (s10 k h0 (by omega)).2.2.2 k3⟩) (fldC d)
          rw [y190] at b1
          have w1 : f_X12_wrongRow (mkH d1) 183 (J i) (J 0) = some (J 0) := by
            have h := m_wrongRow (d := d1) c1 c3 (by rw [f1 188 (by decide)]; exact s4) (by rw [f1 188 (by decide)]; exact s5) (by rw [f1 189 (by decide)]; exact s6) (by rw [f1 189 (by decide)]; exact s7) (f := 0) (by decide) (by decide)
            unfold wrS2 at h
            rw [f1 188 (by decide), f1 189 (by decide), if_neg k0, if_pos k2, if_neg (by decide), if_pos k3] at h
            exact h
          have key : ∀ R : Int, f_X7_faultPlace (mkH d1) 128 = some (J R) → f_X12_faultOf (mkH d1) 183 (J i) = some (J R, mkH D) → ∃ r d1 d2, f_X11_fault (mkH d) 0 (J i) = some (r, mkH d1) ∧ f_X12_fault (mkH d1) 183 (J i) = some (r, mkH d2) ∧ INV d2 := fun R a2 b1 => by
            refine ⟨J R, d1, D, ?_, ?_, INV_fr I (fun a k h => ?_)⟩
            · simp (disch := first | omega | assumption | decide) only [f_X11_fault, e1, g, s3, a1, a2, z0_0, z0_1, z0_2, z0_3, z0_4, z0_5, z0_6, z0_7, z0_8, z0_9, z0_10, z0_11, z0_12, z0_13, z0_14, z0_15, z0_16, z0_17, z1_0, z1_1, z1_2, z1_3, z1_4, z1_5, z1_6, z1_7, z1_8, z2_0, z3_0, z3_1, z4_0, z4_1, z5_0, z5_1, z124_0, SG0, SG1, SG2, SG3, SG4, SG5, SG6, SG7, SG8, SG9, SG10, SG11, SG12, SS0, SS1, SS2, SS3, SS4, SS5, SS6, SS7, SS8, SS9, SS10, SS11, z30_0, z30_1, z30_2, z30_3, z30_4, z30_5, z30_6, z30_7, z30_8, z59_0, z59_1, z59_2, z59_3, z59_4, z62_0, z62_1, z62_2, z62_3, z62_4, z63_0, z76_0, z76_1, z125_0, z125_1, z125_2, z125_3, z125_4, z125_5, z125_6, z125_7, z125_8, z125_9, z125_10, z125_11, z125_12, z125_13, z128_0, z128_1, z128_2, z128_3, z128_4, z128_5, z128_6, z128_7, z128_8, z128_9, z130_0, z130_1, z131_0, z131_1, z131_2, z131_3, z131_4, z131_5, z131_6, z131_7, z131_8, z140_0, z140_1, z140_2, z140_3, z140_4, z140_5, z140_6, z140_7, z145_0, z145_1, z146_0, z146_1, z146_2, z146_3, z146_4, z146_5, z146_6, z146_7, z146_8, z146_9, z146_10, z146_11, z146_12, z146_13, z146_14, SN0, SN1, SN2, SN3, SN4, SN5, SN6, SN7, SN8, SN9, SN10, SN11, SN12, SN13, SN14, SN15, SN16, SN17, SN18, SJ0, SJ1, SJ2, SJ3, SJ4, SJ5, bindS, if_pos, if_neg, w_isWithin, w_isIn, JB_0, JB_1, bz_B, ite10, ite01, Int.natCast_add, csN0, csN1, csN16, Int.toNat_natCast, ite_not, not_true_eq_false, not_false_eq_true]
            · unfold f_X12_fault
              refine bind_eq (isO183 _) (bind_eq w1 ?_)
              rw [if_pos (show (J 0 : Int32) = 0 from rfl)]
              exact bind_eq (bind_eq (isO183 _) (bind_eq b1 rfl)) rfl
            · rw [b2 a k (fun e => h (by unfold Sc; omega)), f1 a (fun e => h (by unfold Sc; omega))]
          exact key _ a2 b1
        · rw [if_neg k3] at w
          rw [if_neg (fun h => k3 h.2)] at g
          exact ⟨J (-12), d, d, by simp (disch := first | omega | assumption | decide) only [f_X11_fault, e1, g, z0_0, z0_1, z0_2, z0_3, z0_4, z0_5, z0_6, z0_7, z0_8, z0_9, z0_10, z0_11, z0_12, z0_13, z0_14, z0_15, z0_16, z0_17, z1_0, z1_1, z1_2, z1_3, z1_4, z1_5, z1_6, z1_7, z1_8, z2_0, z3_0, z3_1, z4_0, z4_1, z5_0, z5_1, z124_0, SG0, SG1, SG2, SG3, SG4, SG5, SG6, SG7, SG8, SG9, SG10, SG11, SG12, SS0, SS1, SS2, SS3, SS4, SS5, SS6, SS7, SS8, SS9, SS10, SS11, z30_0, z30_1, z30_2, z30_3, z30_4, z30_5, z30_6, z30_7, z30_8, z59_0, z59_1, z59_2, z59_3, z59_4, z62_0, z62_1, z62_2, z62_3, z62_4, z63_0, z76_0, z76_1, z125_0, z125_1, z125_2, z125_3, z125_4, z125_5, z125_6, z125_7, z125_8, z125_9, z125_10, z125_11, z125_12, z125_13, z128_0, z128_1, z128_2, z128_3, z128_4, z128_5, z128_6, z128_7, z128_8, z128_9, z130_0, z130_1, z131_0, z131_1, z131_2, z131_3, z131_4, z131_5, z131_6, z131_7, z131_8, z140_0, z140_1, z140_2, z140_3, z140_4, z140_5, z140_6, z140_7, z145_0, z145_1, z146_0, z146_1, z146_2, z146_3, z146_4, z146_5, z146_6, z146_7, z146_8, z146_9, z146_10, z146_11, z146_12, z146_13, z146_14, SN0, SN1, SN2, SN3, SN4, SN5, SN6, SN7, SN8, SN9, SN10, SN11, SN12, SN13, SN14, SN15, SN16, SN17, SN18, SJ0, SJ1, SJ2, SJ3, SJ4, SJ5, bindS, if_pos, if_neg, w_isWithin, w_isIn, JB_0, JB_1, bz_B, ite10, ite01, Int.natCast_add, csN0, csN1, csN16, Int.toNat_natCast, ite_not, not_true_eq_false, not_false_eq_true], by simp (disch := first | omega | assumption | decide) only [f_X12_fault, w, z183_0, z183_1, z183_2, z183_3, z183_4, z183_5, z183_6, z183_7, z183_8, z183_9, z183_10, z183_11, z183_12, z183_13, z183_14, z183_15, z183_16, z183_17, z183_18, z183_19, z183_20, z183_21, z183_22, z183_23, z183_24, z183_25, z183_26, z183_27, z183_28, z183_29, z183_30, z183_31, z183_32, z183_33, z183_34, z183_35, z183_36, z183_37, z183_38, z183_39, z183_40, z183_41, z183_42, z184_0, z184_1, z185_0, z185_1, z186_0, z186_1, z187_0, z187_1, z188_0, z188_1, z189_0, z189_1, z190_0, z190_1, z191_0, z191_1, z192_0, z192_1, z193_0, z193_1, z194_0, z194_1, z195_0, z195_1, z196_0, z196_1, z197_0, z197_1, z198_0, z198_1, z198_2, z199_0, z199_1, z200_0, z200_1, z201_0, z201_1, z202_0, z202_1, SN0, SN1, SN2, SN3, SN4, SN5, SN6, SN7, SN8, SN9, SN10, SN11, SN12, SN13, SN14, SN15, SN16, SN17, SN18, SJ0, SJ1, SJ2, SJ3, SJ4, SJ5, bindS, if_pos, if_neg, w_isWithin, w_isIn, JB_0, JB_1, bz_B, ite10, ite01, Int.natCast_add, csN0, csN1, csN16, Int.toNat_natCast, ite_not, not_true_eq_false, not_false_eq_true], I⟩
      · rw [if_neg k2] at w
        rw [if_neg (fun h => k2 h.1)] at g
        exact ⟨J (-12), d, d, by simp (disch := first | omega | assumption | decide) only [f_X11_fault, e1, g, z0_0, z0_1, z0_2, z0_3, z0_4, z0_5, z0_6, z0_7, z0_8, z0_9, z0_10, z0_11, z0_12, z0_13, z0_14, z0_15, z0_16, z0_17, z1_0, z1_1, z1_2, z1_3, z1_4, z1_5, z1_6, z1_7, z1_8, z2_0, z3_0, z3_1, z4_0, z4_1, z5_0, z5_1, z124_0, SG0, SG1, SG2, SG3, SG4, SG5, SG6, SG7, SG8, SG9, SG10, SG11, SG12, SS0, SS1, SS2, SS3, SS4, SS5, SS6, SS7, SS8, SS9, SS10, SS11, z30_0, z30_1, z30_2, z30_3, z30_4, z30_5, z30_6, z30_7, z30_8, z59_0, z59_1, z59_2, z59_3, z59_4, z62_0, z62_1, z62_2, z62_3, z62_4, z63_0, z76_0, z76_1, z125_0, z125_1, z125_2, z125_3, z125_4, z125_5, z125_6, z125_7, z125_8, z125_9, z125_10, z125_11, z125_12, z125_13, z128_0, z128_1, z128_2, z128_3, z128_4, z128_5, z128_6, z128_7, z128_8, z128_9, z130_0, z130_1, z131_0, z131_1, z131_2, z131_3, z131_4, z131_5, z131_6, z131_7, z131_8, z140_0, z140_1, z140_2, z140_3, z140_4, z140_5, z140_6, z140_7, z145_0, z145_1, z146_0, z146_1, z146_2, z146_3, z146_4, z146_5, z146_6, z146_7, z146_8, z146_9, z146_10, z146_11, z146_12, z146_13, z146_14, SN0, SN1, SN2, SN3, SN4, SN5, SN6, SN7, SN8, SN9, SN10, SN11, SN12, SN13, SN14, SN15, SN16, SN17, SN18, SJ0, SJ1, SJ2, SJ3, SJ4, SJ5, bindS, if_pos, if_neg, w_isWithin, w_isIn, JB_0, JB_1, bz_B, ite10, ite01, Int.natCast_add, csN0, csN1, csN16, Int.toNat_natCast, ite_not, not_true_eq_false, not_false_eq_true], by simp (disch := first | omega | assumption | decide) only [f_X12_fault, w, z183_0, z183_1, z183_2, z183_3, z183_4, z183_5, z183_6, z183_7, z183_8, z183_9, z183_10, z183_11, z183_12, z183_13, z183_14, z183_15, z183_16, z183_17, z183_18, z183_19, z183_20, z183_21, z183_22, z183_23, z183_24, z183_25, z183_26, z183_27, z183_28, z183_29, z183_30, z183_31, z183_32, z183_33, z183_34, z183_35, z183_36, z183_37, z183_38, z183_39, z183_40, z183_41, z183_42, z184_0, z184_1, z185_0, z185_1, z186_0, z186_1, z187_0, z187_1, z188_0, z188_1, z189_0, z189_1, z190_0, z190_1, z191_0, z191_1, z192_0, z192_1, z193_0, z193_1, z194_0, z194_1, z195_0, z195_1, z196_0, z196_1, z197_0, z197_1, z198_0, z198_1, z198_2, z199_0, z199_1, z200_0, z200_1, z201_0, z201_1, z202_0, z202_1, SN0, SN1, SN2, SN3, SN4, SN5, SN6, SN7, SN8, SN9, SN10, SN11, SN12, SN13, SN14, SN15, SN16, SN17, SN18, SJ0, SJ1, SJ2, SJ3, SJ4, SJ5, bindS, if_pos, if_neg, w_isWithin, w_isIn, JB_0, JB_1, bz_B, ite10, ite01, Int.natCast_add, csN0, csN1, csN16, Int.toNat_natCast, ite_not, not_true_eq_false, not_false_eq_true], I⟩
  · rw [B_f c] at e1
    have w := m_wrongRowBad (d := d) z1 z2 c (f := 0)
    exact ⟨J (-1), d, d, by simp (disch := first | omega | assumption | decide) only [f_X11_fault, e1, z0_0, z0_1, z0_2, z0_3, z0_4, z0_5, z0_6, z0_7, z0_8, z0_9, z0_10, z0_11, z0_12, z0_13, z0_14, z0_15, z0_16, z0_17, z1_0, z1_1, z1_2, z1_3, z1_4, z1_5, z1_6, z1_7, z1_8, z2_0, z3_0, z3_1, z4_0, z4_1, z5_0, z5_1, z124_0, SG0, SG1, SG2, SG3, SG4, SG5, SG6, SG7, SG8, SG9, SG10, SG11, SG12, SS0, SS1, SS2, SS3, SS4, SS5, SS6, SS7, SS8, SS9, SS10, SS11, z30_0, z30_1, z30_2, z30_3, z30_4, z30_5, z30_6, z30_7, z30_8, z59_0, z59_1, z59_2, z59_3, z59_4, z62_0, z62_1, z62_2, z62_3, z62_4, z63_0, z76_0, z76_1, z125_0, z125_1, z125_2, z125_3, z125_4, z125_5, z125_6, z125_7, z125_8, z125_9, z125_10, z125_11, z125_12, z125_13, z128_0, z128_1, z128_2, z128_3, z128_4, z128_5, z128_6, z128_7, z128_8, z128_9, z130_0, z130_1, z131_0, z131_1, z131_2, z131_3, z131_4, z131_5, z131_6, z131_7, z131_8, z140_0, z140_1, z140_2, z140_3, z140_4, z140_5, z140_6, z140_7, z145_0, z145_1, z146_0, z146_1, z146_2, z146_3, z146_4, z146_5, z146_6, z146_7, z146_8, z146_9, z146_10, z146_11, z146_12, z146_13, z146_14, SN0, SN1, SN2, SN3, SN4, SN5, SN6, SN7, SN8, SN9, SN10, SN11, SN12, SN13, SN14, SN15, SN16, SN17, SN18, SJ0, SJ1, SJ2, SJ3, SJ4, SJ5, bindS, if_pos, if_neg, w_isWithin, w_isIn, JB_0, JB_1, bz_B, ite10, ite01, Int.natCast_add, csN0, csN1, csN16, Int.toNat_natCast, ite_not, not_true_eq_false, not_false_eq_true], by simp (disch := first | omega | assumption | decide) only [f_X12_fault, w, z183_0, z183_1, z183_2, z183_3, z183_4, z183_5, z183_6, z183_7, z183_8, z183_9, z183_10, z183_11, z183_12, z183_13, z183_14, z183_15, z183_16, z183_17, z183_18, z183_19, z183_20, z183_21, z183_22, z183_23, z183_24, z183_25, z183_26, z183_27, z183_28, z183_29, z183_30, z183_31, z183_32, z183_33, z183_34, z183_35, z183_36, z183_37, z183_38, z183_39, z183_40, z183_41, z183_42, z184_0, z184_1, z185_0, z185_1, z186_0, z186_1, z187_0, z187_1, z188_0, z188_1, z189_0, z189_1, z190_0, z190_1, z191_0, z191_1, z192_0, z192_1, z193_0, z193_1, z194_0, z194_1, z195_0, z195_1, z196_0, z196_1, z197_0, z197_1, z198_0, z198_1, z198_2, z199_0, z199_1, z200_0, z200_1, z201_0, z201_1, z202_0, z202_1, SN0, SN1, SN2, SN3, SN4, SN5, SN6, SN7, SN8, SN9, SN10, SN11, SN12, SN13, SN14, SN15, SN16, SN17, SN18, SJ0, SJ1, SJ2, SJ3, SJ4, SJ5, bindS, if_pos, if_neg, w_isWithin, w_isIn, JB_0, JB_1, bz_B, ite10, ite01, Int.natCast_add, csN0, csN1, csN16, Int.toNat_natCast, ite_not, not_true_eq_false, not_false_eq_true], I⟩
end
