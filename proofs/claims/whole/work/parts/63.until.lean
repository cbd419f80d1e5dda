/-! the spares; saves and back; until -/
section
variable {d : Mem}
theorem m_saves : f_X12_saves (mkH d) 183 = some (mkH (fl d 187 0 228 (d 185))) := by
  have L : iter (b_X12_saves_2 183) FU (J 0, mkH d) = some (mkH (fl d 187 0 228 (d 185))) := by
    obtain ⟨N, hN⟩ : ∃ N : Nat, N = 228 := ⟨_, rfl⟩
    have hN' : (N : Int) = 228 := by omega
    rw [← hN']
    refine iter_at (fun k => (J (k : Int), mkH (fl d 187 0 k (d 185)))) N (by simp only [cs0, fl_0]) (by omega) (fun k hk => ?_) ?_
    · have e : fl d 187 0 k (d 185) 185 k = d 185 k := fl_na (by decide)
      simp (disch := first | omega | assumption | decide) only [b_X12_saves_2, e, z183_0, z183_1, z183_2, z183_3, z183_4, z183_5, z183_6, z183_7, z183_8, z183_9, z183_10, z183_11, z183_12, z183_13, z183_14, z183_15, z183_16, z183_17, z183_18, z183_19, z183_20, z183_21, z183_22, z183_23, z183_24, z183_25, z183_26, z183_27, z183_28, z183_29, z183_30, z183_31, z183_32, z183_33, z183_34, z183_35, z183_36, z183_37, z183_38, z183_39, z183_40, z183_41, z183_42, z184_0, z184_1, z185_0, z185_1, z186_0, z186_1, z187_0, z187_1, z188_0, z188_1, z189_0, z189_1, z190_0, z190_1, z191_0, z191_1, z192_0, z192_1, z193_0, z193_1, z194_0, z194_1, z195_0, z195_1, z196_0, z196_1, z197_0, z197_1, z198_0, z198_1, z198_2, z199_0, z199_1, z200_0, z200_1, z201_0, z201_1, z202_0, z202_1, SN0, SN1, SN2, SN3, SN4, SN5, SN6, SN7, SN8, SN9, SN10, SN11, SN12, SN13, SN14, SN15, SN16, SN17, SN18, SJ0, SJ1, SJ2, SJ3, SJ4, SJ5, bindS, if_pos, if_neg, w_isWithin, w_isIn, JB_0, JB_1, bz_B, ite10, ite01, Int.natCast_add, csN0, csN1, csN16, Int.toNat_natCast, ite_not, not_true_eq_false, not_false_eq_true]
      exact congrArg (fun z => some (Sum.inl (J ((k : Int) + 1), mkH z))) (fl_up (by omega) (by omega) rfl)
    · simp (disch := first | omega | assumption | decide) only [b_X12_saves_2, z183_0, z183_1, z183_2, z183_3, z183_4, z183_5, z183_6, z183_7, z183_8, z183_9, z183_10, z183_11, z183_12, z183_13, z183_14, z183_15, z183_16, z183_17, z183_18, z183_19, z183_20, z183_21, z183_22, z183_23, z183_24, z183_25, z183_26, z183_27, z183_28, z183_29, z183_30, z183_31, z183_32, z183_33, z183_34, z183_35, z183_36, z183_37, z183_38, z183_39, z183_40, z183_41, z183_42, z184_0, z184_1, z185_0, z185_1, z186_0, z186_1, z187_0, z187_1, z188_0, z188_1, z189_0, z189_1, z190_0, z190_1, z191_0, z191_1, z192_0, z192_1, z193_0, z193_1, z194_0, z194_1, z195_0, z195_1, z196_0, z196_1, z197_0, z197_1, z198_0, z198_1, z198_2, z199_0, z199_1, z200_0, z200_1, z201_0, z201_1, z202_0, z202_1, SN0, SN1, SN2, SN3, SN4, SN5, SN6, SN7, SN8, SN9, SN10, SN11, SN12, SN13, SN14, SN15, SN16, SN17, SN18, SJ0, SJ1, SJ2, SJ3, SJ4, SJ5, bindS, if_pos, if_neg, w_isWithin, w_isIn, JB_0, JB_1, bz_B, ite10, ite01, Int.natCast_add, csN0, csN1, csN16, Int.toNat_natCast, ite_not, not_true_eq_false, not_false_eq_true]
  exact bind_eq rfl (bind_eq L rfl)
theorem m_back : f_X12_back (mkH d) 183 = some (mkH (fl d 185 0 228 (d 187))) := by
  have L : iter (b_X12_back_2 183) FU (J 0, mkH d) = some (mkH (fl d 185 0 228 (d 187))) := by
    obtain ⟨N, hN⟩ : ∃ N : Nat, N = 228 := ⟨_, rfl⟩
    have hN' : (N : Int) = 228 := by omega
    rw [← hN']
    refine iter_at (fun k => (J (k : Int), mkH (fl d 185 0 k (d 187)))) N (by simp only [cs0, fl_0]) (by omega) (fun k hk => ?_) ?_
    · have e : fl d 185 0 k (d 187) 187 k = d 187 k := fl_na (by decide)
      simp (disch := first | omega | assumption | decide) only [b_X12_back_2, e, z183_0, z183_1, z183_2, z183_3, z183_4, z183_5, z183_6, z183_7, z183_8, z183_9, z183_10, z183_11, z183_12, z183_13, z183_14, z183_15, z183_16, z183_17, z183_18, z183_19, z183_20, z183_21, z183_22, z183_23, z183_24, z183_25, z183_26, z183_27, z183_28, z183_29, z183_30, z183_31, z183_32, z183_33, z183_34, z183_35, z183_36, z183_37, z183_38, z183_39, z183_40, z183_41, z183_42, z184_0, z184_1, z185_0, z185_1, z186_0, z186_1, z187_0, z187_1, z188_0, z188_1, z189_0, z189_1, z190_0, z190_1, z191_0, z191_1, z192_0, z192_1, z193_0, z193_1, z194_0, z194_1, z195_0, z195_1, z196_0, z196_1, z197_0, z197_1, z198_0, z198_1, z198_2, z199_0, z199_1, z200_0, z200_1, z201_0, z201_1, z202_0, z202_1, SN0, SN1, SN2, SN3, SN4, SN5, SN6, SN7, SN8, SN9, SN10, SN11, SN12, SN13, SN14, SN15, SN16, SN17, SN18, SJ0, SJ1, SJ2, SJ3, SJ4, SJ5, bindS, if_pos, if_neg, w_isWithin, w_isIn, JB_0, JB_1, bz_B, ite10, ite01, Int.natCast_add, csN0, csN1, csN16, Int.toNat_natCast, ite_not, not_true_eq_false, not_false_eq_true]
      exact congrArg (fun z => some (Sum.inl (J ((k : Int) + 1), mkH z))) (fl_up (by omega) (by omega) rfl)
    · simp (disch := first | omega | assumption | decide) only [b_X12_back_2, z183_0, z183_1, z183_2, z183_3, z183_4, z183_5, z183_6, z183_7, z183_8, z183_9, z183_10, z183_11, z183_12, z183_13, z183_14, z183_15, z183_16, z183_17, z183_18, z183_19, z183_20, z183_21, z183_22, z183_23, z183_24, z183_25, z183_26, z183_27, z183_28, z183_29, z183_30, z183_31, z183_32, z183_33, z183_34, z183_35, z183_36, z183_37, z183_38, z183_39, z183_40, z183_41, z183_42, z184_0, z184_1, z185_0, z185_1, z186_0, z186_1, z187_0, z187_1, z188_0, z188_1, z189_0, z189_1, z190_0, z190_1, z191_0, z191_1, z192_0, z192_1, z193_0, z193_1, z194_0, z194_1, z195_0, z195_1, z196_0, z196_1, z197_0, z197_1, z198_0, z198_1, z198_2, z199_0, z199_1, z200_0, z200_1, z201_0, z201_1, z202_0, z202_1, SN0, SN1, SN2, SN3, SN4, SN5, SN6, SN7, SN8, SN9, SN10, SN11, SN12, SN13, SN14, SN15, SN16, SN17, SN18, SJ0, SJ1, SJ2, SJ3, SJ4, SJ5, bindS, if_pos, if_neg, w_isWithin, w_isIn, JB_0, JB_1, bz_B, ite10, ite01, Int.natCast_add, csN0, csN1, csN16, Int.toNat_natCast, ite_not, not_true_eq_false, not_false_eq_true]
  exact bind_eq rfl (bind_eq L rfl)
theorem spares_go {z : Int} (I : INV d) (c1 : 0 ≤ z) (c2 : z < d 185 1741) : ∃ d1 a b rm, f_X11_rollSpares (mkH d) 0 (J z) = some (mkH d1) ∧ Fr d d1 ∧ CR d1 136 138 ∧ cw d1 136 = vw d 185 a ∧ cw d1 138 = vw d 185 b ∧ d1 140 2 = rm ∧ Msd d1 (offS (vw d 185 a) (vw d 185 b) rm) ∧ MR d z a b rm ∧ (∀ x, x < 136 ∨ 146 ≤ x → d1 x = d x) ∧ a < d 185 1740 ∧ b < d 185 1740 ∧ (∀ load, laS d1 136 load = maS d a load) ∧ (∀ load, laS d1 138 load = maS d b load) := by
  have P := I.1
  have M := MS_of P c1 c2
  obtain ⟨p1, p2, p3, p4, p5, p6, p7, p8⟩ := id P
  obtain ⟨m0, m1, m2, a0, a1, b0, b1, nab, r0, r1⟩ := p8 z c1 c2
  obtain ⟨-, ga1, ga2, -, wa, ka0, ka1, ta0, ta1, -, -, ok⟩ := p7 _ a0 a1
  obtain ⟨-, gb1, gb2, -, wb, kb0, kb1, tb0, tb1, -, -, ok'⟩ := p7 _ b0 b1
  generalize d 185 (228 + 3 * z + 0) = a at *
  generalize d 185 (228 + 3 * z + 1) = b at *
  generalize d 185 (228 + 3 * z + 2) = rm at *
  have hg := isG_1 a0 (by omega : a < 12)
  have hg' := isG_1 b0 (by omega : b < 12)
  have la := gA_le (p := 1) a0 (by omega : a < 12)
  have lb := gA_le (p := 1) b0 (by omega : b < 12)
  have t1 := c_gearTake (d := d) isG_136 hg (by omega)
  obtain ⟨e1, he1⟩ : ∃ e1, e1 = cpG d 136 (gA 1 a) := ⟨_, rfl⟩
  rw [← he1] at t1
  have t2 := c_gearTake (d := e1) isG_138 hg' (by omega)
  obtain ⟨e2, he2⟩ : ∃ e2, e2 = cpG e1 138 (gA 1 b) := ⟨_, rfl⟩
  rw [← he2] at t2
  have x1 : ∀ x, x ≠ 136 → x ≠ 137 → e1 x = d x := fun x h1 h2 => funext fun k => by rw [he1]; exact cpG_na h1 h2
  have x2 : ∀ x, x ≠ 138 → x ≠ 139 → e2 x = e1 x := fun x h1 h2 => funext fun k => by rw [he2]; exact cpG_na h1 h2
  have w1 : cw e2 136 = vw d 185 a := by
    rw [cw_row (x2 137 (by decide) (by decide)), he1, cpG_w, wa]
  have w2 : cw e2 138 = vw d 185 b := by
    rw [he2, cpG_w, cw_row (x1 (gA 1 b + 1) (by omega) (by omega)), wb]
  obtain ⟨d1, q1, q2, q3, q4, q5, q6, q7⟩ := c_roll (d := e2) (rm := rm) isG_136 isG_138 (by rw [w1]; exact ok) (by rw [w2]; exact ok') r0 r1
  rw [w1] at q4 q7
  rw [w2] at q5 q7
  have rows : ∀ x, x < 136 ∨ 146 ≤ x → d1 x = d x := fun x h => by rw [q2 x (by omega) (by omega), x2 x (by omega) (by omega), x1 x (by omega) (by omega)]
  have f136 : ∀ k, 0 ≤ k → k < 4 → d1 136 k = d (gA 1 a) k := fun k k0 k1 => by rw [q2 136 (by decide) (by decide), x2 136 (by decide) (by decide), he1]; exact cpG_f k0 k1
  have f138 : ∀ k, 0 ≤ k → k < 4 → d1 138 k = d (gA 1 b) k := fun k k0 k1 => by
    rw [q2 138 (by decide) (by decide), he2, cpG_f k0 k1]
    exact congrFun (x1 (gA 1 b) (by omega) (by omega)) k
  have F : Fr d d1 := fun x k s => congrFun (rows x (by
    by_cases h : x < 136 ∨ 146 ≤ x
    · exact h
    · exact absurd (by unfold Sc; omega) s)) k
  refine ⟨d1, a, b, rm, ?_, F, ⟨q3, by decide, ?_, ?_⟩, q4, q5, q6, q7, ⟨?_, ⟨ka0, ka1, by omega, ta1⟩, ⟨kb0, kb1, by omega, tb1⟩⟩, rows, a1, b1, fun load => ?_, fun load => ?_⟩
  · have y3 : ∀ k, e1 3 k = d 3 k := fun k => congrFun (x1 3 (by decide) (by decide)) k
    have y4 : ∀ k, e1 4 k = d 4 k := fun k => congrFun (x1 4 (by decide) (by decide)) k
    have y5 : ∀ k, e2 5 k = d 5 k := fun k => congrFun ((x2 5 (by decide) (by decide)).trans (x1 5 (by decide) (by decide))) k
    simp (disch := first | omega | assumption | decide) only [f_X11_rollSpares, m0, ↓bind_of (t1), t1, y4, m1, ↓bind_of (t2), t2, y5, m2, ↓bind_of (q1), q1, q_isO isG_136.1, q_isO isG_138.1, ↓bindS, ↓z0_0b, ↓z0_1b, ↓z0_2b, ↓z0_3b, ↓z0_4b, ↓z0_5b, ↓z0_6b, ↓z0_7b, ↓z0_8b, ↓z0_9b, ↓z0_10b, ↓z0_11b, ↓z0_12b, ↓z0_13b, ↓z0_14b, ↓z0_15b, ↓z0_16b, ↓z0_17b, ↓z1_0b, ↓z1_1b, ↓z1_2b, ↓z1_3b, ↓z1_4b, ↓z1_5b, ↓z1_6b, ↓z1_7b, ↓z1_8b, ↓z2_0b, ↓z3_0b, ↓z3_1b, ↓z4_0b, ↓z4_1b, ↓z5_0b, ↓z5_1b, ↓z124_0b, ↓SG0b, ↓SG1b, ↓SG2b, ↓SG3b, ↓SG4b, ↓SG5b, ↓SG6b, ↓SG7b, ↓SG8b, ↓SG9b, ↓SG10b, ↓SG11b, ↓SG12b, ↓SS0b, ↓SS1b, ↓SS2b, ↓SS3b, ↓SS4b, ↓SS5b, ↓SS6b, ↓SS7b, ↓SS8b, ↓SS9b, ↓SS10b, ↓SS11b, ↓z30_0b, ↓z30_1b, ↓z30_2b, ↓z30_3b, ↓z30_4b, ↓z30_5b, ↓z30_6b, ↓z30_7b, ↓z30_8b, ↓z59_0b, ↓z59_1b, ↓z59_2b, ↓z59_3b, ↓z59_4b, ↓z62_0b, ↓z62_1b, ↓z62_2b, ↓z62_3b, ↓z62_4b, ↓z63_0b, ↓z76_0b, ↓z76_1b, ↓z125_0b, ↓z125_1b, ↓z125_2b, ↓z125_3b, ↓z125_4b, ↓z125_5b, ↓z125_6b, ↓z125_7b, ↓z125_8b, ↓z125_9b, ↓z125_10b, ↓z125_11b, ↓z125_12b, ↓z125_13b, ↓z128_0b, ↓z128_1b, ↓z128_2b, ↓z128_3b, ↓z128_4b, ↓z128_5b, ↓z128_6b, ↓z128_7b, ↓z128_8b, ↓z128_9b, ↓z130_0b, ↓z130_1b, ↓z131_0b, ↓z131_1b, ↓z131_2b, ↓z131_3b, ↓z131_4b, ↓z131_5b, ↓z131_6b, ↓z131_7b, ↓z131_8b, ↓z140_0b, ↓z140_1b, ↓z140_2b, ↓z140_3b, ↓z140_4b, ↓z140_5b, ↓z140_6b, ↓z140_7b, ↓z145_0b, ↓z145_1b, ↓z146_0b, ↓z146_1b, ↓z146_2b, ↓z146_3b, ↓z146_4b, ↓z146_5b, ↓z146_6b, ↓z146_7b, ↓z146_8b, ↓z146_9b, ↓z146_10b, ↓z146_11b, ↓z146_12b, ↓z146_13b, ↓z146_14b, z0_0, z0_1, z0_2, z0_3, z0_4, z0_5, z0_6, z0_7, z0_8, z0_9, z0_10, z0_11, z0_12, z0_13, z0_14, z0_15, z0_16, z0_17, z1_0, z1_1, z1_2, z1_3, z1_4, z1_5, z1_6, z1_7, z1_8, z2_0, z3_0, z3_1, z4_0, z4_1, z5_0, z5_1, z124_0, SG0, SG1, SG2, SG3, SG4, SG5, SG6, SG7, SG8, SG9, SG10, SG11, SG12, SS0, SS1, SS2, SS3, SS4, SS5, SS6, SS7, SS8, SS9, SS10, SS11, z30_0, z30_1, z30_2, z30_3, z30_4, z30_5, z30_6, z30_7, z30_8, z59_0, z59_1, z59_2, z59_3, z59_4, z62_0, z62_1, z62_2, z62_3, z62_4, z63_0, z76_0, z76_1, z125_0, z125_1, z125_2, z125_3, z125_4, z125_5, z125_6, z125_7, z125_8, z125_9, z125_10, z125_11, z125_12, z125_13, z128_0, z128_1, z128_2, z128_3, z128_4, z128_5, z128_6, z128_7, z128_8, z128_9, z130_0, z130_1, z131_0, z131_1, z131_2, z131_3, z131_4, z131_5, z131_6, z131_7, z131_8, z140_0, z140_1, z140_2, z140_3, z140_4, z140_5, z140_6, z140_7, z145_0, z145_1, z146_0, z146_1, z146_2, z146_3, z146_4, z146_5, z146_6, z146_7, z146_8, z146_9, z146_10, z146_11, z146_12, z146_13, z146_14, SN0, SN1, SN2, SN3, SN4, SN5, SN6, SN7, SN8, SN9, SN10, SN11, SN12, SN13, SN14, SN15, SN16, SN17, SN18, SJ0, SJ1, SJ2, SJ3, SJ4, SJ5, bindS, if_pos, if_neg, w_isWithin, w_isIn, JB_0, JB_1, bz_B, ite10, ite01, Int.natCast_add, csN0, csN1, csN16, Int.toNat_natCast, ite_not, not_true_eq_false, not_false_eq_true]
  · unfold GF
    rw [f136 1 (by decide) (by decide), f136 2 (by decide) (by decide), ga1, ga2]
    exact ⟨ka0, ka1, by omega, ta1⟩
  · unfold GF
    rw [f138 1 (by decide) (by decide), f138 2 (by decide) (by decide), gb1, gb2]
    exact ⟨kb0, kb1, by omega, tb1⟩
  · exact M
  · unfold laS maS
    rw [f136 1 (by decide) (by decide), f136 2 (by decide) (by decide), ga1, ga2]
  · unfold laS maS
    rw [f138 1 (by decide) (by decide), f138 2 (by decide) (by decide), gb1, gb2]
/-- the reference after saves, rounds and back: as it was -/
theorem back_eq {d' d0 : Mem} {a b : Int} (a0 : 0 ≤ a) (a1 : a < 12) (b0 : 0 ≤ b) (b1 : b < 12) (hs : ∀ k, 0 ≤ k → k < 228 → d' 187 k = d0 185 k) (h : ∀ k, ¬ RGN a b k → d' 185 k = d0 185 k) : ∀ k, fl d' 185 0 228 (d' 187) 185 k = d0 185 k := fun k => by
  by_cases c : 0 ≤ k ∧ k < 228
  · rw [fl_in c.1 (by omega), hs k c.1 c.2]
  · rw [fl_out (by omega)]
    exact h k (by unfold RGN; omega)
theorem MR_row {d' : Mem} {m a b rm : Int} (h : d' 185 = d 185) (M : MR d m a b rm) : MR d' m a b rm ∧ vw d' 185 a = vw d 185 a ∧ vw d' 185 b = vw d 185 b ∧ (∀ l, maS d' a l = maS d a l) ∧ ∀ l, maS d' b l = maS d b l := by
  have va : vw d' 185 a = vw d 185 a := vw_row h
  have vb : vw d' 185 b = vw d 185 b := vw_row h
  refine ⟨?_, va, vb, fun l => by unfold maS; rw [h], fun l => by unfold maS; rw [h]⟩
  unfold MR MS MG mm at *
  rw [h, va, vb]
  exact M
theorem m_isMeshR {d' : Mem} (h : d' 185 = d 185) (P : PL d 1 3 4 5 185) {z : Int} (z1 : -2147483648 ≤ z) (z2 : z < 2147483648) : f_X12_isMesh (mkH d') 183 (J z) = some (J (B (0 ≤ z ∧ z ≤ d 185 1741 - 1))) := by
  obtain ⟨p1, p2, p3, p4, p5, p6, -, -⟩ := P
  have x : d' 185 1741 = d 185 1741 := by rw [h]
  simp (disch := first | omega | assumption | decide) only [f_X12_isMesh, x, z183_0, z183_1, z183_2, z183_3, z183_4, z183_5, z183_6, z183_7, z183_8, z183_9, z183_10, z183_11, z183_12, z183_13, z183_14, z183_15, z183_16, z183_17, z183_18, z183_19, z183_20, z183_21, z183_22, z183_23, z183_24, z183_25, z183_26, z183_27, z183_28, z183_29, z183_30, z183_31, z183_32, z183_33, z183_34, z183_35, z183_36, z183_37, z183_38, z183_39, z183_40, z183_41, z183_42, z184_0, z184_1, z185_0, z185_1, z186_0, z186_1, z187_0, z187_1, z188_0, z188_1, z189_0, z189_1, z190_0, z190_1, z191_0, z191_1, z192_0, z192_1, z193_0, z193_1, z194_0, z194_1, z195_0, z195_1, z196_0, z196_1, z197_0, z197_1, z198_0, z198_1, z198_2, z199_0, z199_1, z200_0, z200_1, z201_0, z201_1, z202_0, z202_1, SN0, SN1, SN2, SN3, SN4, SN5, SN6, SN7, SN8, SN9, SN10, SN11, SN12, SN13, SN14, SN15, SN16, SN17, SN18, SJ0, SJ1, SJ2, SJ3, SJ4, SJ5, bindS, if_pos, if_neg, w_isWithin, w_isIn, JB_0, JB_1, bz_B, ite10, ite01, Int.natCast_add, csN0, csN1, csN16, Int.toNat_natCast, ite_not, not_true_eq_false, not_false_eq_true]
end
