section
variable {d : Mem}
def optI (o : Option Nat) (f : Nat → Int) (x : Int) : Int := match o with
  | some i => f i
  | none => x
theorem ag_until (I : INV d) (x y u : Int32) : ∃ r d1 d2, f_X11_until (mkH d) 0 x y u = some (r, mkH d1) ∧ f_X12_until (mkH d1) 183 x y u = some (r, mkH d2) ∧ INV d2 := by
  obtain ⟨z, z1, z2, rfl⟩ := J_of x
  obtain ⟨l, l1, l2, rfl⟩ := J_of y
  obtain ⟨v, v1, v2, rfl⟩ := J_of u
  have n1 : ¬ (J 1 = 0) := by decide
  have e1 := c_isMesh I.1 z1 z2
  have e2 := m_isMesh I.1 z1 z2
  have e5 := c_isWearLoad l1 l2
  have e6 : f_X12_isIn (J l).toInt64 (K 1) (K 999) = some (J (B (1 ≤ l ∧ l ≤ 999))) := by simp (disch := first | omega | assumption | decide) only [SN0, SN1, SN2, SN3, SN4, SN5, SN6, SN7, SN8, SN9, SN10, SN11, SN12, SN13, SN14, SN15, SN16, SN17, SN18, SJ0, SJ1, SJ2, SJ3, SJ4, SJ5, bindS, if_pos, if_neg, w_isWithin, w_isIn, JB_0, JB_1, bz_B, ite10, ite01, Int.natCast_add, csN0, csN1, csN16, Int.toNat_natCast, ite_not, not_true_eq_false, not_false_eq_true]
  have e7 := w_isWithin v1 v2 (l := 1) (u := 62) (by decide) (by decide) (by decide) (by decide)
  have e8 : f_X12_isIn (J v).toInt64 (K 1) (K 62) = some (J (B (1 ≤ v ∧ v ≤ 62))) := by simp (disch := first | omega | assumption | decide) only [SN0, SN1, SN2, SN3, SN4, SN5, SN6, SN7, SN8, SN9, SN10, SN11, SN12, SN13, SN14, SN15, SN16, SN17, SN18, SJ0, SJ1, SJ2, SJ3, SJ4, SJ5, bindS, if_pos, if_neg, w_isWithin, w_isIn, JB_0, JB_1, bz_B, ite10, ite01, Int.natCast_add, csN0, csN1, csN16, Int.toNat_natCast, ite_not, not_true_eq_false, not_false_eq_true]
  by_cases c : 0 ≤ z ∧ z ≤ d 185 1741 - 1
  · rw [B_t c] at e1 e2
    by_cases c3 : 1 ≤ l ∧ l ≤ 999
    · rw [B_t c3] at e5 e6
      by_cases c5 : 1 ≤ v ∧ v ≤ 62
      · rw [B_t c5] at e7 e8
        obtain ⟨c1, c2⟩ := c
        obtain ⟨c3, c4⟩ := c3
        obtain ⟨c5, c6⟩ := c5
        obtain ⟨d1, a, b, rm, q, F, C1, wa, wb, er, Ms, MM, rows, a1, b1, hla, hlb⟩ := spares_go I c1 (by omega)
        obtain ⟨m0, m1, -, -, -, a0, a2, b0, b2, nab, r0, r1, ok, ok'⟩ := id MM.1
        generalize hS : rnS (maS d a l) (maS d b l) (vw d 185 a, vw d 185 b) = S
        have hS0 : S 0 = (vw d 185 a, vw d 185 b) := by rw [← hS]; rfl
        have hS1 : ∀ i, S (i + 1) = wrS (maS d a l) (maS d b l) (S i) 16 := fun i => by rw [← hS]; rfl
        have hSo : ∀ i, Wok (S i).1 ∧ Wok (S i).2 := fun i => by rw [← hS]; exact rnS_ok ok ok' i
        obtain ⟨N, hN⟩ : ∃ N : Nat, N = 200 := ⟨_, rfl⟩
        generalize hc : (fun i => decide (v ≤ evenS (S (i + 1)).1 (S (i + 1)).2 rm)) = C
        have hC : ∀ i, C i = decide (v ≤ evenS (S (i + 1)).1 (S (i + 1)).2 rm) := fun i => by rw [← hc]
        have er2 : ∀ wA wB, Wok wA → Wok wB → 0 ≤ evenS wA wB rm ∧ evenS wA wB rm ≤ 124 := fun wA wB o1 o2 => by
          have h1 := mx_rng (fun n => off_rng o1 o2 ⟨r0, r1⟩ n) 15
          have h2 := mn_rng (fun n => off_rng o1 o2 ⟨r0, r1⟩ n) 15
          have h3 : ∀ n : Nat, mnS (offS wA wB rm) n ≤ mxS (offS wA wB rm) n := fun n => by
            induction n with
            | zero => exact Int.le_refl _
            | succ n ih =>
              unfold mnS mxS
              split <;> split <;> omega
          have h4 := h3 15
          unfold evenS gapS
          omega
        have stepC : ∀ (i : Nat) (d' : Mem), i < N → CR d' 136 138 → (cw d' 136, cw d' 138) = S i → (∀ l, laS d' 136 l = maS d a l) → (∀ l, laS d' 138 l = maS d b l) → d' 140 2 = rm → ∃ d'', f_X5_wearRound (mkH d') 140 (J l) = some (mkH d'') ∧ ∃ d3, f_X5_measure (mkH d'') 140 = some (mkH d3) ∧ f_X5_spread (mkH d3) 140 = some (J (evenS (S (i + 1)).1 (S (i + 1)).2 rm)) ∧ CR d3 136 138 ∧ (cw d3 136, cw d3 138) = S (i + 1) ∧ (∀ l, laS d3 136 l = maS d a l) ∧ (∀ l, laS d3 138 l = maS d b l) ∧ d3 140 2 = rm ∧ ∀ x, x < 136 ∨ 146 ≤ x → d3 x = d' x := by
          intro i d' hi h1 h2 h3 h4 h5
          obtain ⟨d'', g1, g2, g3, g4, g5, g6, g7⟩ := c_round h1 c3 c4
          have k := c_measure g4.1
          have gS : (cw d'' 136, cw d'' 138) = S (i + 1) := by rw [g3, h3, h4, h2, hS1]
          have gA' : cw d'' 136 = (S (i + 1)).1 := congrArg Prod.fst gS
          have gB' : cw d'' 138 = (S (i + 1)).2 := congrArg Prod.snd gS
          have g140 : d'' 140 2 = rm := by rw [g7]; exact h5
          rw [gA', gB', g140] at k
          refine ⟨d'', g1, _, k, ?_⟩
          generalize hd3 : fl d'' 145 0 16 (offS (S (i + 1)).1 (S (i + 1)).2 rm) = d3
          have r3 : ∀ x, x ≠ 145 → d3 x = d'' x := fun x h => by rw [← hd3, fl_row h]
          have M3 : Msd d3 (offS (S (i + 1)).1 (S (i + 1)).2 rm) := ⟨fun t t0 t1 => by rw [← hd3]; exact fl_in (by omega) (by omega), fun n => off_rng (hSo _).1 (hSo _).2 ⟨r0, r1⟩ n⟩
          have w1 : cw d3 136 = (S (i + 1)).1 := by rw [cw_row (r3 137 (by decide)), gA']
          have w2 : cw d3 138 = (S (i + 1)).2 := by rw [cw_row (r3 139 (by decide)), gB']
          obtain ⟨C3, f1, f2, f3⟩ := CR_row (d' := d3) g4 (fun x n0 _ _ => r3 x n0) (by rw [w1]; exact (hSo _).1) (by rw [w2]; exact (hSo _).2)
          refine ⟨c_spread M3, C3, by rw [w1, w2], fun l => ?_, fun l => ?_, by rw [f3]; exact g140, fun x h => ?_⟩
          · rw [← h3 l]
            unfold laS
            rw [f1, g5]
          · rw [← h4 l]
            unfold laS
            rw [f2, g6]
          · rw [r3 x (by omega), g2 x (by omega) (by omega)]
        have L1 : ∃ e, iter (b_X11_until_35 0 (J l) (J v)) FU (J 1, mkH d1) = some e ∧ ∃ d' : Mem, (∀ x, x < 136 ∨ 146 ≤ x → d' x = d x) ∧ e = (match srch C N with
            | some t => .inr (J ((t : Int) + 1), mkH d')
            | none => .inl (mkH d')) := by
          refine iter_srE (fun i s => ∃ d' : Mem, s = (J ((i : Int) + 1), mkH d') ∧ (∀ x, x < 136 ∨ 146 ≤ x → d' x = d x) ∧ CR d' 136 138 ∧ (cw d' 136, cw d' 138) = S i ∧ (∀ l, laS d' 136 l = maS d a l) ∧ (∀ l, laS d' 138 l = maS d b l) ∧ d' 140 2 = rm) C N (fun (o : Option Nat) (e : Hp ⊕ (Int32 × Hp)) => ∃ d' : Mem, (∀ x, x < 136 ∨ 146 ≤ x → d' x = d x) ∧ e = (match o with
            | some t => .inr (J ((t : Int) + 1), mkH d')
            | none => .inl (mkH d'))) (by omega) ⟨d1, rfl, rows, C1, by rw [wa, wb, hS0], hla, hlb, er⟩ ?_ ?_ ?_
          · rintro i s hi ⟨d', rfl, h0, h1, h2, h3, h4, h5⟩ hct
            obtain ⟨d'', g1, d3, g2, g3, g4, g5, g6, g7, g8, g9⟩ := stepC i d' hi h1 h2 h3 h4 h5
            rw [hC] at hct
            have hct := of_decide_eq_false hct
            have hev := er2 _ _ (hSo (i + 1)).1 (hSo (i + 1)).2
            generalize evenS (S (i + 1)).1 (S (i + 1)).2 rm = E at *
            refine ⟨(J (((i + 1 : Nat) : Int) + 1), mkH d3), ?_, d3, rfl, fun x h => (g9 x h).trans (h0 x h), g4, g5, g6, g7, g8⟩
            simp (disch := first | omega | assumption | decide) only [b_X11_until_35, ↓bind_of (g1), g1, ↓bind_of (g2), g2, ↓bind_of (g3), g3, ↓bindS, ↓z0_0b, ↓z0_1b, ↓z0_2b, ↓z0_3b, ↓z0_4b, ↓z0_5b, ↓z0_6b, ↓z0_7b, ↓z0_8b, ↓z0_9b, ↓z0_10b, ↓z0_11b, ↓z0_12b, ↓z0_13b, ↓z0_14b, ↓z0_15b, ↓z0_16b, ↓z0_17b, ↓z1_0b, ↓z1_1b, ↓z1_2b, ↓z1_3b, ↓z1_4b, ↓z1_5b, ↓z1_6b, ↓z1_7b, ↓z1_8b, ↓z2_0b, ↓z3_0b, ↓z3_1b, ↓z4_0b, ↓z4_1b, ↓z5_0b, ↓z5_1b, ↓z124_0b, ↓SG0b, ↓SG1b, ↓SG2b, ↓SG3b, ↓SG4b, ↓SG5b, ↓SG6b, ↓SG7b, ↓SG8b, ↓SG9b, ↓SG10b, ↓SG11b, ↓SG12b, ↓SS0b, ↓SS1b, ↓SS2b, ↓SS3b, ↓SS4b, ↓SS5b, ↓SS6b, ↓SS7b, ↓SS8b, ↓SS9b, ↓SS10b, ↓SS11b, ↓z30_0b, ↓z30_1b, ↓z30_2b, ↓z30_3b, ↓z30_4b, ↓z30_5b, ↓z30_6b, ↓z30_7b, ↓z30_8b, ↓z59_0b, ↓z59_1b, ↓z59_2b, ↓z59_3b, ↓z59_4b, ↓z62_0b, ↓z62_1b, ↓z62_2b, ↓z62_3b, ↓z62_4b, ↓z63_0b, ↓z76_0b, ↓z76_1b, ↓z125_0b, ↓z125_1b, ↓z125_2b, ↓z125_3b, ↓z125_4b, ↓z125_5b, ↓z125_6b, ↓z125_7b, ↓z125_8b, ↓z125_9b, ↓z125_10b, ↓z125_11b, ↓z125_12b, ↓z125_13b, ↓z128_0b, ↓z128_1b, ↓z128_2b, ↓z128_3b, ↓z128_4b, ↓z128_5b, ↓z128_6b, ↓z128_7b, ↓z128_8b, ↓z128_9b, ↓z130_0b, ↓z130_1b, ↓z131_0b, ↓z131_1b, ↓z131_2b, ↓z131_3b, ↓z131_4b, ↓z131_5b, ↓z131_6b, ↓z131_7b, ↓z131_8b, ↓z140_0b, ↓z140_1b, ↓z140_2b, ↓z140_3b, ↓z140_4b, ↓z140_5b, ↓z140_6b, ↓z140_7b, ↓z145_0b, ↓z145_1b, ↓z146_0b, ↓z146_1b, ↓z146_2b, ↓z146_3b, ↓z146_4b, ↓z146_5b, ↓z146_6b, ↓z146_7b, ↓z146_8b, ↓z146_9b, ↓z146_10b, ↓z146_11b, ↓z146_12b, ↓z146_13b, ↓z146_14b, z0_0, z0_1, z0_2, z0_3, z0_4, z0_5, z0_6, z0_7, z0_8, z0_9, z0_10, z0_11, z0_12, z0_13, z0_14, z0_15, z0_16, z0_17, z1_0, z1_1, z1_2, z1_3, z1_4, z1_5, z1_6, z1_7, z1_8, z2_0, z3_0, z3_1, z4_0, z4_1, z5_0, z5_1, z124_0, SG0, SG1, SG2, SG3, SG4, SG5, SG6, SG7, SG8, SG9, SG10, SG11, SG12, SS0, SS1, SS2, SS3, SS4, SS5, SS6, SS7, SS8, SS9, SS10, SS11, z30_0, z30_1, z30_2, z30_3, z30_4, z30_5, z30_6, z30_7, z30_8, z59_0, z59_1, z59_2, z59_3, z59_4, z62_0, z62_1, z62_2, z62_3, z62_4, z63_0, z76_0, z76_1, z125_0, z125_1, z125_2, z125_3, z125_4, z125_5, z125_6, z125_7, z125_8, z125_9, z125_10, z125_11, z125_12, z125_13, z128_0, z128_1, z128_2, z128_3, z128_4, z128_5, z128_6, z128_7, z128_8, z128_9, z130_0, z130_1, z131_0, z131_1, z131_2, z131_3, z131_4, z131_5, z131_6, z131_7, z131_8, z140_0, z140_1, z140_2, z140_3, z140_4, z140_5, z140_6, z140_7, z145_0, z145_1, z146_0, z146_1, z146_2, z146_3, z146_4, z146_5, z146_6, z146_7, z146_8, z146_9, z146_10, z146_11, z146_12, z146_13, z146_14, SN0, SN1, SN2, SN3, SN4, SN5, SN6, SN7, SN8, SN9, SN10, SN11, SN12, SN13, SN14, SN15, SN16, SN17, SN18, SJ0, SJ1, SJ2, SJ3, SJ4, SJ5, bindS, if_pos, if_neg, w_isWithin, w_isIn, JB_0, JB_1, bz_B, ite10, ite01, Int.natCast_add, csN0, csN1, csN16, Int.toNat_natCast, ite_not, not_true_eq_false, not_false_eq_true]
          · rintro i s hi ⟨d', rfl, h0, h1, h2, h3, h4, h5⟩ hct
            obtain ⟨d'', g1, d3, g2, g3, g4, g5, g6, g7, g8, g9⟩ := stepC i d' hi h1 h2 h3 h4 h5
            rw [hC] at hct
            have hct := of_decide_eq_true hct
            have hev := er2 _ _ (hSo (i + 1)).1 (hSo (i + 1)).2
            generalize evenS (S (i + 1)).1 (S (i + 1)).2 rm = E at *
            refine ⟨.inr (J ((i : Int) + 1), mkH d3), ?_, d3, fun x h => (g9 x h).trans (h0 x h), rfl⟩
            simp (disch := first | omega | assumption | decide) only [b_X11_until_35, ↓bind_of (g1), g1, ↓bind_of (g2), g2, ↓bind_of (g3), g3, ↓bindS, ↓z0_0b, ↓z0_1b, ↓z0_2b, ↓z0_3b, ↓z0_4b, ↓z0_5b, ↓z0_6b, ↓z0_7b, ↓z0_8b, ↓z0_9b, ↓z0_10b, ↓z0_11b, ↓z0_12b, ↓z0_13b, ↓z0_14b, ↓z0_15b, ↓z0_16b, ↓z0_17b, ↓z1_0b, ↓z1_1b, ↓z1_2b, ↓z1_3b, ↓z1_4b, ↓z1_5b, ↓z1_6b, ↓z1_7b, ↓z1_8b, ↓z2_0b, ↓z3_0b, ↓z3_1b, ↓z4_0b, ↓z4_1b, ↓z5_0b, ↓z5_1b, ↓z124_0b, ↓SG0b, ↓SG1b, ↓SG2b, ↓SG3b, ↓SG4b, ↓SG5b, ↓SG6b, ↓SG7b, ↓SG8b, ↓SG9b, ↓SG10b, ↓SG11b, ↓SG12b, ↓SS0b, ↓SS1b, ↓SS2b, ↓SS3b, ↓SS4b, ↓SS5b, ↓SS6b, ↓SS7b, ↓SS8b, ↓SS9b, ↓SS10b, ↓SS11b, ↓z30_0b, ↓z30_1b, ↓z30_2b, ↓z30_3b, ↓z30_4b, ↓z30_5b, ↓z30_6b, ↓z30_7b, ↓z30_8b, ↓z59_0b, ↓z59_1b, ↓z59_2b, ↓z59_3b, ↓z59_4b, ↓z62_0b, ↓z62_1b, ↓z62_2b, ↓z62_3b, ↓z62_4b, ↓z63_0b, ↓z76_0b, ↓z76_1b, ↓z125_0b, ↓z125_1b, ↓z125_2b, ↓z125_3b, ↓z125_4b, ↓z125_5b, ↓z125_6b, ↓z125_7b, ↓z125_8b, ↓z125_9b, ↓z125_10b, ↓z125_11b, ↓z125_12b, ↓z125_13b, ↓z128_0b, ↓z128_1b, ↓z128_2b, ↓z128_3b, ↓z128_4b, ↓z128_5b, ↓z128_6b, ↓z128_7b, ↓z128_8b, ↓z128_9b, ↓z130_0b, ↓z130_1b, ↓z131_0b, ↓z131_1b, ↓z131_2b, ↓z131_3b, ↓z131_4b, ↓z131_5b, ↓z131_6b, ↓z131_7b, ↓z131_8b, ↓z140_0b, ↓z140_1b, ↓z140_2b, ↓z140_3b, ↓z140_4b, ↓z140_5b, ↓z140_6b, ↓z140_7b, ↓z145_0b, ↓z145_1b, ↓z146_0b, ↓z146_1b, ↓z146_2b, ↓z146_3b, ↓z146_4b, ↓z146_5b, ↓z146_6b, ↓z146_7b, ↓z146_8b, ↓z146_9b, ↓z146_10b, ↓z146_11b, ↓z146_12b, ↓z146_13b, ↓z146_14b, z0_0, z0_1, z0_2, z0_3, z0_4, z0_5, z0_6, z0_7, z0_8, z0_9, z0_10, z0_11, z0_12, z0_13, z0_14, z0_15, z0_16, z0_17, z1_0, z1_1, z1_2, z1_3, z1_4, z1_5, z1_6, z1_7, z1_8, z2_0, z3_0, z3_1, z4_0, z4_1, z5_0, z5_1, z124_0, SG0, SG1, SG2, SG3, SG4, SG5, SG6, SG7, SG8, SG9, SG10, SG11, SG12, SS0, SS1, SS2, SS3, SS4, SS5, SS6, SS7, SS8, SS9, SS10, SS11, z30_0, z30_1, z30_2, z30_3, z30_4, z30_5, z30_6, z30_7, z30_8, z59_0, z59_1, z59_2, z59_3, z59_4, z62_0, z62_1, z62_2, z62_3, z62_4, z63_0, z76_0, z76_1, z125_0, z125_1, z125_2, z125_3, z125_4, z125_5, z125_6, z125_7, z125_8, z125_9, z125_10, z125_11, z125_12, z125_13, z128_0, z128_1, z128_2, z128_3, z128_4, z128_5, z128_6, z128_7, z128_8, z128_9, z130_0, z130_1, z131_0, z131_1, z131_2, z131_3, z131_4, z131_5, z131_6, z131_7, z131_8, z140_0, z140_1, z140_2, z140_3, z140_4, z140_5, z140_6, z140_7, z145_0, z145_1, z146_0, z146_1, z146_2, z146_3, z146_4, z146_5, z146_6, z146_7, z146_8, z146_9, z146_10, z146_11, z146_12, z146_13, z146_14, SN0, SN1, SN2, SN3, SN4, SN5, SN6, SN7, SN8, SN9, SN10, SN11, SN12, SN13, SN14, SN15, SN16, SN17, SN18, SJ0, SJ1, SJ2, SJ3, SJ4, SJ5, bindS, if_pos, if_neg, w_isWithin, w_isIn, JB_0, JB_1, bz_B, ite10, ite01, Int.natCast_add, csN0, csN1, csN16, Int.toNat_natCast, ite_not, not_true_eq_false, not_false_eq_true]
          · rintro s ⟨d', rfl, h0, -⟩
            exact ⟨_, by simp (disch := first | omega | assumption | decide) only [b_X11_until_35, z0_0, z0_1, z0_2, z0_3, z0_4, z0_5, z0_6, z0_7, z0_8, z0_9, z0_10, z0_11, z0_12, z0_13, z0_14, z0_15, z0_16, z0_17, z1_0, z1_1, z1_2, z1_3, z1_4, z1_5, z1_6, z1_7, z1_8, z2_0, z3_0, z3_1, z4_0, z4_1, z5_0, z5_1, z124_0, SG0, SG1, SG2, SG3, SG4, SG5, SG6, SG7, SG8, SG9, SG10, SG11, SG12, SS0, SS1, SS2, SS3, SS4, SS5, SS6, SS7, SS8, SS9, SS10, SS11, z30_0, z30_1, z30_2, z30_3, z30_4, z30_5, z30_6, z30_7, z30_8, z59_0, z59_1, z59_2, z59_3, z59_4, z62_0, z62_1, z62_2, z62_3, z62_4, z63_0, z76_0, z76_1, z125_0, z125_1, z125_2, z125_3, z125_4, z125_5, z125_6, z125_7, z125_8, z125_9, z125_10, z125_11, z125_12, z125_13, z128_0, z128_1, z128_2, z128_3, z128_4, z128_5, z128_6, z128_7, z128_8, z128_9, z130_0, z130_1, z131_0, z131_1, z131_2, z131_3, z131_4, z131_5, z131_6, z131_7, z131_8, z140_0, z140_1, z140_2, z140_3, z140_4, z140_5, z140_6, z140_7, z145_0, z145_1, z146_0, z146_1, z146_2, z146_3, z146_4, z146_5, z146_6, z146_7, z146_8, z146_9, z146_10, z146_11, z146_12, z146_13, z146_14, SN0, SN1, SN2, SN3, SN4, SN5, SN6, SN7, SN8, SN9, SN10, SN11, SN12, SN13, SN14, SN15, SN16, SN17, SN18, SJ0, SJ1, SJ2, SJ3, SJ4, SJ5, bindS, if_pos, if_neg, w_isWithin, w_isIn, JB_0, JB_1, bz_B, ite10, ite01, Int.natCast_add, csN0, csN1, csN16, Int.toNat_natCast, ite_not, not_true_eq_false, not_false_eq_true], d', h0, rfl⟩
        obtain ⟨e, L2, D, h0, he⟩ := L1
        have e185 : D 185 = d 185 := h0 185 (by decide)
        have e4 := m_isMeshR (d' := D) e185 I.1 z1 z2
        rw [B_t ⟨c1, c2⟩] at e4
        have sv := m_saves (d := D)
        obtain ⟨D1, hD1⟩ : ∃ D1, D1 = fl D 187 0 228 (D 185) := ⟨_, rfl⟩
        rw [← hD1] at sv
        have f185 : D1 185 = d 185 := by rw [hD1, fl_row (by decide)]; exact e185
        have f187 : ∀ k, 0 ≤ k → k < 228 → D1 187 k = d 185 k := fun k k0 k1 => by rw [hD1, fl_in k0 (by omega), e185]
        obtain ⟨MR1, va, vb, ma, mb⟩ := MR_row f185 MM
        have M1 : ∃ e, iter (b_X12_until_45 183 (J z) (J l) (J v)) FU (J (-4), J 1, mkH D1) = some e ∧ ∃ d' : Mem, (∀ x k, ¬ (x = 185 ∧ RGN a b k) → d' x k = D1 x k) ∧ e = (J (optI (srch C N) (fun t => (t : Int) + 1) (-4)), mkH d') := by
          refine iter_late (fun i s => ∃ d' : Mem, s = (J (-4), J ((i : Int) + 1), mkH d') ∧ (∀ x k, ¬ (x = 185 ∧ RGN a b k) → d' x k = D1 x k) ∧ (vw d' 185 a, vw d' 185 b) = S i ∧ MR d' z a b rm ∧ maS d' a l = maS d a l ∧ maS d' b l = maS d b l) (fun i s => ∃ d' : Mem, s = (J ((i : Int) + 1), J ((i : Int) + 1 + 1), mkH d') ∧ (∀ x k, ¬ (x = 185 ∧ RGN a b k) → d' x k = D1 x k)) C N (fun (o : Option Nat) (e : Int32 × Hp) => ∃ d' : Mem, (∀ x k, ¬ (x = 185 ∧ RGN a b k) → d' x k = D1 x k) ∧ e = (J (optI o (fun t => (t : Int) + 1) (-4)), mkH d')) (by omega) ⟨D1, rfl, fun _ _ _ => rfl, by rw [va, vb, hS0], MR1, ma l, mb l⟩ ?_ ?_ ?_ ?_
          · rintro i s hi ⟨d', rfl, h1, h2, h3, h4, h5⟩ hct
            obtain ⟨d'', g1, g2, g3, g4, g5, g6⟩ := m_round h3 c3 c4
            have gS : (vw d'' 185 a, vw d'' 185 b) = S (i + 1) := by rw [g3, h4, h5, h2, hS1]
            have k := m_evenOf g4.1
            rw [show vw d'' 185 a = (S (i + 1)).1 from congrArg Prod.fst gS, show vw d'' 185 b = (S (i + 1)).2 from congrArg Prod.snd gS] at k
            rw [hC] at hct
            have hct := of_decide_eq_false hct
            have hev := er2 _ _ (hSo (i + 1)).1 (hSo (i + 1)).2
            generalize evenS (S (i + 1)).1 (S (i + 1)).2 rm = E at *
            refine ⟨(J (-4), J (((i + 1 : Nat) : Int) + 1), mkH d''), ?_, d'', rfl, fun x k hk => (g2 x k hk).trans (h1 x k hk), gS, g4, g5.trans h4, g6.trans h5⟩
            simp (disch := first | omega | assumption | decide) only [b_X12_until_45, ↓bind_of (g1), g1, ↓bind_of (k), k, ↓bindS, ↓z183_0b, ↓z183_1b, ↓z183_2b, ↓z183_3b, ↓z183_4b, ↓z183_5b, ↓z183_6b, ↓z183_7b, ↓z183_8b, ↓z183_9b, ↓z183_10b, ↓z183_11b, ↓z183_12b, ↓z183_13b, ↓z183_14b, ↓z183_15b, ↓z183_16b, ↓z183_17b, ↓z183_18b, ↓z183_19b, ↓z183_20b, ↓z183_21b, ↓z183_22b, ↓z183_23b, ↓z183_24b, ↓z183_25b, ↓z183_26b, ↓z183_27b, ↓z183_28b, ↓z183_29b, ↓z183_30b, ↓z183_31b, ↓z183_32b, ↓z183_33b, ↓z183_34b, ↓z183_35b, ↓z183_36b, ↓z183_37b, ↓z183_38b, ↓z183_39b, ↓z183_40b, ↓z183_41b, ↓z183_42b, ↓z184_0b, ↓z184_1b, ↓z185_0b, ↓z185_1b, ↓z186_0b, ↓z186_1b, ↓z187_0b, ↓z187_1b, ↓z188_0b, ↓z188_1b, ↓z189_0b, ↓z189_1b, ↓z190_0b, ↓z190_1b, ↓z191_0b, ↓z191_1b, ↓z192_0b, ↓z192_1b, ↓z193_0b, ↓z193_1b, ↓z194_0b, ↓z194_1b, ↓z195_0b, ↓z195_1b, ↓z196_0b, ↓z196_1b, ↓z197_0b, ↓z197_1b, ↓z198_0b, ↓z198_1b, ↓z198_2b, ↓z199_0b, ↓z199_1b, ↓z200_0b, ↓z200_1b, ↓z201_0b, ↓z201_1b, ↓z202_0b, ↓z202_1b, z183_0, z183_1, z183_2, z183_3, z183_4, z183_5, z183_6, z183_7, z183_8, z183_9, z183_10, z183_11, z183_12, z183_13, z183_14, z183_15, z183_16, z183_17, z183_18, z183_19, z183_20, z183_21, z183_22, z183_23, z183_24, z183_25, z183_26, z183_27, z183_28, z183_29, z183_30, z183_31, z183_32, z183_33, z183_34, z183_35, z183_36, z183_37, z183_38, z183_39, z183_40, z183_41, z183_42, z184_0, z184_1, z185_0, z185_1, z186_0, z186_1, z187_0, z187_1, z188_0, z188_1, z189_0, z189_1, z190_0, z190_1, z191_0, z191_1, z192_0, z192_1, z193_0, z193_1, z194_0, z194_1, z195_0, z195_1, z196_0, z196_1, z197_0, z197_1, z198_0, z198_1, z198_2, z199_0, z199_1, z200_0, z200_1, z201_0, z201_1, z202_0, z202_1, SN0, SN1, SN2, SN3, SN4, SN5, SN6, SN7, SN8, SN9, SN10, SN11, SN12, SN13, SN14, SN15, SN16, SN17, SN18, SJ0, SJ1, SJ2, SJ3, SJ4, SJ5, bindS, if_pos, if_neg, w_isWithin, w_isIn, JB_0, JB_1, bz_B, ite10, ite01, Int.natCast_add, csN0, csN1, csN16, Int.toNat_natCast, ite_not, not_true_eq_false, not_false_eq_true]
          · rintro i s hi ⟨d', rfl, h1, h2, h3, h4, h5⟩ hct
            obtain ⟨d'', g1, g2, g3, g4, g5, g6⟩ := m_round h3 c3 c4
            have gS : (vw d'' 185 a, vw d'' 185 b) = S (i + 1) := by rw [g3, h4, h5, h2, hS1]
            have k := m_evenOf g4.1
            rw [show vw d'' 185 a = (S (i + 1)).1 from congrArg Prod.fst gS, show vw d'' 185 b = (S (i + 1)).2 from congrArg Prod.snd gS] at k
            rw [hC] at hct
            have hct := of_decide_eq_true hct
            have hev := er2 _ _ (hSo (i + 1)).1 (hSo (i + 1)).2
            generalize evenS (S (i + 1)).1 (S (i + 1)).2 rm = E at *
            refine ⟨(J ((i : Int) + 1), J ((i : Int) + 1 + 1), mkH d''), ?_, d'', rfl, fun x k hk => (g2 x k hk).trans (h1 x k hk)⟩
            simp (disch := first | omega | assumption | decide) only [b_X12_until_45, ↓bind_of (g1), g1, ↓bind_of (k), k, ↓bindS, ↓z183_0b, ↓z183_1b, ↓z183_2b, ↓z183_3b, ↓z183_4b, ↓z183_5b, ↓z183_6b, ↓z183_7b, ↓z183_8b, ↓z183_9b, ↓z183_10b, ↓z183_11b, ↓z183_12b, ↓z183_13b, ↓z183_14b, ↓z183_15b, ↓z183_16b, ↓z183_17b, ↓z183_18b, ↓z183_19b, ↓z183_20b, ↓z183_21b, ↓z183_22b, ↓z183_23b, ↓z183_24b, ↓z183_25b, ↓z183_26b, ↓z183_27b, ↓z183_28b, ↓z183_29b, ↓z183_30b, ↓z183_31b, ↓z183_32b, ↓z183_33b, ↓z183_34b, ↓z183_35b, ↓z183_36b, ↓z183_37b, ↓z183_38b, ↓z183_39b, ↓z183_40b, ↓z183_41b, ↓z183_42b, ↓z184_0b, ↓z184_1b, ↓z185_0b, ↓z185_1b, ↓z186_0b, ↓z186_1b, ↓z187_0b, ↓z187_1b, ↓z188_0b, ↓z188_1b, ↓z189_0b, ↓z189_1b, ↓z190_0b, ↓z190_1b, ↓z191_0b, ↓z191_1b, ↓z192_0b, ↓z192_1b, ↓z193_0b, ↓z193_1b, ↓z194_0b, ↓z194_1b, ↓z195_0b, ↓z195_1b, ↓z196_0b, ↓z196_1b, ↓z197_0b, ↓z197_1b, ↓z198_0b, ↓z198_1b, ↓z198_2b, ↓z199_0b, ↓z199_1b, ↓z200_0b, ↓z200_1b, ↓z201_0b, ↓z201_1b, ↓z202_0b, ↓z202_1b, z183_0, z183_1, z183_2, z183_3, z183_4, z183_5, z183_6, z183_7, z183_8, z183_9, z183_10, z183_11, z183_12, z183_13, z183_14, z183_15, z183_16, z183_17, z183_18, z183_19, z183_20, z183_21, z183_22, z183_23, z183_24, z183_25, z183_26, z183_27, z183_28, z183_29, z183_30, z183_31, z183_32, z183_33, z183_34, z183_35, z183_36, z183_37, z183_38, z183_39, z183_40, z183_41, z183_42, z184_0, z184_1, z185_0, z185_1, z186_0, z186_1, z187_0, z187_1, z188_0, z188_1, z189_0, z189_1, z190_0, z190_1, z191_0, z191_1, z192_0, z192_1, z193_0, z193_1, z194_0, z194_1, z195_0, z195_1, z196_0, z196_1, z197_0, z197_1, z198_0, z198_1, z198_2, z199_0, z199_1, z200_0, z200_1, z201_0, z201_1, z202_0, z202_1, SN0, SN1, SN2, SN3, SN4, SN5, SN6, SN7, SN8, SN9, SN10, SN11, SN12, SN13, SN14, SN15, SN16, SN17, SN18, SJ0, SJ1, SJ2, SJ3, SJ4, SJ5, bindS, if_pos, if_neg, w_isWithin, w_isIn, JB_0, JB_1, bz_B, ite10, ite01, Int.natCast_add, csN0, csN1, csN16, Int.toNat_natCast, ite_not, not_true_eq_false, not_false_eq_true]
          · rintro i s hi ⟨d', rfl, h1⟩
            refine ⟨(J ((i : Int) + 1), mkH d'), ?_, d', h1, rfl⟩
            by_cases e200 : (200 : Int) < (i : Int) + 1 + 1
            · simp (disch := first | omega | assumption | decide) only [b_X12_until_45, z183_0, z183_1, z183_2, z183_3, z183_4, z183_5, z183_6, z183_7, z183_8, z183_9, z183_10, z183_11, z183_12, z183_13, z183_14, z183_15, z183_16, z183_17, z183_18, z183_19, z183_20, z183_21, z183_22, z183_23, z183_24, z183_25, z183_26, z183_27, z183_28, z183_29, z183_30, z183_31, z183_32, z183_33, z183_34, z183_35, z183_36, z183_37, z183_38, z183_39, z183_40, z183_41, z183_42, z184_0, z184_1, z185_0, z185_1, z186_0, z186_1, z187_0, z187_1, z188_0, z188_1, z189_0, z189_1, z190_0, z190_1, z191_0, z191_1, z192_0, z192_1, z193_0, z193_1, z194_0, z194_1, z195_0, z195_1, z196_0, z196_1, z197_0, z197_1, z198_0, z198_1, z198_2, z199_0, z199_1, z200_0, z200_1, z201_0, z201_1, z202_0, z202_1, SN0, SN1, SN2, SN3, SN4, SN5, SN6, SN7, SN8, SN9, SN10, SN11, SN12, SN13, SN14, SN15, SN16, SN17, SN18, SJ0, SJ1, SJ2, SJ3, SJ4, SJ5, bindS, if_pos, if_neg, w_isWithin, w_isIn, JB_0, JB_1, bz_B, ite10, ite01, Int.natCast_add, csN0, csN1, csN16, Int.toNat_natCast, ite_not, not_true_eq_false, not_false_eq_true]
            · simp (disch := first | omega | assumption | decide) only [b_X12_until_45, z183_0, z183_1, z183_2, z183_3, z183_4, z183_5, z183_6, z183_7, z183_8, z183_9, z183_10, z183_11, z183_12, z183_13, z183_14, z183_15, z183_16, z183_17, z183_18, z183_19, z183_20, z183_21, z183_22, z183_23, z183_24, z183_25, z183_26, z183_27, z183_28, z183_29, z183_30, z183_31, z183_32, z183_33, z183_34, z183_35, z183_36, z183_37, z183_38, z183_39, z183_40, z183_41, z183_42, z184_0, z184_1, z185_0, z185_1, z186_0, z186_1, z187_0, z187_1, z188_0, z188_1, z189_0, z189_1, z190_0, z190_1, z191_0, z191_1, z192_0, z192_1, z193_0, z193_1, z194_0, z194_1, z195_0, z195_1, z196_0, z196_1, z197_0, z197_1, z198_0, z198_1, z198_2, z199_0, z199_1, z200_0, z200_1, z201_0, z201_1, z202_0, z202_1, SN0, SN1, SN2, SN3, SN4, SN5, SN6, SN7, SN8, SN9, SN10, SN11, SN12, SN13, SN14, SN15, SN16, SN17, SN18, SJ0, SJ1, SJ2, SJ3, SJ4, SJ5, bindS, if_pos, if_neg, w_isWithin, w_isIn, JB_0, JB_1, bz_B, ite10, ite01, Int.natCast_add, csN0, csN1, csN16, Int.toNat_natCast, ite_not, not_true_eq_false, not_false_eq_true]
          · rintro s ⟨d', rfl, h1, -⟩
            exact ⟨(J (-4), mkH d'), by simp (disch := first | omega | assumption | decide) only [b_X12_until_45, z183_0, z183_1, z183_2, z183_3, z183_4, z183_5, z183_6, z183_7, z183_8, z183_9, z183_10, z183_11, z183_12, z183_13, z183_14, z183_15, z183_16, z183_17, z183_18, z183_19, z183_20, z183_21, z183_22, z183_23, z183_24, z183_25, z183_26, z183_27, z183_28, z183_29, z183_30, z183_31, z183_32, z183_33, z183_34, z183_35, z183_36, z183_37, z183_38, z183_39, z183_40, z183_41, z183_42, z184_0, z184_1, z185_0, z185_1, z186_0, z186_1, z187_0, z187_1, z188_0, z188_1, z189_0, z189_1, z190_0, z190_1, z191_0, z191_1, z192_0, z192_1, z193_0, z193_1, z194_0, z194_1, z195_0, z195_1, z196_0, z196_1, z197_0, z197_1, z198_0, z198_1, z198_2, z199_0, z199_1, z200_0, z200_1, z201_0, z201_1, z202_0, z202_1, SN0, SN1, SN2, SN3, SN4, SN5, SN6, SN7, SN8, SN9, SN10, SN11, SN12, SN13, SN14, SN15, SN16, SN17, SN18, SJ0, SJ1, SJ2, SJ3, SJ4, SJ5, bindS, if_pos, if_neg, w_isWithin, w_isIn, JB_0, JB_1, bz_B, ite10, ite01, Int.natCast_add, csN0, csN1, csN16, Int.toNat_natCast, ite_not, not_true_eq_false, not_false_eq_true], d', h1, rfl⟩
        obtain ⟨e', M2, D2, h1, he'⟩ := M1
        subst he'
        have bk := m_back (d := D2)
        have fin : ∀ k, fl D2 185 0 228 (D2 187) 185 k = d 185 k := back_eq a0 a2 b0 b2 (fun k k0 k1 => by rw [h1 187 k (fun e => absurd e.1 (by decide)), f187 k k0 k1]) (fun k hk => by rw [h1 185 k (fun e => hk e.2), f185])
        have I2 : INV (fl D2 185 0 228 (D2 187)) := INV_fr I (fun x k sc => by
          by_cases x185 : x = 185
          · subst x185
            exact fin k
          · rw [fl_na x185, h1 x k (fun e => x185 e.1), hD1, fl_na (fun e => sc (by unfold Sc; omega)), h0 x (by
              by_cases h : x < 136 ∨ 146 ≤ x
              · exact h
              · exact absurd (by unfold Sc; omega) sc)])
        refine ⟨J (optI (srch C N) (fun t => (t : Int) + 1) (-4)), D, _, ?_, ?_, I2⟩
        · refine bind_eq (z0_0 d) (bind_eq e1 ?_)
          rw [if_neg n1]
          refine bind_eq e5 ?_
          rw [if_neg n1]
          refine bind_eq e7 ?_
          rw [if_neg n1]
          refine bind_eq (z0_0 d) (bind_eq q (bind_eq rfl (bind_eq L2 ?_)))
          rw [he]
          cases srch C N with
          | some t => rfl
          | none => rfl
        · refine bind_eq (z183_0 D) (bind_eq e4 ?_)
          rw [if_neg n1]
          refine bind_eq e6 ?_
          rw [if_neg n1]
          refine bind_eq e8 ?_
          rw [if_neg n1]
          exact bind_eq (z183_0 D) (bind_eq sv (bind_eq rfl (bind_eq rfl (bind_eq M2 (bind_eq (z183_0 D2) (bind_eq bk rfl))))))
      · rw [B_f c5] at e7 e8
        refine ⟨J (-1), d, d, ?_, ?_, I⟩
        · refine bind_eq (z0_0 d) (bind_eq e1 ?_)
          rw [if_neg n1]
          refine bind_eq e5 ?_
          rw [if_neg n1]
          exact bind_eq e7 rfl
        · refine bind_eq (z183_0 d) (bind_eq e2 ?_)
          rw [if_neg n1]
          refine bind_eq e6 ?_
          rw [if_neg n1]
          exact bind_eq e8 rfl
    · rw [B_f c3] at e5 e6
      refine ⟨J (-1), d, d, ?_, ?_, I⟩
      · refine bind_eq (z0_0 d) (bind_eq e1 ?_)
        rw [if_neg n1]
        exact bind_eq e5 rfl
      · refine bind_eq (z183_0 d) (bind_eq e2 ?_)
        rw [if_neg n1]
        exact bind_eq e6 rfl
  · rw [B_f c] at e1 e2
    exact ⟨J (-1), d, d, bind_eq (z0_0 d) (bind_eq e1 rfl), bind_eq (z183_0 d) (bind_eq e2 rfl), I⟩
end
