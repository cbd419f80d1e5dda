/-! rounds of wear, again and again; wear, until, room, pair, clear -/
def CR (d : Mem) (ga gb : Nat) : Prop := RLg d ga gb ∧ ga ≠ gb ∧ GF d ga ∧ GF d gb
def laS (d : Mem) (g : Nat) (load : Int) : Bool := decide (hardS (d g 1) (d g 2) < load / 10)
def maS (d : Mem) (i load : Int) : Bool := decide (hardS (d 185 (19 * i)) (d 185 (19 * i + 1)) < load / 10)
theorem CR_row {d d' : Mem} {ga gb : Nat} (C : CR d ga gb) (h : ∀ x, x ≠ 145 → x ≠ ga + 1 → x ≠ gb + 1 → d' x = d x) (w1 : Wok (cw d' ga)) (w2 : Wok (cw d' gb)) : CR d' ga gb ∧ d' ga = d ga ∧ d' gb = d gb ∧ d' 140 = d 140 := by
  obtain ⟨⟨r0, r1, hg, hg', ok, ok', r2, r3⟩, hn, fa, fb⟩ := C
  have n145 : ∀ {g : Nat}, isG g → g ≠ 145 := by
    intro g h e
    rw [e] at h
    exact absurd h.1 (by decide)
  have e140 : d' 140 = d 140 := h 140 (by decide) (isG_obj hg rfl) (isG_obj hg' rfl)
  have ea : d' ga = d ga := h ga (n145 hg) (isG_ne hg hg) (isG_ne hg hg')
  have eb : d' gb = d gb := h gb (n145 hg') (isG_ne hg' hg) (isG_ne hg' hg')
  refine ⟨⟨⟨by rw [e140]; exact r0, by rw [e140]; exact r1, hg, hg', w1, w2, by rw [e140]; exact r2, by rw [e140]; exact r3⟩, hn, ?_, ?_⟩, ea, eb, e140⟩
  · unfold GF
    rw [ea]
    exact fa
  · unfold GF
    rw [eb]
    exact fb
theorem c_round {d : Mem} {ga gb : Nat} {load : Int} (C : CR d ga gb) (l0 : 1 ≤ load) (l1 : load ≤ 999) : ∃ d', f_X5_wearRound (mkH d) 140 (J load) = some (mkH d') ∧ (∀ x, x ≠ ga + 1 → x ≠ gb + 1 → d' x = d x) ∧ (cw d' ga, cw d' gb) = wrS (laS d ga load) (laS d gb load) (cw d ga, cw d gb) 16 ∧ CR d' ga gb ∧ d' ga = d ga ∧ d' gb = d gb ∧ d' 140 = d 140 := by
  obtain ⟨R, hn, fa, fb⟩ := id C
  obtain ⟨d', q1, q2, q3⟩ := c_wearRound R hn fa fb l0 l1
  obtain ⟨w1, w2⟩ := wrS_ok (la := laS d ga load) (lb := laS d gb load) (s := (cw d ga, cw d gb)) R.2.2.2.2.1 R.2.2.2.2.2.1 16
  have e1 : cw d' ga = (wrS (laS d ga load) (laS d gb load) (cw d ga, cw d gb) 16).1 := congrArg Prod.fst q3
  have e2 : cw d' gb = (wrS (laS d ga load) (laS d gb load) (cw d ga, cw d gb) 16).2 := congrArg Prod.snd q3
  exact ⟨d', q1, q2, q3, CR_row C (fun x _ h1 h2 => q2 x h1 h2) (by rw [e1]; exact w1) (by rw [e2]; exact w2)⟩
def MR (d : Mem) (m a b rm : Int) : Prop := MS d m a b rm ∧ MG d a ∧ MG d b
theorem m_round {d : Mem} {m a b rm load : Int} (M : MR d m a b rm) (l0 : 1 ≤ load) (l1 : load ≤ 999) : ∃ d', f_X12_wears (mkH d) 183 (J m) (J load) = some (mkH d') ∧ (∀ x k, ¬ (x = 185 ∧ RGN a b k) → d' x k = d x k) ∧ (vw d' 185 a, vw d' 185 b) = wrS (maS d a load) (maS d b load) (vw d 185 a, vw d 185 b) 16 ∧ MR d' m a b rm ∧ maS d' a load = maS d a load ∧ maS d' b load = maS d b load := by
  obtain ⟨MM, Ga, Gb⟩ := M
  obtain ⟨d', q1, q2, q3⟩ := m_wears MM Ga Gb l0 l1
  obtain ⟨m0, m1, ea, eb, er, a0, a1, b0, b1, nab, r0, r1, ok, ok'⟩ := MM
  obtain ⟨w1, w2⟩ := wrS_ok (la := maS d a load) (lb := maS d b load) (s := (vw d 185 a, vw d 185 b)) ok ok' 16
  have e1 : vw d' 185 a = (wrS (maS d a load) (maS d b load) (vw d 185 a, vw d 185 b) 16).1 := congrArg Prod.fst q3
  have e2 : vw d' 185 b = (wrS (maS d a load) (maS d b load) (vw d 185 a, vw d 185 b) 16).2 := congrArg Prod.snd q3
  have fx : ∀ k, ¬ RGN a b k → d' 185 k = d 185 k := fun k hk => q2 185 k (fun e => hk e.2)
  have ka : d' 185 (19 * a) = d 185 (19 * a) := fx _ (by unfold RGN; omega)
  have ta : d' 185 (19 * a + 1) = d 185 (19 * a + 1) := fx _ (by unfold RGN; omega)
  have kb : d' 185 (19 * b) = d 185 (19 * b) := fx _ (by unfold RGN; omega)
  have tb : d' 185 (19 * b + 1) = d 185 (19 * b + 1) := fx _ (by unfold RGN; omega)
  refine ⟨d', q1, q2, q3, ⟨⟨m0, m1, ?_, ?_, ?_, a0, a1, b0, b1, nab, r0, r1, by rw [e1]; exact w1, by rw [e2]; exact w2⟩, ?_, ?_⟩, ?_, ?_⟩
  · unfold mm at ea ⊢
    rw [fx _ (by unfold RGN; omega)]
    exact ea
  · unfold mm at eb ⊢
    rw [fx _ (by unfold RGN; omega)]
    exact eb
  · unfold mm at er ⊢
    rw [fx _ (by unfold RGN; omega)]
    exact er
  · unfold MG
    rw [ka, ta]
    exact Ga
  · unfold MG
    rw [kb, tb]
    exact Gb
  · unfold maS
    rw [ka, ta]
  · unfold maS
    rw [kb, tb]
section
variable {d : Mem}
theorem ag_wear (I : INV d) (x y u : Int32) : ∃ r d1 d2, f_X11_wear (mkH d) 0 x y u = some (r, mkH d1) ∧ f_X12_wear (mkH d1) 183 x y u = some (r, mkH d2) ∧ INV d2 := by
  obtain ⟨z, z1, z2, rfl⟩ := J_of x
  obtain ⟨l, l1, l2, rfl⟩ := J_of y
  obtain ⟨v, v1, v2, rfl⟩ := J_of u
  have e1 := c_isMesh I.1 z1 z2
  have e2 := m_isMesh I.1 z1 z2
  have e5 := c_isWearLoad l1 l2
  by_cases c : 0 ≤ z ∧ z ≤ d 185 1741 - 1
  · rw [B_t c] at e1 e2
    by_cases c3 : 1 ≤ l ∧ l ≤ 999
    · have b3 := B_t c3
      rw [b3] at e5
      by_cases c5 : 1 ≤ v ∧ v ≤ 100
      · have b5 := B_t c5
        obtain ⟨c1, c2⟩ := c
        obtain ⟨c3, c4⟩ := c3
        obtain ⟨c5, c6⟩ := c5
        obtain ⟨d1, a, b, rm, q, I1, F, R, wa, wb, er, Ms, MM, rows, a1, b1⟩ := roll_go I c1 (by omega)
        have eM : d1 185 1741 = d 185 1741 := F 185 1741 (fun s => by unfold Sc at s; omega)
        have eN : d1 185 1740 = d 185 1740 := F 185 1740 (fun s => by unfold Sc at s; omega)
        have e3 := m_isMesh I1.1 z1 z2
        rw [eM] at e3
        obtain ⟨-, -, -, -, -, a0, a2, b0, b2, nab, r0, r1, ok, ok'⟩ := id MM
        obtain ⟨fa, Ga, ha1, ha2⟩ := GF_of I1.1 a0 (by omega)
        obtain ⟨fb, Gb, hb1, hb2⟩ := GF_of I1.1 b0 (by omega)
        have hne : gA 1 a ≠ gA 1 b := fun e => nab (gA_inj a0 b0 e)
        have hg := isG_1 a0 a2
        have hg' := isG_1 b0 b2
        have C1 : CR d1 (gA 1 a) (gA 1 b) := ⟨R, hne, fa, fb⟩
        obtain ⟨n, hn⟩ : ∃ n : Nat, v = n := ⟨v.toNat, by omega⟩
        subst hn
        have hla : laS d1 (gA 1 a) l = maS d1 a l := by unfold laS maS; rw [ha1, ha2]
        have hlb : laS d1 (gA 1 b) l = maS d1 b l := by unfold laS maS; rw [hb1, hb2]
        have L1 : ∃ e, iter (b_X11_wear_35 0 (J l) (J n)) FU (J 0, mkH d1) = some e ∧ ∃ d', e = mkH d' ∧ (∀ x, x ≠ gA 1 a + 1 → x ≠ gA 1 b + 1 → d' x = d1 x) ∧ (cw d' (gA 1 a), cw d' (gA 1 b)) = rnS (maS d1 a l) (maS d1 b l) (vw d1 185 a, vw d1 185 b) n ∧ CR d' (gA 1 a) (gA 1 b) ∧ d' 140 = d1 140 := by
          refine iter_for (fun i s => ∃ d', s = (J (i : Int), mkH d') ∧ (∀ x, x ≠ gA 1 a + 1 → x ≠ gA 1 b + 1 → d' x = d1 x) ∧ (cw d' (gA 1 a), cw d' (gA 1 b)) = rnS (maS d1 a l) (maS d1 b l) (vw d1 185 a, vw d1 185 b) i ∧ CR d' (gA 1 a) (gA 1 b) ∧ d' 140 = d1 140 ∧ d' (gA 1 a) = d1 (gA 1 a) ∧ d' (gA 1 b) = d1 (gA 1 b)) _ n (by omega) ⟨d1, rfl, fun _ _ _ => rfl, by rw [wa, wb]; rfl, C1, rfl, rfl, rfl⟩ ?_ ?_
          · rintro i s hi ⟨d', rfl, h1, h2, h3, h4, h5, h6⟩
            obtain ⟨d'', g1, g2, g3, g4, g5, g6, g7⟩ := c_round h3 c3 c4
            have k1 : laS d' (gA 1 a) l = maS d1 a l := by rw [← hla]; unfold laS; rw [h5]
            have k2 : laS d' (gA 1 b) l = maS d1 b l := by rw [← hlb]; unfold laS; rw [h6]
            refine ⟨(J ((i : Int) + 1), mkH d''), by simp (disch := first | omega | assumption | decide) only [b_X11_wear_35, g1, z0_0, z0_1, z0_2, z0_3, z0_4, z0_5, z0_6, z0_7, z0_8, z0_9, z0_10, z0_11, z0_12, z0_13, z0_14, z0_15, z0_16, z0_17, z1_0, z1_1, z1_2, z1_3, z1_4, z1_5, z1_6, z1_7, z1_8, z2_0, z3_0, z3_1, z4_0, z4_1, z5_0, z5_1, z124_0, SG0, SG1, SG2, SG3, SG4, SG5, SG6, SG7, SG8, SG9, SG10, SG11, SG12, SS0, SS1, SS2, SS3, SS4, SS5, SS6, SS7, SS8, SS9, SS10, SS11, z30_0, z30_1, z30_2, z30_3, z30_4, z30_5, z30_6, z30_7, z30_8, z59_0, z59_1, z59_2, z59_3, z59_4, z62_0, z62_1, z62_2, z62_3, z62_4, z63_0, z76_0, z76_1, z125_0, z125_1, z125_2, z125_3, z125_4, z125_5, z125_6, z125_7, z125_8, z125_9, z125_10, z125_11, z125_12, z125_13, z128_0, z128_1, z128_2, z128_3, z128_4, z128_5, z128_6, z128_7, z128_8, z128_9, z130_0, z130_1, z131_0, z131_1, z131_2, z131_3, z131_4, z131_5, z131_6, z131_7, z131_8, z140_0, z140_1, z140_2, z140_3, z140_4, z140_5, z140_6, z140_7, z145_0, z145_1, z146_0, z146_1, z146_2, z146_3, z146_4, z146_5, z146_6, z146_7, z146_8, z146_9, z146_10, z146_11, z146_12, z146_13, z146_14, SN0, SN1, SN2, SN3, SN4, SN5, SN6, SN7, SN8, SN9, SN10, SN11, SN12, SN13, SN14, SN15, SN16, SN17, SN18, SJ0, SJ1, SJ2, SJ3, SJ4, SJ5, bindS, if_pos, if_neg, w_isWithin, w_isIn, JB_0, JB_1, bz_B, ite10, ite01, Int.natCast_add, csN0, csN1, csN16, Int.toNat_natCast, ite_not, not_true_eq_false, not_false_eq_true], d'', rfl, fun x n1 n2 => (g2 x n1 n2).trans (h1 x n1 n2), ?_, g4, g7.trans h4, g5.trans h5, g6.trans h6⟩
            rw [g3, k1, k2, h2]
            rfl
          · rintro s ⟨d', rfl, h1, h2, h3, h4, -, -⟩
            exact ⟨mkH d', by simp (disch := first | omega | assumption | decide) only [b_X11_wear_35, z0_0, z0_1, z0_2, z0_3, z0_4, z0_5, z0_6, z0_7, z0_8, z0_9, z0_10, z0_11, z0_12, z0_13, z0_14, z0_15, z0_16, z0_17, z1_0, z1_1, z1_2, z1_3, z1_4, z1_5, z1_6, z1_7, z1_8, z2_0, z3_0, z3_1, z4_0, z4_1, z5_0, z5_1, z124_0, SG0, SG1, SG2, SG3, SG4, SG5, SG6, SG7, SG8, SG9, SG10, SG11, SG12, SS0, SS1, SS2, SS3, SS4, SS5, SS6, SS7, SS8, SS9, SS10, SS11, z30_0, z30_1, z30_2, z30_3, z30_4, z30_5, z30_6, z30_7, z30_8, z59_0, z59_1, z59_2, z59_3, z59_4, z62_0, z62_1, z62_2, z62_3, z62_4, z63_0, z76_0, z76_1, z125_0, z125_1, z125_2, z125_3, z125_4, z125_5, z125_6, z125_7, z125_8, z125_9, z125_10, z125_11, z125_12, z125_13, z128_0, z128_1, z128_2, z128_3, z128_4, z128_5, z128_6, z128_7, z128_8, z128_9, z130_0, z130_1, z131_0, z131_1, z131_2, z131_3, z131_4, z131_5, z131_6, z131_7, z131_8, z140_0, z140_1, z140_2, z140_3, z140_4, z140_5, z140_6, z140_7, z145_0, z145_1, z146_0, z146_1, z146_2, z146_3, z146_4, z146_5, z146_6, z146_7, z146_8, z146_9, z146_10, z146_11, z146_12, z146_13, z146_14, SN0, SN1, SN2, SN3, SN4, SN5, SN6, SN7, SN8, SN9, SN10, SN11, SN12, SN13, SN14, SN15, SN16, SN17, SN18, SJ0, SJ1, SJ2, SJ3, SJ4, SJ5, bindS, if_pos, if_neg, w_isWithin, w_isIn, JB_0, JB_1, bz_B, ite10, ite01, Int.natCast_add, csN0, csN1, csN16, Int.toNat_natCast, ite_not, not_true_eq_false, not_false_eq_true], d', rfl, h1, h2, h3, h4⟩
        obtain ⟨e, L2, d2, rfl, L3, L4, L5, L6⟩ := L1
        have k1 := c_measure L5.1
        have er2 : d2 140 2 = rm := by rw [L6]; exact er
        have cA : cw d2 (gA 1 a) = (rnS (maS d1 a l) (maS d1 b l) (vw d1 185 a, vw d1 185 b) n).1 := congrArg Prod.fst L4
        have cB : cw d2 (gA 1 b) = (rnS (maS d1 a l) (maS d1 b l) (vw d1 185 a, vw d1 185 b) n).2 := congrArg Prod.snd L4
        obtain ⟨w1, w2⟩ := rnS_ok (la := maS d1 a l) (lb := maS d1 b l) (s := (vw d1 185 a, vw d1 185 b)) ok ok' n
        rw [cA, cB, er2] at k1
        generalize hWA : (rnS (maS d1 a l) (maS d1 b l) (vw d1 185 a, vw d1 185 b) n).1 = WA at *
        generalize hWB : (rnS (maS d1 a l) (maS d1 b l) (vw d1 185 a, vw d1 185 b) n).2 = WB at *
        generalize hd3 : fl d2 145 0 16 (offS WA WB rm) = d3 at k1
        have M3 : Msd d3 (offS WA WB rm) := ⟨fun t t0 t1 => by rw [← hd3]; exact fl_in (by omega) (by omega), fun n => off_rng w1 w2 ⟨r0, r1⟩ n⟩
        have k2 := c_spread M3
        have r3 : ∀ x, x ≠ 145 → x ≠ gA 1 a + 1 → x ≠ gA 1 b + 1 → d3 x = d1 x := fun x n0 n1 n2 => by rw [← hd3, fl_row n0]; exact L3 x n1 n2
        have gl : ∀ i : Int, 0 ≤ i → i < 12 → 6 ≤ gA 1 i ∧ gA 1 i + 1 ≤ 29 ∧ gA 1 i % 2 = 0 := fun i i0 i1 => by unfold gA; omega
        have ga1 := gl a a0 a2
        have gb1 := gl b b0 b2
        have e185 : d3 185 = d1 185 := r3 185 (by decide) (by omega) (by omega)
        have va : vw d3 185 a = vw d1 185 a := vw_row e185
        have vb : vw d3 185 b = vw d1 185 b := vw_row e185
        have MR3 : MR d3 z a b rm := by
          unfold MR MS MG mm at *
          rw [e185, va, vb]
          exact ⟨MM, Ga, Gb⟩
        have e4 : f_X12_isMesh (mkH d3) 183 (J z) = some (J 1) := by
          have b1 := B_t (p := 0 ≤ z ∧ z ≤ d 185 1741 - 1) ⟨c1, c2⟩
          have p5 := I1.1.2.2.2.2.1
          have p6 := I1.1.2.2.2.2.2.1
          have x1 : d3 185 1741 = d 185 1741 := by rw [e185, eM]
          rw [eM] at p5 p6
          simp (disch := first | omega | assumption | decide) only [f_X12_isMesh, x1, b1, z183_0, z183_1, z183_2, z183_3, z183_4, z183_5, z183_6, z183_7, z183_8, z183_9, z183_10, z183_11, z183_12, z183_13, z183_14, z183_15, z183_16, z183_17, z183_18, z183_19, z183_20, z183_21, z183_22, z183_23, z183_24, z183_25, z183_26, z183_27, z183_28, z183_29, z183_30, z183_31, z183_32, z183_33, z183_34, z183_35, z183_36, z183_37, z183_38, z183_39, z183_40, z183_41, z183_42, z184_0, z184_1, z185_0, z185_1, z186_0, z186_1, z187_0, z187_1, z188_0, z188_1, z189_0, z189_1, z190_0, z190_1, z191_0, z191_1, z192_0, z192_1, z193_0, z193_1, z194_0, z194_1, z195_0, z195_1, z196_0, z196_1, z197_0, z197_1, z198_0, z198_1, z198_2, z199_0, z199_1, z200_0, z200_1, z201_0, z201_1, z202_0, z202_1, SN0, SN1, SN2, SN3, SN4, SN5, SN6, SN7, SN8, SN9, SN10, SN11, SN12, SN13, SN14, SN15, SN16, SN17, SN18, SJ0, SJ1, SJ2, SJ3, SJ4, SJ5, bindS, if_pos, if_neg, w_isWithin, w_isIn, JB_0, JB_1, bz_B, ite10, ite01, Int.natCast_add, csN0, csN1, csN16, Int.toNat_natCast, ite_not, not_true_eq_false, not_false_eq_true]
        have hma : maS d3 a l = maS d1 a l := by unfold maS; rw [e185]
        have hmb : maS d3 b l = maS d1 b l := by unfold maS; rw [e185]
        have L7 : ∃ e, iter (b_X12_wear_37 183 (J z) (J l) (J n)) FU (J 0, mkH d3) = some e ∧ ∃ d', e = mkH d' ∧ (∀ x k, ¬ (x = 185 ∧ RGN a b k) → d' x k = d3 x k) ∧ (vw d' 185 a, vw d' 185 b) = rnS (maS d1 a l) (maS d1 b l) (vw d1 185 a, vw d1 185 b) n ∧ MR d' z a b rm := by
          refine iter_for (fun i s => ∃ d', s = (J (i : Int), mkH d') ∧ (∀ x k, ¬ (x = 185 ∧ RGN a b k) → d' x k = d3 x k) ∧ (vw d' 185 a, vw d' 185 b) = rnS (maS d1 a l) (maS d1 b l) (vw d1 185 a, vw d1 185 b) i ∧ MR d' z a b rm ∧ maS d' a l = maS d1 a l ∧ maS d' b l = maS d1 b l) _ n (by omega) ⟨d3, rfl, fun _ _ _ => rfl, by rw [va, vb]; rfl, MR3, hma, hmb⟩ ?_ ?_
          · rintro i s hi ⟨d', rfl, h1, h2, h3, h4, h5⟩
            obtain ⟨d'', g1, g2, g3, g4, g5, g6⟩ := m_round h3 c3 c4
            refine ⟨(J ((i : Int) + 1), mkH d''), by simp (disch := first | omega | assumption | decide) only [b_X12_wear_37, g1, z183_0, z183_1, z183_2, z183_3, z183_4, z183_5, z183_6, z183_7, z183_8, z183_9, z183_10, z183_11, z183_12, z183_13, z183_14, z183_15, z183_16, z183_17, z183_18, z183_19, z183_20, z183_21, z183_22, z183_23, z183_24, z183_25, z183_26, z183_27, z183_28, z183_29, z183_30, z183_31, z183_32, z183_33, z183_34, z183_35, z183_36, z183_37, z183_38, z183_39, z183_40, z183_41, z183_42, z184_0, z184_1, z185_0, z185_1, z186_0, z186_1, z187_0, z187_1, z188_0, z188_1, z189_0, z189_1, z190_0, z190_1, z191_0, z191_1, z192_0, z192_1, z193_0, z193_1, z194_0, z194_1, z195_0, z195_1, z196_0, z196_1, z197_0, z197_1, z198_0, z198_1, z198_2, z199_0, z199_1, z200_0, z200_1, z201_0, z201_1, z202_0, z202_1, SN0, SN1, SN2, SN3, SN4, SN5, SN6, SN7, SN8, SN9, SN10, SN11, SN12, SN13, SN14, SN15, SN16, SN17, SN18, SJ0, SJ1, SJ2, SJ3, SJ4, SJ5, bindS, if_pos, if_neg, w_isWithin, w_isIn, JB_0, JB_1, bz_B, ite10, ite01, Int.natCast_add, csN0, csN1, csN16, Int.toNat_natCast, ite_not, not_true_eq_false, not_false_eq_true], d'', rfl, fun x k hk => (g2 x k hk).trans (h1 x k hk), ?_, g4, g5.trans h4, g6.trans h5⟩
            rw [g3, h4, h5, h2]
            rfl
          · rintro s ⟨d', rfl, h1, h2, h3, -, -⟩
            exact ⟨mkH d', by simp (disch := first | omega | assumption | decide) only [b_X12_wear_37, z183_0, z183_1, z183_2, z183_3, z183_4, z183_5, z183_6, z183_7, z183_8, z183_9, z183_10, z183_11, z183_12, z183_13, z183_14, z183_15, z183_16, z183_17, z183_18, z183_19, z183_20, z183_21, z183_22, z183_23, z183_24, z183_25, z183_26, z183_27, z183_28, z183_29, z183_30, z183_31, z183_32, z183_33, z183_34, z183_35, z183_36, z183_37, z183_38, z183_39, z183_40, z183_41, z183_42, z184_0, z184_1, z185_0, z185_1, z186_0, z186_1, z187_0, z187_1, z188_0, z188_1, z189_0, z189_1, z190_0, z190_1, z191_0, z191_1, z192_0, z192_1, z193_0, z193_1, z194_0, z194_1, z195_0, z195_1, z196_0, z196_1, z197_0, z197_1, z198_0, z198_1, z198_2, z199_0, z199_1, z200_0, z200_1, z201_0, z201_1, z202_0, z202_1, SN0, SN1, SN2, SN3, SN4, SN5, SN6, SN7, SN8, SN9, SN10, SN11, SN12, SN13, SN14, SN15, SN16, SN17, SN18, SJ0, SJ1, SJ2, SJ3, SJ4, SJ5, bindS, if_pos, if_neg, w_isWithin, w_isIn, JB_0, JB_1, bz_B, ite10, ite01, Int.natCast_add, csN0, csN1, csN16, Int.toNat_natCast, ite_not, not_true_eq_false, not_false_eq_true], d', rfl, h1, h2, h3⟩
        obtain ⟨e, L8, d4, rfl, L9, L10, L11⟩ := L7
        have vA : vw d4 185 a = WA := by rw [← hWA]; exact congrArg Prod.fst L10
        have vB : vw d4 185 b = WB := by rw [← hWB]; exact congrArg Prod.snd L10
        have k3 := m_evenOf L11.1
        rw [vA, vB] at k3
        refine ⟨J (evenS WA WB rm), d3, d4, ?_, ?_, ?_⟩
        · simp (disch := first | omega | assumption | decide) only [f_X11_wear, e1, e5, b5, q, L2, k1, k2, evenS, gapS, z0_0, z0_1, z0_2, z0_3, z0_4, z0_5, z0_6, z0_7, z0_8, z0_9, z0_10, z0_11, z0_12, z0_13, z0_14, z0_15, z0_16, z0_17, z1_0, z1_1, z1_2, z1_3, z1_4, z1_5, z1_6, z1_7, z1_8, z2_0, z3_0, z3_1, z4_0, z4_1, z5_0, z5_1, z124_0, SG0, SG1, SG2, SG3, SG4, SG5, SG6, SG7, SG8, SG9, SG10, SG11, SG12, SS0, SS1, SS2, SS3, SS4, SS5, SS6, SS7, SS8, SS9, SS10, SS11, z30_0, z30_1, z30_2, z30_3, z30_4, z30_5, z30_6, z30_7, z30_8, z59_0, z59_1, z59_2, z59_3, z59_4, z62_0, z62_1, z62_2, z62_3, z62_4, z63_0, z76_0, z76_1, z125_0, z125_1, z125_2, z125_3, z125_4, z125_5, z125_6, z125_7, z125_8, z125_9, z125_10, z125_11, z125_12, z125_13, z128_0, z128_1, z128_2, z128_3, z128_4, z128_5, z128_6, z128_7, z128_8, z128_9, z130_0, z130_1, z131_0, z131_1, z131_2, z131_3, z131_4, z131_5, z131_6, z131_7, z131_8, z140_0, z140_1, z140_2, z140_3, z140_4, z140_5, z140_6, z140_7, z145_0, z145_1, z146_0, z146_1, z146_2, z146_3, z146_4, z146_5, z146_6, z146_7, z146_8, z146_9, z146_10, z146_11, z146_12, z146_13, z146_14, SN0, SN1, SN2, SN3, SN4, SN5, SN6, SN7, SN8, SN9, SN10, SN11, SN12, SN13, SN14, SN15, SN16, SN17, SN18, SJ0, SJ1, SJ2, SJ3, SJ4, SJ5, bindS, if_pos, if_neg, w_isWithin, w_isIn, JB_0, JB_1, bz_B, ite10, ite01, Int.natCast_add, csN0, csN1, csN16, Int.toNat_natCast, ite_not, not_true_eq_false, not_false_eq_true]
        · simp (disch := first | omega | assumption | decide) only [f_X12_wear, e4, b3, b5, L8, k3, z183_0, z183_1, z183_2, z183_3, z183_4, z183_5, z183_6, z183_7, z183_8, z183_9, z183_10, z183_11, z183_12, z183_13, z183_14, z183_15, z183_16, z183_17, z183_18, z183_19, z183_20, z183_21, z183_22, z183_23, z183_24, z183_25, z183_26, z183_27, z183_28, z183_29, z183_30, z183_31, z183_32, z183_33, z183_34, z183_35, z183_36, z183_37, z183_38, z183_39, z183_40, z183_41, z183_42, z184_0, z184_1, z185_0, z185_1, z186_0, z186_1, z187_0, z187_1, z188_0, z188_1, z189_0, z189_1, z190_0, z190_1, z191_0, z191_1, z192_0, z192_1, z193_0, z193_1, z194_0, z194_1, z195_0, z195_1, z196_0, z196_1, z197_0, z197_1, z198_0, z198_1, z198_2, z199_0, z199_1, z200_0, z200_1, z201_0, z201_1, z202_0, z202_1, SN0, SN1, SN2, SN3, SN4, SN5, SN6, SN7, SN8, SN9, SN10, SN11, SN12, SN13, SN14, SN15, SN16, SN17, SN18, SJ0, SJ1, SJ2, SJ3, SJ4, SJ5, bindS, if_pos, if_neg, w_isWithin, w_isIn, JB_0, JB_1, bz_B, ite10, ite01, Int.natCast_add, csN0, csN1, csN16, Int.toNat_natCast, ite_not, not_true_eq_false, not_false_eq_true]
        · refine INV_w I1 (fun x k s n1 n2 => ?_) (fun i i0 i1 => ?_)
          · rw [L9 x k (fun e => n2 ⟨e.1, by
              rcases e.2 with h | h
              · exact ⟨a, a0, a2, h.1, h.2⟩
              · exact ⟨b, b0, b2, h.1, h.2⟩⟩)]
            exact congrFun (r3 x (fun e => s (by unfold Sc; omega)) (n1 a a0 a2) (n1 b b0 b2)) k
          · have p4 := I1.1.2.2.2.1
            have gi := gl i i0 (by omega)
            have ec : cw d4 (gA 1 i) = cw d3 (gA 1 i) := cw_na (fun k _ _ => L9 _ k (fun e => by omega))
            have e145 : ∀ j : Int, 0 ≤ j → j < 12 → cw d3 (gA 1 j) = cw d2 (gA 1 j) := fun j j0 j1 => by
              have gj := gl j j0 j1
              rw [← hd3]
              exact cw_row (fl_row (by omega))
            by_cases ia : i = a
            · subst ia
              rw [ec, e145 i i0 a2, cA, vA]
              exact ⟨rfl, w1⟩
            · by_cases ib : i = b
              · subst ib
                rw [ec, e145 i i0 b2, cB, vB]
                exact ⟨rfl, w2⟩
              · have n1 : gA 1 i + 1 ≠ gA 1 a + 1 := fun e => ia (gA_inj (p := 1) i0 a0 (by omega))
                have n2 : gA 1 i + 1 ≠ gA 1 b + 1 := fun e => ib (gA_inj (p := 1) i0 b0 (by omega))
                have ec2 : cw d3 (gA 1 i) = cw d1 (gA 1 i) := cw_row (r3 _ (by omega) n1 n2)
                have ev : vw d4 185 i = vw d1 185 i := tr_cong (fun k k0 k1 => by
                  rw [L9 185 _ (fun e => by have := e.2; unfold RGN at this; omega), e185])
                have gg := I1.1.2.2.2.2.2.2.1 i i0 i1
                rw [ec, ec2, ev]
                exact ⟨gg.2.2.2.2.1, gg.2.2.2.2.2.2.2.2.2.2.2⟩
      · have b5 := B_f c5
        exact ⟨J (-1), d, d, by simp (disch := first | omega | assumption | decide) only [f_X11_wear, e1, e5, b5, z0_0, z0_1, z0_2, z0_3, z0_4, z0_5, z0_6, z0_7, z0_8, z0_9, z0_10, z0_11, z0_12, z0_13, z0_14, z0_15, z0_16, z0_17, z1_0, z1_1, z1_2, z1_3, z1_4, z1_5, z1_6, z1_7, z1_8, z2_0, z3_0, z3_1, z4_0, z4_1, z5_0, z5_1, z124_0, SG0, SG1, SG2, SG3, SG4, SG5, SG6, SG7, SG8, SG9, SG10, SG11, SG12, SS0, SS1, SS2, SS3, SS4, SS5, SS6, SS7, SS8, SS9, SS10, SS11, z30_0, z30_1, z30_2, z30_3, z30_4, z30_5, z30_6, z30_7, z30_8, z59_0, z59_1, z59_2, z59_3, z59_4, z62_0, z62_1, z62_2, z62_3, z62_4, z63_0, z76_0, z76_1, z125_0, z125_1, z125_2, z125_3, z125_4, z125_5, z125_6, z125_7, z125_8, z125_9, z125_10, z125_11, z125_12, z125_13, z128_0, z128_1, z128_2, z128_3, z128_4, z128_5, z128_6, z128_7, z128_8, z128_9, z130_0, z130_1, z131_0, z131_1, z131_2, z131_3, z131_4, z131_5, z131_6, z131_7, z131_8, z140_0, z140_1, z140_2, z140_3, z140_4, z140_5, z140_6, z140_7, z145_0, z145_1, z146_0, z146_1, z146_2, z146_3, z146_4, z146_5, z146_6, z146_7, z146_8, z146_9, z146_10, z146_11, z146_12, z146_13, z146_14, SN0, SN1, SN2, SN3, SN4, SN5, SN6, SN7, SN8, SN9, SN10, SN11, SN12, SN13, SN14, SN15, SN16, SN17, SN18, SJ0, SJ1, SJ2, SJ3, SJ4, SJ5, bindS, if_pos, if_neg, w_isWithin, w_isIn, JB_0, JB_1, bz_B, ite10, ite01, Int.natCast_add, csN0, csN1, csN16, Int.toNat_natCast, ite_not, not_true_eq_false, not_false_eq_true], by simp (disch := first | omega | assumption | decide) only [f_X12_wear, e2, b3, b5, z183_0, z183_1, z183_2, z183_3, z183_4, z183_5, z183_6, z183_7, z183_8, z183_9, z183_10, z183_11, z183_12, z183_13, z183_14, z183_15, z183_16, z183_17, z183_18, z183_19, z183_20, z183_21, z183_22, z183_23, z183_24, z183_25, z183_26, z183_27, z183_28, z183_29, z183_30, z183_31, z183_32, z183_33, z183_34, z183_35, z183_36, z183_37, z183_38, z183_39, z183_40, z183_41, z183_42, z184_0, z184_1, z185_0, z185_1, z186_0, z186_1, z187_0, z187_1, z188_0, z188_1, z189_0, z189_1, z190_0, z190_1, z191_0, z191_1, z192_0, z192_1, z193_0, z193_1, z194_0, z194_1, z195_0, z195_1, z196_0, z196_1, z197_0, z197_1, z198_0, z198_1, z198_2, z199_0, z199_1, z200_0, z200_1, z201_0, z201_1, z202_0, z202_1, SN0, SN1, SN2, SN3, SN4, SN5, SN6, SN7, SN8, SN9, SN10, SN11, SN12, SN13, SN14, SN15, SN16, SN17, SN18, SJ0, SJ1, SJ2, SJ3, SJ4, SJ5, bindS, if_pos, if_neg, w_isWithin, w_isIn, JB_0, JB_1, bz_B, ite10, ite01, Int.natCast_add, csN0, csN1, csN16, Int.toNat_natCast, ite_not, not_true_eq_false, not_false_eq_true], I⟩
    · have b3 := B_f c3
      rw [b3] at e5
      exact ⟨J (-1), d, d, by simp (disch := first | omega | assumption | decide) only [f_X11_wear, e1, e5, z0_0, z0_1, z0_2, z0_3, z0_4, z0_5, z0_6, z0_7, z0_8, z0_9, z0_10, z0_11, z0_12, z0_13, z0_14, z0_15, z0_16, z0_17, z1_0, z1_1, z1_2, z1_3, z1_4, z1_5, z1_6, z1_7, z1_8, z2_0, z3_0, z3_1, z4_0, z4_1, z5_0, z5_1, z124_0, SG0, SG1, SG2, SG3, SG4, SG5, SG6, SG7, SG8, SG9, SG10, SG11, SG12, SS0, SS1, SS2, SS3, SS4, SS5, SS6, SS7, SS8, SS9, SS10, SS11, z30_0, z30_1, z30_2, z30_3, z30_4, z30_5, z30_6, z30_7, z30_8, z59_0, z59_1, z59_2, z59_3, z59_4, z62_0, z62_1, z62_2, z62_3, z62_4, z63_0, z76_0, z76_1, z125_0, z125_1, z125_2, z125_3, z125_4, z125_5, z125_6, z125_7, z125_8, z125_9, z125_10, z125_11, z125_12, z125_13, z128_0, z128_1, z128_2, z128_3, z128_4, z128_5, z128_6, z128_7, z128_8, z128_9, z130_0, z130_1, z131_0, z131_1, z131_2, z131_3, z131_4, z131_5, z131_6, z131_7, z131_8, z140_0, z140_1, z140_2, z140_3, z140_4, z140_5, z140_6, z140_7, z145_0, z145_1, z146_0, z146_1, z146_2, z146_3, z146_4, z146_5, z146_6, z146_7, z146_8, z146_9, z146_10, z146_11, z146_12, z146_13, z146_14, SN0, SN1, SN2, SN3, SN4, SN5, SN6, SN7, SN8, SN9, SN10, SN11, SN12, SN13, SN14, SN15, SN16, SN17, SN18, SJ0, SJ1, SJ2, SJ3, SJ4, SJ5, bindS, if_pos, if_neg, w_isWithin, w_isIn, JB_0, JB_1, bz_B, ite10, ite01, Int.natCast_add, csN0, csN1, csN16, Int.toNat_natCast, ite_not, not_true_eq_false, not_false_eq_true], by simp (disch := first | omega | assumption | decide) only [f_X12_wear, e2, b3, z183_0, z183_1, z183_2, z183_3, z183_4, z183_5, z183_6, z183_7, z183_8, z183_9, z183_10, z183_11, z183_12, z183_13, z183_14, z183_15, z183_16, z183_17, z183_18, z183_19, z183_20, z183_21, z183_22, z183_23, z183_24, z183_25, z183_26, z183_27, z183_28, z183_29, z183_30, z183_31, z183_32, z183_33, z183_34, z183_35, z183_36, z183_37, z183_38, z183_39, z183_40, z183_41, z183_42, z184_0, z184_1, z185_0, z185_1, z186_0, z186_1, z187_0, z187_1, z188_0, z188_1, z189_0, z189_1, z190_0, z190_1, z191_0, z191_1, z192_0, z192_1, z193_0, z193_1, z194_0, z194_1, z195_0, z195_1, z196_0, z196_1, z197_0, z197_1, z198_0, z198_1, z198_2, z199_0, z199_1, z200_0, z200_1, z201_0, z201_1, z202_0, z202_1, SN0, SN1, SN2, SN3, SN4, SN5, SN6, SN7, SN8, SN9, SN10, SN11, SN12, SN13, SN14, SN15, SN16, SN17, SN18, SJ0, SJ1, SJ2, SJ3, SJ4, SJ5, bindS, if_pos, if_neg, w_isWithin, w_isIn, JB_0, JB_1, bz_B, ite10, ite01, Int.natCast_add, csN0, csN1, csN16, Int.toNat_natCast, ite_not, not_true_eq_false, not_false_eq_true], I⟩
  · rw [B_f c] at e1 e2
    exact ⟨J (-1), d, d, by simp (disch := first | omega | assumption | decide) only [f_X11_wear, e1, z0_0, z0_1, z0_2, z0_3, z0_4, z0_5, z0_6, z0_7, z0_8, z0_9, z0_10, z0_11, z0_12, z0_13, z0_14, z0_15, z0_16, z0_17, z1_0, z1_1, z1_2, z1_3, z1_4, z1_5, z1_6, z1_7, z1_8, z2_0, z3_0, z3_1, z4_0, z4_1, z5_0, z5_1, z124_0, SG0, SG1, SG2, SG3, SG4, SG5, SG6, SG7, SG8, SG9, SG10, SG11, SG12, SS0, SS1, SS2, SS3, SS4, SS5, SS6, SS7, SS8, SS9, SS10, SS11, z30_0, z30_1, z30_2, z30_3, z30_4, z30_5, z30_6, z30_7, z30_8, z59_0, z59_1, z59_2, z59_3, z59_4, z62_0, z62_1, z62_2, z62_3, z62_4, z63_0, z76_0, z76_1, z125_0, z125_1, z125_2, z125_3, z125_4, z125_5, z125_6, z125_7, z125_8, z125_9, z125_10, z125_11, z125_12, z125_13, z128_0, z128_1, z128_2, z128_3, z128_4, z128_5, z128_6, z128_7, z128_8, z128_9, z130_0, z130_1, z131_0, z131_1, z131_2, z131_3, z131_4, z131_5, z131_6, z131_7, z131_8, z140_0, z140_1, z140_2, z140_3, z140_4, z140_5, z140_6, z140_7, z145_0, z145_1, z146_0, z146_1, z146_2, z146_3, z146_4, z146_5, z146_6, z146_7, z146_8, z146_9, z146_10, z146_11, z146_12, z146_13, z146_14, SN0, SN1, SN2, SN3, SN4, SN5, SN6, SN7, SN8, SN9, SN10, SN11, SN12, SN13, SN14, SN15, SN16, SN17, SN18, SJ0, SJ1, SJ2, SJ3, SJ4, SJ5, bindS, if_pos, if_neg, w_isWithin, w_isIn, JB_0, JB_1, bz_B, ite10, ite01, Int.natCast_add, csN0, csN1, csN16, Int.toNat_natCast, ite_not, not_true_eq_false, not_false_eq_true], by simp (disch := first | omega | assumption | decide) only [f_X12_wear, e2, z183_0, z183_1, z183_2, z183_3, z183_4, z183_5, z183_6, z183_7, z183_8, z183_9, z183_10, z183_11, z183_12, z183_13, z183_14, z183_15, z183_16, z183_17, z183_18, z183_19, z183_20, z183_21, z183_22, z183_23, z183_24, z183_25, z183_26, z183_27, z183_28, z183_29, z183_30, z183_31, z183_32, z183_33, z183_34, z183_35, z183_36, z183_37, z183_38, z183_39, z183_40, z183_41, z183_42, z184_0, z184_1, z185_0, z185_1, z186_0, z186_1, z187_0, z187_1, z188_0, z188_1, z189_0, z189_1, z190_0, z190_1, z191_0, z191_1, z192_0, z192_1, z193_0, z193_1, z194_0, z194_1, z195_0, z195_1, z196_0, z196_1, z197_0, z197_1, z198_0, z198_1, z198_2, z199_0, z199_1, z200_0, z200_1, z201_0, z201_1, z202_0, z202_1, SN0, SN1, SN2, SN3, SN4, SN5, SN6, SN7, SN8, SN9, SN10, SN11, SN12, SN13, SN14, SN15, SN16, SN17, SN18, SJ0, SJ1, SJ2, SJ3, SJ4, SJ5, bindS, if_pos, if_neg, w_isWithin, w_isIn, JB_0, JB_1, bz_B, ite10, ite01, Int.natCast_add, csN0, csN1, csN16, Int.toNat_natCast, ite_not, not_true_eq_false, not_false_eq_true], I⟩
end
