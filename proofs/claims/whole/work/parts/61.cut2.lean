/-! cut and readBack -/
section
variable {d : Mem}
theorem ag_cut (I : INV d) (x y u : Int32) : ∃ r d1 d2, f_X11_cut (mkH d) 0 x y u = some (r, mkH d1) ∧ f_X12_cut (mkH d1) 183 x y u = some (r, mkH d2) ∧ INV d2 := by
  obtain ⟨g, z1, z2, rfl⟩ := J_of x
  obtain ⟨i, y1, y2, rfl⟩ := J_of y
  obtain ⟨a, a1, a2, rfl⟩ := J_of u
  have n1 : ¬ (J 1 = 0) := by decide
  have nzb : nz (J 100) = some () := rfl
  have e1 := c_isGear I.1 z1 z2
  have e2 := m_isGear I.1 z1 z2
  have e3 := c_isShelf y1 y2
  have e4 := m_isShelf y1 y2
  have hd : J a / J 100 = J (a.tdiv 100) := J_tdiv a1 a2 (by decide) (by decide)
  have hq : (a.tdiv 100).natAbs ≤ 21474836 := by
    rw [Int.natAbs_tdiv]
    show a.natAbs / 100 ≤ 21474836
    omega
  have hs : (J a - J a / J 100 * J 100) - J 8 = J (a - a.tdiv 100 * 100 - 8) := by rw [hd, J_mul, J_sub, J_sub]
  have e5 := c_isSteps (z := a.tdiv 100) (by omega) (by omega)
  have sh1 : -2147483648 ≤ a - a.tdiv 100 * 100 - 8 ∧ a - a.tdiv 100 * 100 - 8 < 2147483648 := by
    have h := Int.tmod_add_tdiv_mul a 100
    have h2 : (a.tmod 100).natAbs < 100 := by
      rw [Int.natAbs_tmod]
      exact Nat.mod_lt _ (by decide)
    omega
  by_cases cg : 0 ≤ g ∧ g ≤ d 185 1740 - 1
  · rw [B_t cg] at e1 e2
    by_cases ci : 0 ≤ i ∧ i ≤ 7
    · rw [B_t ci] at e3 e4
      by_cases ca : 100 ≤ a ∧ a.tdiv 100 ≤ 32
      · have ht0 : a.tdiv 100 = a / 100 := Int.tdiv_eq_ediv_of_nonneg (by omega)
        obtain ⟨n, hn⟩ : ∃ n : Nat, a / 100 = n := ⟨(a / 100).toNat, by omega⟩
        have ht : a.tdiv 100 = (n : Int) := ht0.trans hn
        rw [ht] at hd hs e5 sh1 ca
        have n0 : 1 ≤ n := by omega
        have n32 : n ≤ 32 := by omega
        rw [B_t (show 1 ≤ (n : Int) ∧ (n : Int) ≤ 32 by omega)] at e5
        generalize hsh : a - (n : Int) * 100 - 8 = sh at *
        have s0 : -8 ≤ sh := by omega
        have eIn : f_X12_isIn (J (n : Int)).toInt64 (K 1) (K 32) = some (J 1) := by
          have b := B_t (show 1 ≤ (n : Int) ∧ (n : Int) ≤ 32 by omega)
          simp (disch := first | omega | assumption | decide) only [b, SN0, SN1, SN2, SN3, SN4, SN5, SN6, SN7, SN8, SN9, SN10, SN11, SN12, SN13, SN14, SN15, SN16, SN17, SN18, SJ0, SJ1, SJ2, SJ3, SJ4, SJ5, bindS, if_pos, if_neg, w_isWithin, w_isIn, JB_0, JB_1, bz_B, ite10, ite01, Int.natCast_add, csN0, csN1, csN16, Int.toNat_natCast, ite_not, not_true_eq_false, not_false_eq_true]
        have ea : ¬ (J a < 0) := by rw [J_zero, J_lt (by omega) (by omega) (by omega) (by omega)]; omega
        have eW := w_isWithin (a := sh) (l := -8) (u := 8) sh1.1 sh1.2 (by decide) (by decide) (by decide) (by decide)
        by_cases cs : sh ≤ 8
        · rw [B_t ⟨s0, cs⟩] at eW
          obtain ⟨i0, i7⟩ := ci
          have i8 : i < 8 := by omega
          have S := I.2.2.2.2.1 i i0 i8
          have k1 := c_cutterR S i0 i8
          have k2 := m_wrongCutter S i0 i8
          have hS := isS_A i0 i8
          have esh : J sh ≤ J 8 := (J_le (by omega) (by omega) (by omega) (by omega)).mpr cs
          by_cases ok : cuS d i = 0
          · rw [ok] at k1 k2
            obtain ⟨q1, q2, q3, q4⟩ := cu_ok ok
            obtain ⟨g0, g1⟩ := cg
            obtain ⟨p1, p2, p3, p4, p5, p6, p7, p8⟩ := id I.1
            have g12 : g < 12 := by omega
            have hg := isG_1 g0 g12
            have gl := gA_le (p := 1) g0 g12
            have sl := sA_le i0 i8
            have rr : ∀ y, 0 ≤ y → y < 16 → d (sA i + 3) y = d 191 (120 * i + y) := fun y h0 h1 => (S.2.2.2.2.2.2.2.2.2.1 y h0 (by omega)).1
            have kc := c_cutBy (d := d) (g := gA 1 g) (e := sA i + 3) (sh := sh) (n := n) hg hS.2 (by omega) (fun y h0 h1 => by rw [rr y h0 h1]; exact q4 y h0 h1) s0 cs n0 n32
            rw [cutN_cong (r' := fun y => d 191 (120 * i + y)) rr n] at kc
            generalize hW : cutN (fun y => d 191 (120 * i + y)) sh n n = W at kc
            have okW : Wok W := by rw [← hW]; exact cutN_rng n
            have trW : tr W = W := by rw [← hW]; exact cutN_tr n
            obtain ⟨d1, hd1⟩ : ∃ d1, d1 = fl d (gA 1 g + 1) 0 16 W := ⟨_, rfl⟩
            rw [← hd1] at kc
            have cW : cw d1 (gA 1 g) = W := by rw [hd1, cw_fl, trW]
            have kt := c_thin (d := d1) hg (by rw [cW]; exact okW)
            rw [cW] at kt
            have fo : ∀ x, x ≠ gA 1 g + 1 → d1 x = d x := fun x h => by rw [hd1, fl_row h]
            have qc : f_X11_cut (mkH d) 0 (J g) (J i) (J a) = some (J (thinS W), mkH d1) := by
              refine bind_eq nzb (bind_eq (congrArg some hd) (bind_eq nzb (bind_eq (congrArg some hs) (bind_eq (z0_0 d) (bind_eq e1 ?_)))))
              rw [if_neg n1]
              refine bind_eq e3 ?_
              rw [if_neg n1]
              refine bind_eq e5 ?_
              rw [if_neg n1]
              refine bind_eq eW ?_
              rw [if_neg n1]
              refine bind_eq (q_gR rfl rfl) (bind_eq (z124_0 d i i0 i8) (bind_eq (SS0 d _ hS) (bind_eq k1 ?_)))
              rw [if_pos (by rfl)]
              refine bind_eq (q_gR rfl rfl) (bind_eq (q_gR rfl rfl) (bind_eq (z2_0 d g g0 g12) (bind_eq (q_gR rfl rfl) (bind_eq (z124_0 d i i0 i8) (bind_eq (SS5 d _ hS) (bind_eq (q_isO hg.1) (bind_eq kc ?_)))))))
              exact bind_eq (q_gR rfl rfl) (bind_eq (q_gR rfl rfl) (bind_eq (z2_0 d1 g g0 g12) (bind_eq (q_isO hg.1) (bind_eq kt rfl))))
            have e185 : d1 185 = d 185 := fo 185 (by omega)
            have x1740 : d1 185 1740 = d 185 1740 := by rw [e185]
            have e2' : f_X12_isGear (mkH d1) 183 (J g) = some (J 1) := by
              have b := B_t (p := 0 ≤ g ∧ g ≤ d 185 1740 - 1) ⟨g0, g1⟩
              simp (disch := first | omega | assumption | decide) only [f_X12_isGear, x1740, b, z183_0, z183_1, z183_2, z183_3, z183_4, z183_5, z183_6, z183_7, z183_8, z183_9, z183_10, z183_11, z183_12, z183_13, z183_14, z183_15, z183_16, z183_17, z183_18, z183_19, z183_20, z183_21, z183_22, z183_23, z183_24, z183_25, z183_26, z183_27, z183_28, z183_29, z183_30, z183_31, z183_32, z183_33, z183_34, z183_35, z183_36, z183_37, z183_38, z183_39, z183_40, z183_41, z183_42, z184_0, z184_1, z185_0, z185_1, z186_0, z186_1, z187_0, z187_1, z188_0, z188_1, z189_0, z189_1, z190_0, z190_1, z191_0, z191_1, z192_0, z192_1, z193_0, z193_1, z194_0, z194_1, z195_0, z195_1, z196_0, z196_1, z197_0, z197_1, z198_0, z198_1, z198_2, z199_0, z199_1, z200_0, z200_1, z201_0, z201_1, z202_0, z202_1, SN0, SN1, SN2, SN3, SN4, SN5, SN6, SN7, SN8, SN9, SN10, SN11, SN12, SN13, SN14, SN15, SN16, SN17, SN18, SJ0, SJ1, SJ2, SJ3, SJ4, SJ5, bindS, if_pos, if_neg, w_isWithin, w_isIn, JB_0, JB_1, bz_B, ite10, ite01, Int.natCast_add, csN0, csN1, csN16, Int.toNat_natCast, ite_not, not_true_eq_false, not_false_eq_true]
            have S1 : SH d1 i := SH_rows (fo _ (by omega)) (fo _ (by omega)) (fo _ (by omega)) (fo _ (by omega)) (congrFun (fo 188 (by omega)) i) (congrFun (fo 189 (by omega)) i) (congrFun (fo 190 (by omega)) i) (fun k _ _ => congrFun (fo 191 (by omega)) _) (congrFun (fo 192 (by omega)) i) (congrFun (fo 193 (by omega)) i) S
            have k2' := m_wrongCutter S1 i0 i8
            have cu1 : cuS d1 i = 0 := by
              have e8 := fo 188 (by omega)
              have e9 := fo 189 (by omega)
              have e0 := fo 190 (by omega)
              have e1 := fo 191 (by omega)
              rw [← ok]
              unfold cuS allS
              rw [e8, e9, e0, e1]
            rw [cu1] at k2'
            have f191 : ∀ c, d1 191 c = d 191 c := fun c => congrFun (fo 191 (by omega)) c
            have kd := m_cuts (d := d1) (i := i) (sh := sh) (n := n) i0 i8 (fun y h0 h1 => by rw [f191]; exact q4 y h0 h1) s0 cs n0 n32
            rw [show (fun y => d1 191 (120 * i + y)) = (fun y => d 191 (120 * i + y)) from funext fun y => f191 _, hW] at kd
            obtain ⟨d2, hd2⟩ : ∃ d2, d2 = fl d1 199 0 16 W := ⟨_, rfl⟩
            rw [← hd2] at kd
            have kp := m_puts (d := d2) g0 g12
            obtain ⟨d3, hd3⟩ : ∃ d3, d3 = fl d2 185 (19 * g + 3) 16 (fun c => d2 199 (c - (19 * g + 3))) := ⟨_, rfl⟩
            have vW : vw d3 185 g = W := by
              rw [hd3, vw_puts, ← trW]
              exact tr_cong (fun y y0 y1 => by rw [hd2, fl_in y0 (by omega)])
            rw [← hd3] at kp
            have kt3 := m_thin (d := d3) g0 g12 (by rw [vW]; exact okW)
            rw [vW] at kt3
            have qm : f_X12_cut (mkH d1) 183 (J g) (J i) (J a) = some (J (thinS W), mkH d3) := by
              refine bind_eq nzb (bind_eq (congrArg some hd) (bind_eq nzb (bind_eq (congrArg some hs) (bind_eq (z183_0 d1) (bind_eq e2' ?_)))))
              rw [if_neg n1]
              refine bind_eq e4 ?_
              rw [if_neg n1, if_neg ea]
              refine bind_eq eIn ?_
              rw [if_neg n1, if_pos esh]
              refine bind_eq (z183_0 d1) (bind_eq k2' ?_)
              rw [if_pos (by rfl)]
              exact bind_eq (z183_0 d1) (bind_eq kd (bind_eq (z183_0 d2) (bind_eq kp (bind_eq (z183_0 d3) (bind_eq kt3 rfl)))))
            refine ⟨_, _, _, qc, qm, INV_w I (fun x k sc m1 m2 => ?_) (fun j j0 j1 => ?_)⟩
            · have m1 := m1 g g0 g12
              rw [hd3]
              by_cases x185 : x = 185
              · subst x185
                rw [fl_out (by
                  by_cases h : k < 19 * g + 3
                  · exact Or.inl h
                  · refine Or.inr ?_
                    by_cases h2 : k < 19 * g + 19
                    · exact absurd ⟨rfl, g, g0, g12, by omega, h2⟩ m2
                    · omega), hd2, fl_na (by decide), e185]
              · rw [fl_na x185, hd2, fl_na (fun e => sc (by unfold Sc; omega)), fo x m1]
            · have jl := gA_le (p := 1) j0 (by omega : j < 12)
              have ec : cw d3 (gA 1 j) = cw d1 (gA 1 j) := cw_row (by rw [hd3, fl_row (by omega), hd2, fl_row (by omega)])
              by_cases e : j = g
              · subst e
                rw [ec, cW, vW]
                exact ⟨rfl, okW⟩
              · have n1 : gA 1 j + 1 ≠ gA 1 g + 1 := fun h => e (gA_inj (p := 1) j0 g0 (by omega))
                have ev : vw d3 185 j = vw d 185 j := tr_cong (fun y y0 y1 => by
                  rw [hd3, fl_out (by omega), hd2, fl_na (by decide), e185])
                obtain ⟨-, -, -, -, gw, -, -, -, -, -, -, okj⟩ := p7 j j0 j1
                rw [ec, ev, cw_row (fo _ n1)]
                exact ⟨gw, okj⟩
          · have nb : ¬ (J (cuS d i) = 0) := by
              rcases cu_rng (d := d) (i := i) with h | h | h | h
              · exact absurd h ok
              · rw [h]; decide
              · rw [h]; decide
              · rw [h]; decide
            refine ⟨J (cuS d i), d, d, ?_, ?_, I⟩
            · refine bind_eq nzb (bind_eq (congrArg some hd) (bind_eq nzb (bind_eq (congrArg some hs) (bind_eq (z0_0 d) (bind_eq e1 ?_)))))
              rw [if_neg n1]
              refine bind_eq e3 ?_
              rw [if_neg n1]
              refine bind_eq e5 ?_
              rw [if_neg n1]
              refine bind_eq eW ?_
              rw [if_neg n1]
              refine bind_eq (q_gR rfl rfl) (bind_eq (z124_0 d i i0 i8) (bind_eq (SS0 d _ hS) (bind_eq k1 ?_)))
              rw [if_neg nb]
            · refine bind_eq nzb (bind_eq (congrArg some hd) (bind_eq nzb (bind_eq (congrArg some hs) (bind_eq (z183_0 d) (bind_eq e2 ?_)))))
              rw [if_neg n1]
              refine bind_eq e4 ?_
              rw [if_neg n1, if_neg ea]
              refine bind_eq eIn ?_
              rw [if_neg n1, if_pos esh]
              refine bind_eq (z183_0 d) (bind_eq k2 ?_)
              rw [if_neg nb]
        · rw [B_f (fun h => cs h.2)] at eW
          have esh : ¬ (J sh ≤ J 8) := fun h => cs ((J_le (by omega) (by omega) (by omega) (by omega)).mp h)
          refine ⟨J (-1), d, d, ?_, ?_, I⟩
          · refine bind_eq nzb (bind_eq (congrArg some hd) (bind_eq nzb (bind_eq (congrArg some hs) (bind_eq (z0_0 d) (bind_eq e1 ?_)))))
            rw [if_neg n1]
            refine bind_eq e3 ?_
            rw [if_neg n1]
            refine bind_eq e5 ?_
            rw [if_neg n1]
            exact bind_eq eW rfl
          · refine bind_eq nzb (bind_eq (congrArg some hd) (bind_eq nzb (bind_eq (congrArg some hs) (bind_eq (z183_0 d) (bind_eq e2 ?_)))))
            rw [if_neg n1]
            refine bind_eq e4 ?_
            rw [if_neg n1, if_neg ea]
            refine bind_eq eIn ?_
            rw [if_neg n1, if_neg esh]
      · have nst : ¬ (1 ≤ a.tdiv 100 ∧ a.tdiv 100 ≤ 32) := fun h => ca ⟨by
          by_cases h2 : 0 ≤ a
          · have := Int.tdiv_eq_ediv_of_nonneg (b := 100) h2
            omega
          · exfalso
            have : a.tdiv 100 ≤ 0 := by
              have h3 : (-(a.natAbs : Int)).tdiv 100 = -((a.natAbs : Int).tdiv 100) := Int.neg_tdiv _ _
              have h4 : 0 ≤ (a.natAbs : Int).tdiv 100 := Int.tdiv_nonneg (by omega) (by decide)
              have h5 : -(a.natAbs : Int) = a := by omega
              rw [h5] at h3
              omega
            omega, h.2⟩
        rw [B_f nst] at e5
        refine ⟨J (-1), d, d, ?_, ?_, I⟩
        · refine bind_eq nzb (bind_eq (congrArg some hd) (bind_eq nzb (bind_eq (congrArg some hs) (bind_eq (z0_0 d) (bind_eq e1 ?_)))))
          rw [if_neg n1]
          refine bind_eq e3 ?_
          rw [if_neg n1]
          exact bind_eq e5 rfl
        · refine bind_eq nzb (bind_eq (congrArg some hd) (bind_eq nzb (bind_eq (congrArg some hs) (bind_eq (z183_0 d) (bind_eq e2 ?_)))))
          rw [if_neg n1]
          refine bind_eq e4 ?_
          rw [if_neg n1]
          by_cases ea : J a < 0
          · rw [if_pos ea]
          · rw [if_neg ea]
            have eIn : f_X12_isIn (J (a.tdiv 100)).toInt64 (K 1) (K 32) = some (J 0) := by
              have b := B_f nst
              simp (disch := first | omega | assumption | decide) only [b, SN0, SN1, SN2, SN3, SN4, SN5, SN6, SN7, SN8, SN9, SN10, SN11, SN12, SN13, SN14, SN15, SN16, SN17, SN18, SJ0, SJ1, SJ2, SJ3, SJ4, SJ5, bindS, if_pos, if_neg, w_isWithin, w_isIn, JB_0, JB_1, bz_B, ite10, ite01, Int.natCast_add, csN0, csN1, csN16, Int.toNat_natCast, ite_not, not_true_eq_false, not_false_eq_true]
            exact bind_eq eIn rfl
    · rw [B_f ci] at e3 e4
      refine ⟨J (-1), d, d, ?_, ?_, I⟩
      · refine bind_eq nzb (bind_eq (congrArg some hd) (bind_eq nzb (bind_eq (congrArg some hs) (bind_eq (z0_0 d) (bind_eq e1 ?_)))))
        rw [if_neg n1]
        exact bind_eq e3 rfl
      · refine bind_eq nzb (bind_eq (congrArg some hd) (bind_eq nzb (bind_eq (congrArg some hs) (bind_eq (z183_0 d) (bind_eq e2 ?_)))))
        rw [if_neg n1]
        exact bind_eq e4 rfl
  · rw [B_f cg] at e1 e2
    exact ⟨J (-1), d, d, bind_eq nzb (bind_eq (congrArg some hd) (bind_eq nzb (bind_eq (congrArg some hs) (bind_eq (z0_0 d) (bind_eq e1 rfl))))), bind_eq nzb (bind_eq (congrArg some hd) (bind_eq nzb (bind_eq (congrArg some hs) (bind_eq (z183_0 d) (bind_eq e2 rfl))))), I⟩
end
