/-! readBack; the spares; saves and back -/
def flq (w w' : Int → Int) (n : Nat) : Option Nat := srch (fun y => !decide (w y = w' y)) n
def mtS (r w : Int → Int) (n : Nat) (t : Nat) : Bool := (flq (cutN r ((t : Int) - 8) n n) w 16).isNone
def cnS (m : Nat → Bool) : Nat → Nat
  | 0 => 0
  | t + 1 => if m t = true then cnS m t + 1 else cnS m t
theorem cnS_t {m : Nat → Bool} {t : Nat} (h : m t = true) : cnS m (t + 1) = cnS m t + 1 := if_pos h
theorem cnS_f {m : Nat → Bool} {t : Nat} (h : m t = false) : cnS m (t + 1) = cnS m t := if_neg (by rw [h]; decide)
theorem cn_le (m : Nat → Bool) : ∀ t, cnS m t ≤ t
  | 0 => Nat.le_refl 0
  | t + 1 => by
    have := cn_le m t
    unfold cnS
    split <;> omega
theorem B_True [Decidable True] : B True = 1 := B_t trivial
theorem B_False [Decidable False] : B False = 0 := B_f (fun h => h)
section
variable {d : Mem}
theorem c_flank {g g' : Nat} (hg : isG g) (hg' : isG g') (ok : Wok (cw d g)) (ok' : Wok (cw d g')) : f_X0_hasFlankOf (mkH d) g g' = some (J (B ((flq (cw d g) (cw d g') 16).isNone = true))) := by
  have L := iter_srch (b := b_X0_hasFlankOf_2 (mkH d) g g') (fun k => J (k : Int)) (fun y => !decide (cw d g y = cw d g' y)) 16 (s0 := J 0) (e0 := .inl ()) (fun _ => .inr ()) rfl (by decide) (fun k hk hc => ?_) (fun k hk hc => ?_) ?_
  · cases hs : flq (cw d g) (cw d g') 16 with
    | none =>
      unfold flq at hs
      rw [hs] at L
      rw [B_t (show (none : Option Nat).isNone = true from rfl)]
      simp (disch := first | omega | assumption | decide) only [f_X0_hasFlankOf, L, SG0, SG1, SG2, SG3, SG4, SG5, SG6, SG7, SG8, SG9, SG10, SG11, SG12, SN0, SN1, SN2, SN3, SN4, SN5, SN6, SN7, SN8, SN9, SN10, SN11, SN12, SN13, SN14, SN15, SN16, SN17, SN18, SJ0, SJ1, SJ2, SJ3, SJ4, SJ5, bindS, if_pos, if_neg, w_isWithin, w_isIn, JB_0, JB_1, bz_B, ite10, ite01, Int.natCast_add, csN0, csN1, csN16, Int.toNat_natCast, ite_not, not_true_eq_false, not_false_eq_true]
    | some k =>
      unfold flq at hs
      rw [hs] at L
      rw [B_f (by simp)]
      simp (disch := first | omega | assumption | decide) only [f_X0_hasFlankOf, L, SG0, SG1, SG2, SG3, SG4, SG5, SG6, SG7, SG8, SG9, SG10, SG11, SG12, SN0, SN1, SN2, SN3, SN4, SN5, SN6, SN7, SN8, SN9, SN10, SN11, SN12, SN13, SN14, SN15, SN16, SN17, SN18, SJ0, SJ1, SJ2, SJ3, SJ4, SJ5, bindS, if_pos, if_neg, w_isWithin, w_isIn, JB_0, JB_1, bz_B, ite10, ite01, Int.natCast_add, csN0, csN1, csN16, Int.toNat_natCast, ite_not, not_true_eq_false, not_false_eq_true]
  · have q := ok k
    have q' := ok' k
    have e : cw d g k = cw d g' k := by simpa using hc
    simp (disch := first | omega | assumption | decide) only [b_X0_hasFlankOf_2, e, SG0, SG1, SG2, SG3, SG4, SG5, SG6, SG7, SG8, SG9, SG10, SG11, SG12, SN0, SN1, SN2, SN3, SN4, SN5, SN6, SN7, SN8, SN9, SN10, SN11, SN12, SN13, SN14, SN15, SN16, SN17, SN18, SJ0, SJ1, SJ2, SJ3, SJ4, SJ5, bindS, if_pos, if_neg, w_isWithin, w_isIn, JB_0, JB_1, bz_B, ite10, ite01, Int.natCast_add, csN0, csN1, csN16, Int.toNat_natCast, ite_not, not_true_eq_false, not_false_eq_true]
  · have q := ok k
    have q' := ok' k
    have e : ¬ cw d g k = cw d g' k := by simpa using hc
    simp (disch := first | omega | assumption | decide) only [b_X0_hasFlankOf_2, e, SG0, SG1, SG2, SG3, SG4, SG5, SG6, SG7, SG8, SG9, SG10, SG11, SG12, SN0, SN1, SN2, SN3, SN4, SN5, SN6, SN7, SN8, SN9, SN10, SN11, SN12, SN13, SN14, SN15, SN16, SN17, SN18, SJ0, SJ1, SJ2, SJ3, SJ4, SJ5, bindS, if_pos, if_neg, w_isWithin, w_isIn, JB_0, JB_1, bz_B, ite10, ite01, Int.natCast_add, csN0, csN1, csN16, Int.toNat_natCast, ite_not, not_true_eq_false, not_false_eq_true]
  · simp (disch := first | omega | assumption | decide) only [b_X0_hasFlankOf_2, SG0, SG1, SG2, SG3, SG4, SG5, SG6, SG7, SG8, SG9, SG10, SG11, SG12, SN0, SN1, SN2, SN3, SN4, SN5, SN6, SN7, SN8, SN9, SN10, SN11, SN12, SN13, SN14, SN15, SN16, SN17, SN18, SJ0, SJ1, SJ2, SJ3, SJ4, SJ5, bindS, if_pos, if_neg, w_isWithin, w_isIn, JB_0, JB_1, bz_B, ite10, ite01, Int.natCast_add, csN0, csN1, csN16, Int.toNat_natCast, ite_not, not_true_eq_false, not_false_eq_true]
theorem m_flank {g : Int} {a b c e f q : Int32} (g0 : 0 ≤ g) (g1 : g < 12) {w : Int → Int} (hw : ∀ y, 0 ≤ y → y < 16 → d 199 y = w y) (okw : Wok w) (ok : Wok (vw d 185 g)) : iter (b_X12_readBack_78 (mkH d) 183 (J g) a b c e f) FU (J 1, J 0) = some (J (B ((flq w (vw d 185 g) 16).isNone = true))) := by
  refine iter_at (fun k => (J (B ((flq w (vw d 185 g) k).isNone = true)), J (k : Int))) 16 rfl (by decide) (fun k hk => ?_) ?_
  · have x := hw k (by omega) (by omega)
    have q1 := okw k
    have q2 := ok k
    have m := m_widthOf (d := d) (y := k) g0 g1 (by omega) (by omega)
    have un : flq w (vw d 185 g) (k + 1) = match flq w (vw d 185 g) k with
      | some i => some i
      | none => if (!decide (w k = vw d 185 g k)) = true then some k else none := rfl
    rw [un]
    cases hs : flq w (vw d 185 g) k with
    | some i =>
      have e1 : B ((some i : Option Nat).isNone = true) = 0 := B_f (by simp)
      simp only []
      rw [e1]
      simp (disch := first | omega | assumption | decide) only [b_X12_readBack_78, z183_0, z183_1, z183_2, z183_3, z183_4, z183_5, z183_6, z183_7, z183_8, z183_9, z183_10, z183_11, z183_12, z183_13, z183_14, z183_15, z183_16, z183_17, z183_18, z183_19, z183_20, z183_21, z183_22, z183_23, z183_24, z183_25, z183_26, z183_27, z183_28, z183_29, z183_30, z183_31, z183_32, z183_33, z183_34, z183_35, z183_36, z183_37, z183_38, z183_39, z183_40, z183_41, z183_42, z184_0, z184_1, z185_0, z185_1, z186_0, z186_1, z187_0, z187_1, z188_0, z188_1, z189_0, z189_1, z190_0, z190_1, z191_0, z191_1, z192_0, z192_1, z193_0, z193_1, z194_0, z194_1, z195_0, z195_1, z196_0, z196_1, z197_0, z197_1, z198_0, z198_1, z198_2, z199_0, z199_1, z200_0, z200_1, z201_0, z201_1, z202_0, z202_1, SN0, SN1, SN2, SN3, SN4, SN5, SN6, SN7, SN8, SN9, SN10, SN11, SN12, SN13, SN14, SN15, SN16, SN17, SN18, SJ0, SJ1, SJ2, SJ3, SJ4, SJ5, bindS, if_pos, if_neg, w_isWithin, w_isIn, JB_0, JB_1, bz_B, ite10, ite01, Int.natCast_add, csN0, csN1, csN16, Int.toNat_natCast, ite_not, not_true_eq_false, not_false_eq_true]
    | none =>
      have e1 : B ((none : Option Nat).isNone = true) = 1 := B_t rfl
      simp only []
      rw [e1]
      by_cases c1 : w k = vw d 185 g k
      · rw [if_neg (by simp [c1]), e1]
        have b1 : B (vw d 185 g k = vw d 185 g k) = 1 := B_t rfl
        simp (disch := first | omega | assumption | decide) only [b_X12_readBack_78, x, m, c1, b1, B_True, z183_0, z183_1, z183_2, z183_3, z183_4, z183_5, z183_6, z183_7, z183_8, z183_9, z183_10, z183_11, z183_12, z183_13, z183_14, z183_15, z183_16, z183_17, z183_18, z183_19, z183_20, z183_21, z183_22, z183_23, z183_24, z183_25, z183_26, z183_27, z183_28, z183_29, z183_30, z183_31, z183_32, z183_33, z183_34, z183_35, z183_36, z183_37, z183_38, z183_39, z183_40, z183_41, z183_42, z184_0, z184_1, z185_0, z185_1, z186_0, z186_1, z187_0, z187_1, z188_0, z188_1, z189_0, z189_1, z190_0, z190_1, z191_0, z191_1, z192_0, z192_1, z193_0, z193_1, z194_0, z194_1, z195_0, z195_1, z196_0, z196_1, z197_0, z197_1, z198_0, z198_1, z198_2, z199_0, z199_1, z200_0, z200_1, z201_0, z201_1, z202_0, z202_1, SN0, SN1, SN2, SN3, SN4, SN5, SN6, SN7, SN8, SN9, SN10, SN11, SN12, SN13, SN14, SN15, SN16, SN17, SN18, SJ0, SJ1, SJ2, SJ3, SJ4, SJ5, bindS, if_pos, if_neg, w_isWithin, w_isIn, JB_0, JB_1, bz_B, ite10, ite01, Int.natCast_add, csN0, csN1, csN16, Int.toNat_natCast, ite_not, not_true_eq_false, not_false_eq_true]
      · have e2 : B ((some k : Option Nat).isNone = true) = 0 := B_f (by simp)
        rw [if_pos (by simp [c1]), e2]
        simp (disch := first | omega | assumption | decide) only [b_X12_readBack_78, x, m, c1, B_f c1, B_False, z183_0, z183_1, z183_2, z183_3, z183_4, z183_5, z183_6, z183_7, z183_8, z183_9, z183_10, z183_11, z183_12, z183_13, z183_14, z183_15, z183_16, z183_17, z183_18, z183_19, z183_20, z183_21, z183_22, z183_23, z183_24, z183_25, z183_26, z183_27, z183_28, z183_29, z183_30, z183_31, z183_32, z183_33, z183_34, z183_35, z183_36, z183_37, z183_38, z183_39, z183_40, z183_41, z183_42, z184_0, z184_1, z185_0, z185_1, z186_0, z186_1, z187_0, z187_1, z188_0, z188_1, z189_0, z189_1, z190_0, z190_1, z191_0, z191_1, z192_0, z192_1, z193_0, z193_1, z194_0, z194_1, z195_0, z195_1, z196_0, z196_1, z197_0, z197_1, z198_0, z198_1, z198_2, z199_0, z199_1, z200_0, z200_1, z201_0, z201_1, z202_0, z202_1, SN0, SN1, SN2, SN3, SN4, SN5, SN6, SN7, SN8, SN9, SN10, SN11, SN12, SN13, SN14, SN15, SN16, SN17, SN18, SJ0, SJ1, SJ2, SJ3, SJ4, SJ5, bindS, if_pos, if_neg, w_isWithin, w_isIn, JB_0, JB_1, bz_B, ite10, ite01, Int.natCast_add, csN0, csN1, csN16, Int.toNat_natCast, ite_not, not_true_eq_false, not_false_eq_true]
  · simp (disch := first | omega | assumption | decide) only [b_X12_readBack_78, z183_0, z183_1, z183_2, z183_3, z183_4, z183_5, z183_6, z183_7, z183_8, z183_9, z183_10, z183_11, z183_12, z183_13, z183_14, z183_15, z183_16, z183_17, z183_18, z183_19, z183_20, z183_21, z183_22, z183_23, z183_24, z183_25, z183_26, z183_27, z183_28, z183_29, z183_30, z183_31, z183_32, z183_33, z183_34, z183_35, z183_36, z183_37, z183_38, z183_39, z183_40, z183_41, z183_42, z184_0, z184_1, z185_0, z185_1, z186_0, z186_1, z187_0, z187_1, z188_0, z188_1, z189_0, z189_1, z190_0, z190_1, z191_0, z191_1, z192_0, z192_1, z193_0, z193_1, z194_0, z194_1, z195_0, z195_1, z196_0, z196_1, z197_0, z197_1, z198_0, z198_1, z198_2, z199_0, z199_1, z200_0, z200_1, z201_0, z201_1, z202_0, z202_1, SN0, SN1, SN2, SN3, SN4, SN5, SN6, SN7, SN8, SN9, SN10, SN11, SN12, SN13, SN14, SN15, SN16, SN17, SN18, SJ0, SJ1, SJ2, SJ3, SJ4, SJ5, bindS, if_pos, if_neg, w_isWithin, w_isIn, JB_0, JB_1, bz_B, ite10, ite01, Int.natCast_add, csN0, csN1, csN16, Int.toNat_natCast, ite_not, not_true_eq_false, not_false_eq_true]
theorem ag_readBack (I : INV d) (x y u v : Int32) : ∃ r d1 d2, f_X11_readBack (mkH d) 0 x y u v = some (r, mkH d1) ∧ f_X12_readBack (mkH d1) 183 x y u v = some (r, mkH d2) ∧ INV d2 := by
  obtain ⟨g, z1, z2, rfl⟩ := J_of x
  obtain ⟨i, y1, y2, rfl⟩ := J_of y
  obtain ⟨a, a1, a2, rfl⟩ := J_of u
  obtain ⟨w, w1, w2, rfl⟩ := J_of v
  have n1 : ¬ (J 1 = 0) := by decide
  have e1 := c_isGear I.1 z1 z2
  have e2 := m_isGear I.1 z1 z2
  have e3 := c_isShelf y1 y2
  have e4 := m_isShelf y1 y2
  have e5 := c_isSteps a1 a2
  have e6 : f_X12_isIn (J a).toInt64 (K 1) (K 32) = some (J (B (1 ≤ a ∧ a ≤ 32))) := by simp (disch := first | omega | assumption | decide) only [SN0, SN1, SN2, SN3, SN4, SN5, SN6, SN7, SN8, SN9, SN10, SN11, SN12, SN13, SN14, SN15, SN16, SN17, SN18, SJ0, SJ1, SJ2, SJ3, SJ4, SJ5, bindS, if_pos, if_neg, w_isWithin, w_isIn, JB_0, JB_1, bz_B, ite10, ite01, Int.natCast_add, csN0, csN1, csN16, Int.toNat_natCast, ite_not, not_true_eq_false, not_false_eq_true]
  by_cases cwm : w < -1
  · have l1 : ¬ (J (-1) ≤ J w) := by rw [J_le (by omega) (by omega) (by omega) (by omega)]; omega
    have l2 : J w < J (-1) := (J_lt (by omega) (by omega) (by omega) (by omega)).mpr cwm
    refine ⟨J (-1), d, d, ?_, by unfold f_X12_readBack; rw [if_pos l2], I⟩
    refine bind_eq (z0_0 d) (bind_eq e1 ?_)
    split
    · rfl
    · refine bind_eq e3 ?_
      split
      · rfl
      · refine bind_eq e5 ?_
        split
        · rfl
        · first | rfl | rw [if_neg l1]
  · have l1 : J (-1) ≤ J w := (J_le (by omega) (by omega) (by omega) (by omega)).mpr (by omega)
    have l2 : ¬ (J w < J (-1)) := by rw [J_lt (by omega) (by omega) (by omega) (by omega)]; omega
    by_cases cg : 0 ≤ g ∧ g ≤ d 185 1740 - 1
    · rw [B_t cg] at e1 e2
      by_cases ci : 0 ≤ i ∧ i ≤ 7
      · rw [B_t ci] at e3 e4
        by_cases ca : 1 ≤ a ∧ a ≤ 32
        · rw [B_t ca] at e5 e6
          obtain ⟨i0, i7⟩ := ci
          have i8 : i < 8 := by omega
          have S := I.2.2.2.2.1 i i0 i8
          have k1 := c_cutterR S i0 i8
          have k2 := m_wrongCutter S i0 i8
          have hS := isS_A i0 i8
          by_cases ok : cuS d i = 0
          · rw [ok] at k1 k2
            obtain ⟨q1, q2, q3, q4⟩ := cu_ok ok
            obtain ⟨g0, g1⟩ := cg
            obtain ⟨n, hn⟩ : ∃ n : Nat, a = n := ⟨a.toNat, by omega⟩
            subst hn
            have n0 : 1 ≤ n := by omega
            have n32 : n ≤ 32 := by omega
            obtain ⟨p1, p2, p3, p4, p5, p6, p7, p8⟩ := id I.1
            have g12 : g < 12 := by omega
            have hg := isG_1 g0 g12
            have gl := gA_le (p := 1) g0 g12
            have sl := sA_le i0 i8
            obtain ⟨-, -, -, -, gw, -, -, -, -, -, -, okg⟩ := p7 g g0 (by omega)
            have rr : ∀ y, 0 ≤ y → y < 16 → d (sA i + 3) y = d 191 (120 * i + y) := fun y h0 h1 => (S.2.2.2.2.2.2.2.2.2.1 y h0 (by omega)).1
            generalize hr : (fun y => d 191 (120 * i + y)) = r at *
            have hr' : ∀ y, r y = d 191 (120 * i + y) := fun y => by rw [← hr]
            generalize hm : mtS r (vw d 185 g) n = m
            have mt : ∀ t, m t = (flq (cutN r ((t : Int) - 8) n n) (vw d 185 g) 16).isNone := fun t => by rw [← hm]; rfl
            generalize hc : (fun t => m t && decide ((cnS m t : Int) = w)) = C
            have hC : ∀ t, C t = (m t && decide ((cnS m t : Int) = w)) := fun t => by rw [← hc]
            have L1 : ∃ e, iter (b_X11_readBack_56 0 (J g) (J i) (J n) (J w)) FU (J 0, J (-8), mkH d) = some e ∧ ∃ d' : Mem, (∀ x, x ≠ 137 → d' x = d x) ∧ e = (match srch C 17 with
                | some t => .inr (J ((t : Int) - 8), mkH d')
                | none => .inl (J (cnS m 17 : Nat), mkH d')) := by
              refine iter_srE (fun t s => ∃ d', s = (J (cnS m t : Nat), J ((t : Int) - 8), mkH d') ∧ ∀ x, x ≠ 137 → d' x = d x) C 17 (fun (o : Option Nat) (e : (Int32 × Hp) ⊕ (Int32 × Hp)) => ∃ d' : Mem, (∀ x, x ≠ 137 → d' x = d x) ∧ e = (match o with
                | some t => .inr (J ((t : Int) - 8), mkH d')
                | none => .inl (J (cnS m 17 : Nat), mkH d'))) (by decide) ⟨d, rfl, fun _ _ => rfl⟩ ?_ ?_ ?_
              · rintro t s ht ⟨d', rfl, h1⟩ hct
                have kc := c_cutBy (d := d') (g := 136) (e := sA i + 3) (sh := (t : Int) - 8) (n := n) isG_136 hS.2 (by omega) (fun y y0 y1 => by rw [h1 _ (by omega), rr y y0 y1]; exact q4 y y0 y1) (by omega) (by omega) n0 n32
                rw [cutN_cong (r' := r) (fun y y0 y1 => by rw [h1 _ (by omega), rr y y0 y1, hr']) n] at kc
                obtain ⟨d'', hd⟩ : ∃ d'', d'' = fl d' (136 + 1) 0 16 (cutN r ((t : Int) - 8) n n) := ⟨_, rfl⟩
                rw [← hd] at kc
                have h2 : ∀ x, x ≠ 137 → d'' x = d x := fun x hx => by rw [hd, fl_row hx, h1 x hx]
                have c136 : cw d'' 136 = cutN r ((t : Int) - 8) n n := by rw [hd, cw_fl, cutN_tr]
                have cg : cw d'' (gA 1 g) = vw d 185 g := by rw [cw_row (h2 _ (by omega)), gw]
                have kf := c_flank (d := d'') isG_136 hg (by rw [c136]; exact cutN_rng n) (by rw [cg]; exact okg)
                rw [c136, cg, ← mt t] at kf
                have cl := cn_le m t
                rw [hC t] at hct
                have es : (t : Int) - 8 + 1 = ((t + 1 : Nat) : Int) - 8 := by omega
                refine ⟨(J (cnS m (t + 1) : Nat), J (((t + 1 : Nat) : Int) - 8), mkH d''), ?_, d'', rfl, h2⟩
                have l8 : ¬ (J 8 < J ((t : Int) - 8)) := by rw [J_lt (by omega) (by omega) (by omega) (by omega)]; omega
                show (if J 8 < J ((t : Int) - 8) then _ else _) = _
                rw [if_neg l8]
                refine bind_eq (q_gR rfl rfl) (bind_eq (q_gR rfl rfl) (bind_eq (z124_0 d' i i0 i8) (bind_eq (SS5 d' _ hS) (bind_eq (q_isO rfl) (bind_eq kc ?_)))))
                refine bind_eq (q_gR rfl rfl) (bind_eq (q_gR rfl rfl) (bind_eq (q_gR rfl rfl) (bind_eq (z2_0 d'' g g0 g12) (bind_eq (q_isO rfl) (bind_eq kf ?_)))))
                cases hmt : m t with
                | false =>
                  rw [if_pos (by rfl)]
                  refine bind_eq rfl ?_
                  rw [J_add, es]
                  show some (Sum.inl (J (cnS m t : Nat), _, _)) = _
                  rw [cnS_f hmt]
                | true =>
                  rw [hmt] at hct
                  have hne : ¬ ((cnS m t : Nat) : Int) = w := by simpa using hct
                  rw [if_neg (by decide), if_neg (by show ¬ J (cnS m t : Nat) = J w; rw [J_eq (by omega) (by omega) (by omega) (by omega)]; exact hne)]
                  refine bind_eq rfl (bind_eq rfl ?_)
                  rw [J_add, J_add, es]
                  rw [cnS_t hmt]
                  rfl
              · rintro t s ht ⟨d', rfl, h1⟩ hct
                have kc := c_cutBy (d := d') (g := 136) (e := sA i + 3) (sh := (t : Int) - 8) (n := n) isG_136 hS.2 (by omega) (fun y y0 y1 => by rw [h1 _ (by omega), rr y y0 y1]; exact q4 y y0 y1) (by omega) (by omega) n0 n32
                rw [cutN_cong (r' := r) (fun y y0 y1 => by rw [h1 _ (by omega), rr y y0 y1, hr']) n] at kc
                obtain ⟨d'', hd⟩ : ∃ d'', d'' = fl d' (136 + 1) 0 16 (cutN r ((t : Int) - 8) n n) := ⟨_, rfl⟩
                rw [← hd] at kc
                have h2 : ∀ x, x ≠ 137 → d'' x = d x := fun x hx => by rw [hd, fl_row hx, h1 x hx]
                have c136 : cw d'' 136 = cutN r ((t : Int) - 8) n n := by rw [hd, cw_fl, cutN_tr]
                have cg : cw d'' (gA 1 g) = vw d 185 g := by rw [cw_row (h2 _ (by omega)), gw]
                have kf := c_flank (d := d'') isG_136 hg (by rw [c136]; exact cutN_rng n) (by rw [cg]; exact okg)
                rw [c136, cg, ← mt t] at kf
                have cl := cn_le m t
                rw [hC t, Bool.and_eq_true, decide_eq_true_eq] at hct
                rw [B_t hct.1] at kf
                refine ⟨_, ?_, d'', h2, rfl⟩
                have l8 : ¬ (J 8 < J ((t : Int) - 8)) := by rw [J_lt (by omega) (by omega) (by omega) (by omega)]; omega
                show (if J 8 < J ((t : Int) - 8) then _ else _) = _
                rw [if_neg l8]
                refine bind_eq (q_gR rfl rfl) (bind_eq (q_gR rfl rfl) (bind_eq (z124_0 d' i i0 i8) (bind_eq (SS5 d' _ hS) (bind_eq (q_isO rfl) (bind_eq kc ?_)))))
                refine bind_eq (q_gR rfl rfl) (bind_eq (q_gR rfl rfl) (bind_eq (q_gR rfl rfl) (bind_eq (z2_0 d'' g g0 g12) (bind_eq (q_isO rfl) (bind_eq kf ?_)))))
                rw [if_neg n1, if_pos (by show J (cnS m t : Nat) = J w; rw [hct.2])]
              · rintro s ⟨d', rfl, h1⟩
                exact ⟨_, by simp (disch := first | omega | assumption | decide) only [b_X11_readBack_56, z0_0, z0_1, z0_2, z0_3, z0_4, z0_5, z0_6, z0_7, z0_8, z0_9, z0_10, z0_11, z0_12, z0_13, z0_14, z0_15, z0_16, z0_17, z1_0, z1_1, z1_2, z1_3, z1_4, z1_5, z1_6, z1_7, z1_8, z2_0, z3_0, z3_1, z4_0, z4_1, z5_0, z5_1, z124_0, SG0, SG1, SG2, SG3, SG4, SG5, SG6, SG7, SG8, SG9, SG10, SG11, SG12, SS0, SS1, SS2, SS3, SS4, SS5, SS6, SS7, SS8, SS9, SS10, SS11, z30_0, z30_1, z30_2, z30_3, z30_4, z30_5, z30_6, z30_7, z30_8, z59_0, z59_1, z59_2, z59_3, z59_4, z62_0, z62_1, z62_2, z62_3, z62_4, z63_0, z76_0, z76_1, z125_0, z125_1, z125_2, z125_3, z125_4, z125_5, z125_6, z125_7, z125_8, z125_9, z125_10, z125_11, z125_12, z125_13, z128_0, z128_1, z128_2, z128_3, z128_4, z128_5, z128_6, z128_7, z128_8, z128_9, z130_0, z130_1, z131_0, z131_1, z131_2, z131_3, z131_4, z131_5, z131_6, z131_7, z131_8, z140_0, z140_1, z140_2, z140_3, z140_4, z140_5, z140_6, z140_7, z145_0, z145_1, z146_0, z146_1, z146_2, z146_3, z146_4, z146_5, z146_6, z146_7, z146_8, z146_9, z146_10, z146_11, z146_12, z146_13, z146_14, SN0, SN1, SN2, SN3, SN4, SN5, SN6, SN7, SN8, SN9, SN10, SN11, SN12, SN13, SN14, SN15, SN16, SN17, SN18, SJ0, SJ1, SJ2, SJ3, SJ4, SJ5, bindS, if_pos, if_neg, w_isWithin, w_isIn, JB_0, JB_1, bz_B, ite10, ite01, Int.natCast_add, csN0, csN1, csN16, Int.toNat_natCast, ite_not, not_true_eq_false, not_false_eq_true], d', h1, rfl⟩
            obtain ⟨e, L2, d1, h1, he⟩ := L1
            have e185 : d1 185 = d 185 := h1 185 (by decide)
            have x1740 : d1 185 1740 = d 185 1740 := by rw [e185]
            have e2' : f_X12_isGear (mkH d1) 183 (J g) = some (J 1) := by
              have b := B_t (p := 0 ≤ g ∧ g ≤ d 185 1740 - 1) ⟨g0, g1⟩
              simp (disch := first | omega | assumption | decide) only [f_X12_isGear, x1740, b, z183_0, z183_1, z183_2, z183_3, z183_4, z183_5, z183_6, z183_7, z183_8, z183_9, z183_10, z183_11, z183_12, z183_13, z183_14, z183_15, z183_16, z183_17, z183_18, z183_19, z183_20, z183_21, z183_22, z183_23, z183_24, z183_25, z183_26, z183_27, z183_28, z183_29, z183_30, z183_31, z183_32, z183_33, z183_34, z183_35, z183_36, z183_37, z183_38, z183_39, z183_40, z183_41, z183_42, z184_0, z184_1, z185_0, z185_1, z186_0, z186_1, z187_0, z187_1, z188_0, z188_1, z189_0, z189_1, z190_0, z190_1, z191_0, z191_1, z192_0, z192_1, z193_0, z193_1, z194_0, z194_1, z195_0, z195_1, z196_0, z196_1, z197_0, z197_1, z198_0, z198_1, z198_2, z199_0, z199_1, z200_0, z200_1, z201_0, z201_1, z202_0, z202_1, SN0, SN1, SN2, SN3, SN4, SN5, SN6, SN7, SN8, SN9, SN10, SN11, SN12, SN13, SN14, SN15, SN16, SN17, SN18, SJ0, SJ1, SJ2, SJ3, SJ4, SJ5, bindS, if_pos, if_neg, w_isWithin, w_isIn, JB_0, JB_1, bz_B, ite10, ite01, Int.natCast_add, csN0, csN1, csN16, Int.toNat_natCast, ite_not, not_true_eq_false, not_false_eq_true]
            have S1 : SH d1 i := SH_rows (h1 _ (by omega)) (h1 _ (by omega)) (h1 _ (by omega)) (h1 _ (by omega)) (congrFun (h1 188 (by omega)) i) (congrFun (h1 189 (by omega)) i) (congrFun (h1 190 (by omega)) i) (fun k _ _ => congrFun (h1 191 (by omega)) _) (congrFun (h1 192 (by omega)) i) (congrFun (h1 193 (by omega)) i) S
            have k2' := m_wrongCutter S1 i0 i8
            have cu1 : cuS d1 i = 0 := by
              have e8 := h1 188 (by omega)
              have e9 := h1 189 (by omega)
              have e0 := h1 190 (by omega)
              have e1 := h1 191 (by omega)
              rw [← ok]
              unfold cuS allS
              rw [e8, e9, e0, e1]
            rw [cu1] at k2'
            have M1 : ∃ e, iter (b_X12_readBack_57 183 (J g) (J i) (J n) (J w)) FU (J 0, J (-8), mkH d1) = some e ∧ ∃ d' : Mem, (∀ x, x ≠ 199 → d' x = d1 x) ∧ e = (match srch C 17 with
                | some t => .inr (J ((t : Int) - 8), mkH d')
                | none => .inl (J (cnS m 17 : Nat), mkH d')) := by
              refine iter_srE (fun t s => ∃ d', s = (J (cnS m t : Nat), J ((t : Int) - 8), mkH d') ∧ ∀ x, x ≠ 199 → d' x = d1 x) C 17 (fun (o : Option Nat) (e : (Int32 × Hp) ⊕ (Int32 × Hp)) => ∃ d' : Mem, (∀ x, x ≠ 199 → d' x = d1 x) ∧ e = (match o with
                | some t => .inr (J ((t : Int) - 8), mkH d')
                | none => .inl (J (cnS m 17 : Nat), mkH d'))) (by decide) ⟨d1, rfl, fun _ _ => rfl⟩ ?_ ?_ ?_
              · rintro t s ht ⟨d', rfl, h3⟩ hct
                have x191 : ∀ y, d' 191 y = d 191 y := fun y => by rw [h3 191 (by decide), h1 191 (by decide)]
                have kd := m_cuts (d := d') (i := i) (sh := (t : Int) - 8) (n := n) i0 i8 (fun y y0 y1 => by rw [x191]; exact q4 y y0 y1) (by omega) (by omega) n0 n32
                rw [show (fun y => d' 191 (120 * i + y)) = r from by rw [← hr]; exact funext fun y => x191 _] at kd
                obtain ⟨d'', hd⟩ : ∃ d'', d'' = fl d' 199 0 16 (cutN r ((t : Int) - 8) n n) := ⟨_, rfl⟩
                rw [← hd] at kd
                have h4 : ∀ x, x ≠ 199 → d'' x = d1 x := fun x hx => by rw [hd, fl_row hx, h3 x hx]
                have vv : vw d'' 185 g = vw d 185 g := by rw [vw_row (h4 185 (by decide)), vw_row e185]
                have kf := fun a b c e f => m_flank (d := d'') (a := a) (b := b) (c := c) (e := e) (f := f) (q := 0) g0 g12 (w := cutN r ((t : Int) - 8) n n) (fun y y0 y1 => by rw [hd]; exact fl_in y0 (by omega)) (cutN_rng n) (by rw [vv]; exact okg)
                simp only [vv, ← mt t] at kf
                have cl := cn_le m t
                rw [hC t] at hct
                have es : (t : Int) - 8 + 1 = ((t + 1 : Nat) : Int) - 8 := by omega
                refine ⟨(J (cnS m (t + 1) : Nat), J (((t + 1 : Nat) : Int) - 8), mkH d''), ?_, d'', rfl, h4⟩
                have l8 : ¬ (J 8 < J ((t : Int) - 8)) := by rw [J_lt (by omega) (by omega) (by omega) (by omega)]; omega
                show (if J 8 < J ((t : Int) - 8) then _ else _) = _
                rw [if_neg l8]
                refine bind_eq (z183_0 d') (bind_eq kd (bind_eq rfl (bind_eq rfl (bind_eq (kf _ _ _ _ _) ?_))))
                cases hmt : m t with
                | false =>
                  rw [if_pos (by rfl)]
                  refine bind_eq rfl ?_
                  rw [J_add, es]
                  rw [cnS_f hmt]
                | true =>
                  rw [hmt] at hct
                  have hne : ¬ ((cnS m t : Nat) : Int) = w := by simpa using hct
                  rw [if_neg (by decide), if_neg (by show ¬ J (cnS m t : Nat) = J w; rw [J_eq (by omega) (by omega) (by omega) (by omega)]; exact hne)]
                  refine bind_eq rfl (bind_eq rfl ?_)
                  rw [J_add, J_add, es]
                  rw [cnS_t hmt]
                  rfl
              · rintro t s ht ⟨d', rfl, h3⟩ hct
                have x191 : ∀ y, d' 191 y = d 191 y := fun y => by rw [h3 191 (by decide), h1 191 (by decide)]
                have kd := m_cuts (d := d') (i := i) (sh := (t : Int) - 8) (n := n) i0 i8 (fun y y0 y1 => by rw [x191]; exact q4 y y0 y1) (by omega) (by omega) n0 n32
                rw [show (fun y => d' 191 (120 * i + y)) = r from by rw [← hr]; exact funext fun y => x191 _] at kd
                obtain ⟨d'', hd⟩ : ∃ d'', d'' = fl d' 199 0 16 (cutN r ((t : Int) - 8) n n) := ⟨_, rfl⟩
                rw [← hd] at kd
                have h4 : ∀ x, x ≠ 199 → d'' x = d1 x := fun x hx => by rw [hd, fl_row hx, h3 x hx]
                have vv : vw d'' 185 g = vw d 185 g := by rw [vw_row (h4 185 (by decide)), vw_row e185]
                have kf := fun a b c e f => m_flank (d := d'') (a := a) (b := b) (c := c) (e := e) (f := f) (q := 0) g0 g12 (w := cutN r ((t : Int) - 8) n n) (fun y y0 y1 => by rw [hd]; exact fl_in y0 (by omega)) (cutN_rng n) (by rw [vv]; exact okg)
                simp only [vv, ← mt t] at kf
                have cl := cn_le m t
                rw [hC t, Bool.and_eq_true, decide_eq_true_eq] at hct
                simp only [B_t hct.1] at kf
                refine ⟨_, ?_, d'', h4, rfl⟩
                have l8 : ¬ (J 8 < J ((t : Int) - 8)) := by rw [J_lt (by omega) (by omega) (by omega) (by omega)]; omega
                show (if J 8 < J ((t : Int) - 8) then _ else _) = _
                rw [if_neg l8]
                refine bind_eq (z183_0 d') (bind_eq kd (bind_eq rfl (bind_eq rfl (bind_eq (kf _ _ _ _ _) ?_))))
                rw [if_neg n1, if_pos (by show J (cnS m t : Nat) = J w; rw [hct.2])]
              · rintro s ⟨d', rfl, h3⟩
                exact ⟨_, by simp (disch := first | omega | assumption | decide) only [b_X12_readBack_57, z183_0, z183_1, z183_2, z183_3, z183_4, z183_5, z183_6, z183_7, z183_8, z183_9, z183_10, z183_11, z183_12, z183_13, z183_14, z183_15, z183_16, z183_17, z183_18, z183_19, z183_20, z183_21, z183_22, z183_23, z183_24, z183_25, z183_26, z183_27, z183_28, z183_29, z183_30, z183_31, z183_32, z183_33, z183_34, z183_35, z183_36, z183_37, z183_38, z183_39, z183_40, z183_41, z183_42, z184_0, z184_1, z185_0, z185_1, z186_0, z186_1, z187_0, z187_1, z188_0, z188_1, z189_0, z189_1, z190_0, z190_1, z191_0, z191_1, z192_0, z192_1, z193_0, z193_1, z194_0, z194_1, z195_0, z195_1, z196_0, z196_1, z197_0, z197_1, z198_0, z198_1, z198_2, z199_0, z199_1, z200_0, z200_1, z201_0, z201_1, z202_0, z202_1, SN0, SN1, SN2, SN3, SN4, SN5, SN6, SN7, SN8, SN9, SN10, SN11, SN12, SN13, SN14, SN15, SN16, SN17, SN18, SJ0, SJ1, SJ2, SJ3, SJ4, SJ5, bindS, if_pos, if_neg, w_isWithin, w_isIn, JB_0, JB_1, bz_B, ite10, ite01, Int.natCast_add, csN0, csN1, csN16, Int.toNat_natCast, ite_not, not_true_eq_false, not_false_eq_true], d', h3, rfl⟩
            obtain ⟨e', M2, d2, h5, he'⟩ := M1
            have I2 : INV d2 := INV_fr I (fun x k sc => by
              rw [h5 x (fun e => sc (by unfold Sc; omega)), h1 x (fun e => sc (by unfold Sc; omega))])
            have cl := cn_le m 17
            cases hs : srch C 17 with
            | some t =>
              rw [hs] at he he'
              subst he he'
              have t17 := (srch_lt hs).1
              refine ⟨J ((t : Int) - 8 + 8), d1, d2, ?_, ?_, I2⟩
              · refine bind_eq (z0_0 d) (bind_eq e1 ?_)
                rw [if_neg n1]
                refine bind_eq e3 ?_
                rw [if_neg n1]
                refine bind_eq e5 ?_
                rw [if_neg n1, if_pos l1]
                refine bind_eq (q_gR rfl rfl) (bind_eq (z124_0 d i i0 i8) (bind_eq (SS0 d _ hS) (bind_eq k1 ?_)))
                rw [if_pos (by rfl)]
                refine bind_eq rfl (bind_eq rfl (bind_eq L2 ?_))
                rw [← J_add]
              · unfold f_X12_readBack
                rw [if_neg l2]
                refine bind_eq (z183_0 d1) (bind_eq e2' ?_)
                rw [if_neg n1]
                refine bind_eq e4 ?_
                rw [if_neg n1]
                refine bind_eq e6 ?_
                rw [if_neg n1]
                refine bind_eq (z183_0 d1) (bind_eq k2' ?_)
                rw [if_pos (by rfl)]
                refine bind_eq rfl (bind_eq rfl (bind_eq M2 ?_))
                rw [← J_add]
            | none =>
              rw [hs] at he he'
              subst he he'
              by_cases cw1 : w = -1
              · refine ⟨J (cnS m 17 : Nat), d1, d2, ?_, ?_, I2⟩
                · refine bind_eq (z0_0 d) (bind_eq e1 ?_)
                  rw [if_neg n1]
                  refine bind_eq e3 ?_
                  rw [if_neg n1]
                  refine bind_eq e5 ?_
                  rw [if_neg n1, if_pos l1]
                  refine bind_eq (q_gR rfl rfl) (bind_eq (z124_0 d i i0 i8) (bind_eq (SS0 d _ hS) (bind_eq k1 ?_)))
                  rw [if_pos (by rfl)]
                  refine bind_eq rfl (bind_eq rfl (bind_eq L2 ?_))
                  show Option.bind (if J w = J (-1) then _ else _) _ = _
                  rw [if_pos (by rw [cw1])]
                  rfl
                · unfold f_X12_readBack
                  rw [if_neg l2]
                  refine bind_eq (z183_0 d1) (bind_eq e2' ?_)
                  rw [if_neg n1]
                  refine bind_eq e4 ?_
                  rw [if_neg n1]
                  refine bind_eq e6 ?_
                  rw [if_neg n1]
                  refine bind_eq (z183_0 d1) (bind_eq k2' ?_)
                  rw [if_pos (by rfl)]
                  refine bind_eq rfl (bind_eq rfl (bind_eq M2 ?_))
                  show Option.bind (if 0 ≤ J w then _ else _) _ = _
                  rw [if_neg (by rw [cw1]; decide)]
                  rfl
              · refine ⟨J (-4), d1, d2, ?_, ?_, I2⟩
                · refine bind_eq (z0_0 d) (bind_eq e1 ?_)
                  rw [if_neg n1]
                  refine bind_eq e3 ?_
                  rw [if_neg n1]
                  refine bind_eq e5 ?_
                  rw [if_neg n1, if_pos l1]
                  refine bind_eq (q_gR rfl rfl) (bind_eq (z124_0 d i i0 i8) (bind_eq (SS0 d _ hS) (bind_eq k1 ?_)))
                  rw [if_pos (by rfl)]
                  refine bind_eq rfl (bind_eq rfl (bind_eq L2 ?_))
                  show Option.bind (if J w = J (-1) then _ else _) _ = _
                  rw [if_neg (by rw [J_eq (by omega) (by omega) (by omega) (by omega)]; exact cw1)]
                  rfl
                · unfold f_X12_readBack
                  rw [if_neg l2]
                  refine bind_eq (z183_0 d1) (bind_eq e2' ?_)
                  rw [if_neg n1]
                  refine bind_eq e4 ?_
                  rw [if_neg n1]
                  refine bind_eq e6 ?_
                  rw [if_neg n1]
                  refine bind_eq (z183_0 d1) (bind_eq k2' ?_)
                  rw [if_pos (by rfl)]
                  refine bind_eq rfl (bind_eq rfl (bind_eq M2 ?_))
                  show Option.bind (if 0 ≤ J w then _ else _) _ = _
                  rw [if_pos (by rw [J_zero, J_le (by omega) (by omega) (by omega) (by omega)]; omega)]
                  rfl
          · have nb : ¬ (J (cuS d i) = 0) := by
              rcases cu_rng (d := d) (i := i) with h | h | h | h
              · exact absurd h ok
              · rw [h]; decide
              · rw [h]; decide
              · rw [h]; decide
            refine ⟨J (cuS d i), d, d, ?_, ?_, I⟩
            · refine bind_eq (z0_0 d) (bind_eq e1 ?_)
              rw [if_neg n1]
              refine bind_eq e3 ?_
              rw [if_neg n1]
              refine bind_eq e5 ?_
              rw [if_neg n1, if_pos l1]
              refine bind_eq (q_gR rfl rfl) (bind_eq (z124_0 d i i0 i8) (bind_eq (SS0 d _ hS) (bind_eq k1 ?_)))
              rw [if_neg nb]
            · unfold f_X12_readBack
              rw [if_neg l2]
              refine bind_eq (z183_0 d) (bind_eq e2 ?_)
              rw [if_neg n1]
              refine bind_eq e4 ?_
              rw [if_neg n1]
              refine bind_eq e6 ?_
              rw [if_neg n1]
              refine bind_eq (z183_0 d) (bind_eq k2 ?_)
              rw [if_neg nb]
        · rw [B_f ca] at e5 e6
          refine ⟨J (-1), d, d, ?_, ?_, I⟩
          · refine bind_eq (z0_0 d) (bind_eq e1 ?_)
            rw [if_neg n1]
            refine bind_eq e3 ?_
            rw [if_neg n1]
            exact bind_eq e5 rfl
          · unfold f_X12_readBack
            rw [if_neg l2]
            refine bind_eq (z183_0 d) (bind_eq e2 ?_)
            rw [if_neg n1]
            refine bind_eq e4 ?_
            rw [if_neg n1]
            exact bind_eq e6 rfl
      · rw [B_f ci] at e3 e4
        refine ⟨J (-1), d, d, ?_, ?_, I⟩
        · refine bind_eq (z0_0 d) (bind_eq e1 ?_)
          rw [if_neg n1]
          exact bind_eq e3 rfl
        · unfold f_X12_readBack
          rw [if_neg l2]
          refine bind_eq (z183_0 d) (bind_eq e2 ?_)
          rw [if_neg n1]
          exact bind_eq e4 rfl
    · rw [B_f cg] at e1 e2
      refine ⟨J (-1), d, d, bind_eq (z0_0 d) (bind_eq e1 rfl), ?_, I⟩
      unfold f_X12_readBack
      rw [if_neg l2]
      exact bind_eq (z183_0 d) (bind_eq e2 rfl)
end
