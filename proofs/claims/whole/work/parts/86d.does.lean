/-! what a statement does to the plant, told of the reference's row w -/
def btS (w : Int → Int) (a b : Int) : Option Nat := srch (fun i => decide (w (228 + 3 * (i : Int) + 0) = a ∧ w (228 + 3 * (i : Int) + 1) = b ∨ w (228 + 3 * (i : Int) + 0) = b ∧ w (228 + 3 * (i : Int) + 1) = a)) (w 1741).toNat
def nwG (f w : Int → Int) : Int → Int := fun k => if k = 1740 then w 1740 + 1 else if 19 * w 1740 ≤ k ∧ k < 19 * w 1740 + 19 then (if k < 19 * w 1740 + 3 then f (k - 19 * w 1740) else 31) else w k
def nwM (f w : Int → Int) : Int → Int := fun k => if k = 1741 then w 1741 + 1 else if k = 228 + 3 * w 1741 + 2 then 62 else if k = 228 + 3 * w 1741 + 1 then f 1 else if k = 228 + 3 * w 1741 + 0 then f 0 else w k
def okG (f w : Int → Int) : Bool := decide (f 0 ≤ 4 ∧ 4 ≤ f 1 ∧ f 2 ≤ 7 ∧ w 1740 < 12)
def okM (f w : Int → Int) : Bool := decide (f 0 < w 1740 ∧ f 1 < w 1740 ∧ f 0 ≠ f 1 ∧ ¬ (w (19 * f 0) = 4 ∧ w (19 * f 1) = 4) ∧ w 1741 < 16) && (btS w (f 0) (f 1)).isNone
def doS (l : Int) (f w : Int → Int) : Option (Int → Int) := if l = 103 then (if okG f w = true then some (nwG f w) else none) else if l = 109 then (if okM f w = true then some (nwM f w) else none) else match btS w (f 0) (f 1) with
  | none => none
  | some m => if f 2 ≤ 62 then some (fun k => if k = 228 + 3 * (m : Int) + 2 then f 2 else w k) else none
theorem do_ind {l : Int} {f g w : Int → Int} (h : ∀ k, 0 ≤ k → k < (wnt l : Int) → f k = g k) : doS l f w = doS l g w := by
  have h0 : f 0 = g 0 := h 0 (by decide) (by unfold wnt; split <;> omega)
  have h1 : f 1 = g 1 := h 1 (by decide) (by unfold wnt; split <;> omega)
  unfold doS okG okM nwM
  rw [h0, h1]
  by_cases c : l = 103
  · have h2 : f 2 = g 2 := h 2 (by decide) (by unfold wnt; split <;> omega)
    rw [if_pos c, if_pos c, h2]
    have e : nwG f w = nwG g w := by
      funext k
      unfold nwG
      split
      · rfl
      · split
        · split
          · exact h _ (by omega) (by unfold wnt; split <;> omega)
          · rfl
        · rfl
    rw [e]
  · rw [if_neg c, if_neg c]
    by_cases c2 : l = 109
    · rw [if_pos c2, if_pos c2]
    · have h2 : f 2 = g 2 := h 2 (by decide) (by unfold wnt; split <;> omega)
      rw [if_neg c2, if_neg c2, h2]
/-- the plant p of the class tells the row r -/
abbrev PLn (d : Mem) (p r : Nat) : Prop := PL d p (p + 2) (p + 3) (p + 4) r
section
variable {d : Mem} {r : Nat}
theorem c_meshOf (P : PL d 30 32 33 34 r) {a b : Int} (a0 : 0 ≤ a) (a1 : a ≤ 99) (b0 : 0 ≤ b) (b1 : b ≤ 99) : f_X3_meshOf (mkH d) 30 (J a) (J b) = some (J (match btS (d r) a b with
    | some i => (i : Int)
    | none => -4)) := by
  obtain ⟨p1, p2, p3, p4, p5, p6, p7, p8⟩ := P
  obtain ⟨N, hN⟩ : ∃ N : Nat, d r 1741 = N := ⟨(d r 1741).toNat, by omega⟩
  have hNt : (d r 1741).toNat = N := by omega
  have L := iter_srch (b := b_X3_meshOf_2 (mkH d) 30 (J a) (J b)) (fun i => J (i : Int)) (fun i => decide (d r (228 + 3 * (i : Int) + 0) = a ∧ d r (228 + 3 * (i : Int) + 1) = b ∨ d r (228 + 3 * (i : Int) + 0) = b ∧ d r (228 + 3 * (i : Int) + 1) = a)) N (s0 := J 0) (e0 := .inl ()) (fun i => .inr (J i)) rfl (by omega) (fun i hi hc => ?_) (fun i hi hc => ?_) ?_
  · unfold btS
    rw [hNt]
    cases hs : srch (fun i => decide (d r (228 + 3 * (i : Int) + 0) = a ∧ d r (228 + 3 * (i : Int) + 1) = b ∨ d r (228 + 3 * (i : Int) + 0) = b ∧ d r (228 + 3 * (i : Int) + 1) = a)) N with
    | none =>
      rw [hs] at L
      simp (disch := first | omega | assumption | decide) only [f_X3_meshOf, L, z1_0, z1_1, z1_2, z1_3, z1_4, z1_5, z1_6, z1_7, z1_8, z2_0, z3_0, z3_1, z4_0, z4_1, z5_0, z5_1, z30_0, z30_1, z30_2, z30_3, z30_4, z30_5, z30_6, z30_7, z30_8, z31_0, z32_0, z32_1, z33_0, z33_1, z34_0, z34_1, z77_0, z77_1, z77_2, z77_3, z77_4, z77_5, z77_6, z77_7, z77_8, z78_0, z79_0, z79_1, z80_0, z80_1, z81_0, z81_1, SG0, SG1, SG2, SG3, SG4, SG5, SG6, SG7, SG8, SG9, SG10, SG11, SG12, SN0, SN1, SN2, SN3, SN4, SN5, SN6, SN7, SN8, SN9, SN10, SN11, SN12, SN13, SN14, SN15, SN16, SN17, SN18, SJ0, SJ1, SJ2, SJ3, SJ4, SJ5, bindS, if_pos, if_neg, w_isWithin, w_isIn, JB_0, JB_1, bz_B, ite10, ite01, Int.natCast_add, csN0, csN1, csN16, Int.toNat_natCast, ite_not, not_true_eq_false, not_false_eq_true]
    | some n =>
      rw [hs] at L
      simp (disch := first | omega | assumption | decide) only [f_X3_meshOf, L, z1_0, z1_1, z1_2, z1_3, z1_4, z1_5, z1_6, z1_7, z1_8, z2_0, z3_0, z3_1, z4_0, z4_1, z5_0, z5_1, z30_0, z30_1, z30_2, z30_3, z30_4, z30_5, z30_6, z30_7, z30_8, z31_0, z32_0, z32_1, z33_0, z33_1, z34_0, z34_1, z77_0, z77_1, z77_2, z77_3, z77_4, z77_5, z77_6, z77_7, z77_8, z78_0, z79_0, z79_1, z80_0, z80_1, z81_0, z81_1, SG0, SG1, SG2, SG3, SG4, SG5, SG6, SG7, SG8, SG9, SG10, SG11, SG12, SN0, SN1, SN2, SN3, SN4, SN5, SN6, SN7, SN8, SN9, SN10, SN11, SN12, SN13, SN14, SN15, SN16, SN17, SN18, SJ0, SJ1, SJ2, SJ3, SJ4, SJ5, bindS, if_pos, if_neg, w_isWithin, w_isIn, JB_0, JB_1, bz_B, ite10, ite01, Int.natCast_add, csN0, csN1, csN16, Int.toNat_natCast, ite_not, not_true_eq_false, not_false_eq_true]
  · have hc := of_decide_eq_false hc
    obtain ⟨m0, m1, m2, x0, x1, y0, y1, ne, -, -⟩ := p8 i (by omega) (by omega)
    generalize d r (228 + 3 * (i : Int) + 0) = A at *
    generalize d r (228 + 3 * (i : Int) + 1) = Bb at *
    by_cases h1 : A = a
    · by_cases h2 : A = b
      · have h3 : ¬ Bb = b := by omega
        have h4 : ¬ Bb = a := by omega
        simp (disch := first | omega | assumption | decide) only [b_X3_meshOf_2, p2, hN, m0, m1, z30_0, z30_1, z30_2, z30_3, z30_4, z30_5, z30_6, z30_7, z30_8, z32_0, z32_1, z33_0, z33_1, z1_0, z1_1, z1_2, z1_3, z1_4, z1_5, z1_6, z1_7, z1_8, z2_0, z3_0, z3_1, z4_0, z4_1, z5_0, z5_1, z31_0, z34_0, z34_1, z77_0, z77_1, z77_2, z77_3, z77_4, z77_5, z77_6, z77_7, z77_8, z78_0, z79_0, z79_1, z80_0, z80_1, z81_0, z81_1, SG0, SG1, SG2, SG3, SG4, SG5, SG6, SG7, SG8, SG9, SG10, SG11, SG12, SN0, SN1, SN2, SN3, SN4, SN5, SN6, SN7, SN8, SN9, SN10, SN11, SN12, SN13, SN14, SN15, SN16, SN17, SN18, SJ0, SJ1, SJ2, SJ3, SJ4, SJ5, bindS, if_pos, if_neg, w_isWithin, w_isIn, JB_0, JB_1, bz_B, ite10, ite01, Int.natCast_add, csN0, csN1, csN16, Int.toNat_natCast, ite_not, not_true_eq_false, not_false_eq_true]
      · have h3 : ¬ Bb = b := by omega
        simp (disch := first | omega | assumption | decide) only [b_X3_meshOf_2, p2, hN, m0, m1, z30_0, z30_1, z30_2, z30_3, z30_4, z30_5, z30_6, z30_7, z30_8, z32_0, z32_1, z33_0, z33_1, z1_0, z1_1, z1_2, z1_3, z1_4, z1_5, z1_6, z1_7, z1_8, z2_0, z3_0, z3_1, z4_0, z4_1, z5_0, z5_1, z31_0, z34_0, z34_1, z77_0, z77_1, z77_2, z77_3, z77_4, z77_5, z77_6, z77_7, z77_8, z78_0, z79_0, z79_1, z80_0, z80_1, z81_0, z81_1, SG0, SG1, SG2, SG3, SG4, SG5, SG6, SG7, SG8, SG9, SG10, SG11, SG12, SN0, SN1, SN2, SN3, SN4, SN5, SN6, SN7, SN8, SN9, SN10, SN11, SN12, SN13, SN14, SN15, SN16, SN17, SN18, SJ0, SJ1, SJ2, SJ3, SJ4, SJ5, bindS, if_pos, if_neg, w_isWithin, w_isIn, JB_0, JB_1, bz_B, ite10, ite01, Int.natCast_add, csN0, csN1, csN16, Int.toNat_natCast, ite_not, not_true_eq_false, not_false_eq_true]
    · by_cases h2 : A = b
      · have h3 : ¬ Bb = a := by omega
        simp (disch := first | omega | assumption | decide) only [b_X3_meshOf_2, p2, hN, m0, m1, z30_0, z30_1, z30_2, z30_3, z30_4, z30_5, z30_6, z30_7, z30_8, z32_0, z32_1, z33_0, z33_1, z1_0, z1_1, z1_2, z1_3, z1_4, z1_5, z1_6, z1_7, z1_8, z2_0, z3_0, z3_1, z4_0, z4_1, z5_0, z5_1, z31_0, z34_0, z34_1, z77_0, z77_1, z77_2, z77_3, z77_4, z77_5, z77_6, z77_7, z77_8, z78_0, z79_0, z79_1, z80_0, z80_1, z81_0, z81_1, SG0, SG1, SG2, SG3, SG4, SG5, SG6, SG7, SG8, SG9, SG10, SG11, SG12, SN0, SN1, SN2, SN3, SN4, SN5, SN6, SN7, SN8, SN9, SN10, SN11, SN12, SN13, SN14, SN15, SN16, SN17, SN18, SJ0, SJ1, SJ2, SJ3, SJ4, SJ5, bindS, if_pos, if_neg, w_isWithin, w_isIn, JB_0, JB_1, bz_B, ite10, ite01, Int.natCast_add, csN0, csN1, csN16, Int.toNat_natCast, ite_not, not_true_eq_false, not_false_eq_true]
      · simp (disch := first | omega | assumption | decide) only [b_X3_meshOf_2, p2, hN, m0, m1, z30_0, z30_1, z30_2, z30_3, z30_4, z30_5, z30_6, z30_7, z30_8, z32_0, z32_1, z33_0, z33_1, z1_0, z1_1, z1_2, z1_3, z1_4, z1_5, z1_6, z1_7, z1_8, z2_0, z3_0, z3_1, z4_0, z4_1, z5_0, z5_1, z31_0, z34_0, z34_1, z77_0, z77_1, z77_2, z77_3, z77_4, z77_5, z77_6, z77_7, z77_8, z78_0, z79_0, z79_1, z80_0, z80_1, z81_0, z81_1, SG0, SG1, SG2, SG3, SG4, SG5, SG6, SG7, SG8, SG9, SG10, SG11, SG12, SN0, SN1, SN2, SN3, SN4, SN5, SN6, SN7, SN8, SN9, SN10, SN11, SN12, SN13, SN14, SN15, SN16, SN17, SN18, SJ0, SJ1, SJ2, SJ3, SJ4, SJ5, bindS, if_pos, if_neg, w_isWithin, w_isIn, JB_0, JB_1, bz_B, ite10, ite01, Int.natCast_add, csN0, csN1, csN16, Int.toNat_natCast, ite_not, not_true_eq_false, not_false_eq_true]
  · have hc := of_decide_eq_true hc
    obtain ⟨m0, m1, m2, x0, x1, y0, y1, ne, -, -⟩ := p8 i (by omega) (by omega)
    generalize d r (228 + 3 * (i : Int) + 0) = A at *
    generalize d r (228 + 3 * (i : Int) + 1) = Bb at *
    by_cases h1 : A = a
    · by_cases h3 : Bb = b
      · simp (disch := first | omega | assumption | decide) only [b_X3_meshOf_2, p2, hN, m0, m1, z30_0, z30_1, z30_2, z30_3, z30_4, z30_5, z30_6, z30_7, z30_8, z32_0, z32_1, z33_0, z33_1, z1_0, z1_1, z1_2, z1_3, z1_4, z1_5, z1_6, z1_7, z1_8, z2_0, z3_0, z3_1, z4_0, z4_1, z5_0, z5_1, z31_0, z34_0, z34_1, z77_0, z77_1, z77_2, z77_3, z77_4, z77_5, z77_6, z77_7, z77_8, z78_0, z79_0, z79_1, z80_0, z80_1, z81_0, z81_1, SG0, SG1, SG2, SG3, SG4, SG5, SG6, SG7, SG8, SG9, SG10, SG11, SG12, SN0, SN1, SN2, SN3, SN4, SN5, SN6, SN7, SN8, SN9, SN10, SN11, SN12, SN13, SN14, SN15, SN16, SN17, SN18, SJ0, SJ1, SJ2, SJ3, SJ4, SJ5, bindS, if_pos, if_neg, w_isWithin, w_isIn, JB_0, JB_1, bz_B, ite10, ite01, Int.natCast_add, csN0, csN1, csN16, Int.toNat_natCast, ite_not, not_true_eq_false, not_false_eq_true]
      · exact absurd (show A = Bb by omega) ne
    · have h2 : A = b := by omega
      have h4 : Bb = a := by omega
      simp (disch := first | omega | assumption | decide) only [b_X3_meshOf_2, p2, hN, m0, m1, z30_0, z30_1, z30_2, z30_3, z30_4, z30_5, z30_6, z30_7, z30_8, z32_0, z32_1, z33_0, z33_1, z1_0, z1_1, z1_2, z1_3, z1_4, z1_5, z1_6, z1_7, z1_8, z2_0, z3_0, z3_1, z4_0, z4_1, z5_0, z5_1, z31_0, z34_0, z34_1, z77_0, z77_1, z77_2, z77_3, z77_4, z77_5, z77_6, z77_7, z77_8, z78_0, z79_0, z79_1, z80_0, z80_1, z81_0, z81_1, SG0, SG1, SG2, SG3, SG4, SG5, SG6, SG7, SG8, SG9, SG10, SG11, SG12, SN0, SN1, SN2, SN3, SN4, SN5, SN6, SN7, SN8, SN9, SN10, SN11, SN12, SN13, SN14, SN15, SN16, SN17, SN18, SJ0, SJ1, SJ2, SJ3, SJ4, SJ5, bindS, if_pos, if_neg, w_isWithin, w_isIn, JB_0, JB_1, bz_B, ite10, ite01, Int.natCast_add, csN0, csN1, csN16, Int.toNat_natCast, ite_not, not_true_eq_false, not_false_eq_true]
  · simp (disch := first | omega | assumption | decide) only [b_X3_meshOf_2, p2, hN, z30_0, z30_1, z30_2, z30_3, z30_4, z30_5, z30_6, z30_7, z30_8, z32_0, z32_1, z33_0, z33_1, z1_0, z1_1, z1_2, z1_3, z1_4, z1_5, z1_6, z1_7, z1_8, z2_0, z3_0, z3_1, z4_0, z4_1, z5_0, z5_1, z31_0, z34_0, z34_1, z77_0, z77_1, z77_2, z77_3, z77_4, z77_5, z77_6, z77_7, z77_8, z78_0, z79_0, z79_1, z80_0, z80_1, z81_0, z81_1, SG0, SG1, SG2, SG3, SG4, SG5, SG6, SG7, SG8, SG9, SG10, SG11, SG12, SN0, SN1, SN2, SN3, SN4, SN5, SN6, SN7, SN8, SN9, SN10, SN11, SN12, SN13, SN14, SN15, SN16, SN17, SN18, SJ0, SJ1, SJ2, SJ3, SJ4, SJ5, bindS, if_pos, if_neg, w_isWithin, w_isIn, JB_0, JB_1, bz_B, ite10, ite01, Int.natCast_add, csN0, csN1, csN16, Int.toNat_natCast, ite_not, not_true_eq_false, not_false_eq_true]
/-- what a valid row of the reference says (its plant) -/
def PW (w : Int → Int) : Prop := ∃ d : Mem, PL d 30 32 33 34 500 ∧ d 500 = w
theorem m_between (P : PW (d 185)) {a b : Int} (a0 : 0 ≤ a) (a1 : a ≤ 99) (b0 : 0 ≤ b) (b1 : b ≤ 99) : f_X12_between (mkH d) 183 (J a) (J b) = some (J (match btS (d 185) a b with
    | some i => (i : Int)
    | none => -1)) := by
  obtain ⟨e, ⟨p1, p2, p3, p4, p5, p6, p7, p8⟩, he⟩ := P
  rw [he] at p1 p2 p3 p4 p5 p6
  obtain ⟨N, hN⟩ : ∃ N : Nat, d 185 1741 = N := ⟨(d 185 1741).toNat, by omega⟩
  have hNt : (d 185 1741).toNat = N := by omega
  have L := iter_srch (b := b_X12_between_2 (mkH d) 183 (J a) (J b)) (fun i => J (i : Int)) (fun i => decide (d 185 (228 + 3 * (i : Int) + 0) = a ∧ d 185 (228 + 3 * (i : Int) + 1) = b ∨ d 185 (228 + 3 * (i : Int) + 0) = b ∧ d 185 (228 + 3 * (i : Int) + 1) = a)) N (s0 := J 0) (e0 := .inl ()) (fun i => .inr (J i)) rfl (by omega) (fun i hi hc => ?_) (fun i hi hc => ?_) ?_
  · unfold btS
    rw [hNt]
    cases hs : srch (fun i => decide (d 185 (228 + 3 * (i : Int) + 0) = a ∧ d 185 (228 + 3 * (i : Int) + 1) = b ∨ d 185 (228 + 3 * (i : Int) + 0) = b ∧ d 185 (228 + 3 * (i : Int) + 1) = a)) N with
    | none =>
      rw [hs] at L
      simp (disch := first | omega | assumption | decide) only [f_X12_between, L, z183_0, z183_1, z183_2, z183_3, z183_4, z183_5, z183_6, z183_7, z183_8, z183_9, z183_10, z183_11, z183_12, z183_13, z183_14, z183_15, z183_16, z183_17, z183_18, z183_19, z183_20, z183_21, z183_22, z183_23, z183_24, z183_25, z183_26, z183_27, z183_28, z183_29, z183_30, z183_31, z183_32, z183_33, z183_34, z183_35, z183_36, z183_37, z183_38, z183_39, z183_40, z183_41, z183_42, z184_0, z184_1, z185_0, z185_1, z186_0, z186_1, z187_0, z187_1, z188_0, z188_1, z189_0, z189_1, z190_0, z190_1, z191_0, z191_1, z192_0, z192_1, z193_0, z193_1, z194_0, z194_1, z195_0, z195_1, z196_0, z196_1, z197_0, z197_1, z198_0, z198_1, z198_2, z199_0, z199_1, z200_0, z200_1, z201_0, z201_1, z202_0, z202_1, SN0, SN1, SN2, SN3, SN4, SN5, SN6, SN7, SN8, SN9, SN10, SN11, SN12, SN13, SN14, SN15, SN16, SN17, SN18, SJ0, SJ1, SJ2, SJ3, SJ4, SJ5, bindS, if_pos, if_neg, w_isWithin, w_isIn, JB_0, JB_1, bz_B, ite10, ite01, Int.natCast_add, csN0, csN1, csN16, Int.toNat_natCast, ite_not, not_true_eq_false, not_false_eq_true]
    | some n =>
      rw [hs] at L
      simp (disch := first | omega | assumption | decide) only [f_X12_between, L, z183_0, z183_1, z183_2, z183_3, z183_4, z183_5, z183_6, z183_7, z183_8, z183_9, z183_10, z183_11, z183_12, z183_13, z183_14, z183_15, z183_16, z183_17, z183_18, z183_19, z183_20, z183_21, z183_22, z183_23, z183_24, z183_25, z183_26, z183_27, z183_28, z183_29, z183_30, z183_31, z183_32, z183_33, z183_34, z183_35, z183_36, z183_37, z183_38, z183_39, z183_40, z183_41, z183_42, z184_0, z184_1, z185_0, z185_1, z186_0, z186_1, z187_0, z187_1, z188_0, z188_1, z189_0, z189_1, z190_0, z190_1, z191_0, z191_1, z192_0, z192_1, z193_0, z193_1, z194_0, z194_1, z195_0, z195_1, z196_0, z196_1, z197_0, z197_1, z198_0, z198_1, z198_2, z199_0, z199_1, z200_0, z200_1, z201_0, z201_1, z202_0, z202_1, SN0, SN1, SN2, SN3, SN4, SN5, SN6, SN7, SN8, SN9, SN10, SN11, SN12, SN13, SN14, SN15, SN16, SN17, SN18, SJ0, SJ1, SJ2, SJ3, SJ4, SJ5, bindS, if_pos, if_neg, w_isWithin, w_isIn, JB_0, JB_1, bz_B, ite10, ite01, Int.natCast_add, csN0, csN1, csN16, Int.toNat_natCast, ite_not, not_true_eq_false, not_false_eq_true]
  · have hc := of_decide_eq_false hc
    obtain ⟨-, -, -, x0, x1, y0, y1, ne, -, -⟩ := p8 i (by omega) (by rw [he]; omega)
    rw [he] at x0 x1 y0 y1 ne
    have k0 := m_meshOf (d := d) (m := i) (k := 0) (by omega) (by omega) (by decide) (by decide)
    have k1 := m_meshOf (d := d) (m := i) (k := 1) (by omega) (by omega) (by decide) (by decide)
    unfold mm at k0 k1
    generalize d 185 (228 + 3 * (i : Int) + 0) = A at *
    generalize d 185 (228 + 3 * (i : Int) + 1) = Bb at *
    by_cases h1 : A = a
    · by_cases h2 : A = b
      · have h3 : ¬ Bb = b := by omega
        have h4 : ¬ Bb = a := by omega
        simp (disch := first | omega | assumption | decide) only [b_X12_between_2, hN, k0, k1, z183_0, z183_1, z183_2, z183_3, z183_4, z183_5, z183_6, z183_7, z183_8, z183_9, z183_10, z183_11, z183_12, z183_13, z183_14, z183_15, z183_16, z183_17, z183_18, z183_19, z183_20, z183_21, z183_22, z183_23, z183_24, z183_25, z183_26, z183_27, z183_28, z183_29, z183_30, z183_31, z183_32, z183_33, z183_34, z183_35, z183_36, z183_37, z183_38, z183_39, z183_40, z183_41, z183_42, z184_0, z184_1, z185_0, z185_1, z186_0, z186_1, z187_0, z187_1, z188_0, z188_1, z189_0, z189_1, z190_0, z190_1, z191_0, z191_1, z192_0, z192_1, z193_0, z193_1, z194_0, z194_1, z195_0, z195_1, z196_0, z196_1, z197_0, z197_1, z198_0, z198_1, z198_2, z199_0, z199_1, z200_0, z200_1, z201_0, z201_1, z202_0, z202_1, SN0, SN1, SN2, SN3, SN4, SN5, SN6, SN7, SN8, SN9, SN10, SN11, SN12, SN13, SN14, SN15, SN16, SN17, SN18, SJ0, SJ1, SJ2, SJ3, SJ4, SJ5, bindS, if_pos, if_neg, w_isWithin, w_isIn, JB_0, JB_1, bz_B, ite10, ite01, Int.natCast_add, csN0, csN1, csN16, Int.toNat_natCast, ite_not, not_true_eq_false, not_false_eq_true]
      · have h3 : ¬ Bb = b := by omega
        simp (disch := first | omega | assumption | decide) only [b_X12_between_2, hN, k0, k1, z183_0, z183_1, z183_2, z183_3, z183_4, z183_5, z183_6, z183_7, z183_8, z183_9, z183_10, z183_11, z183_12, z183_13, z183_14, z183_15, z183_16, z183_17, z183_18, z183_19, z183_20, z183_21, z183_22, z183_23, z183_24, z183_25, z183_26, z183_27, z183_28, z183_29, z183_30, z183_31, z183_32, z183_33, z183_34, z183_35, z183_36, z183_37, z183_38, z183_39, z183_40, z183_41, z183_42, z184_0, z184_1, z185_0, z185_1, z186_0, z186_1, z187_0, z187_1, z188_0, z188_1, z189_0, z189_1, z190_0, z190_1, z191_0, z191_1, z192_0, z192_1, z193_0, z193_1, z194_0, z194_1, z195_0, z195_1, z196_0, z196_1, z197_0, z197_1, z198_0, z198_1, z198_2, z199_0, z199_1, z200_0, z200_1, z201_0, z201_1, z202_0, z202_1, SN0, SN1, SN2, SN3, SN4, SN5, SN6, SN7, SN8, SN9, SN10, SN11, SN12, SN13, SN14, SN15, SN16, SN17, SN18, SJ0, SJ1, SJ2, SJ3, SJ4, SJ5, bindS, if_pos, if_neg, w_isWithin, w_isIn, JB_0, JB_1, bz_B, ite10, ite01, Int.natCast_add, csN0, csN1, csN16, Int.toNat_natCast, ite_not, not_true_eq_false, not_false_eq_true]
    · by_cases h2 : A = b
      · have h3 : ¬ Bb = a := by omega
        simp (disch := first | omega | assumption | decide) only [b_X12_between_2, hN, k0, k1, z183_0, z183_1, z183_2, z183_3, z183_4, z183_5, z183_6, z183_7, z183_8, z183_9, z183_10, z183_11, z183_12, z183_13, z183_14, z183_15, z183_16, z183_17, z183_18, z183_19, z183_20, z183_21, z183_22, z183_23, z183_24, z183_25, z183_26, z183_27, z183_28, z183_29, z183_30, z183_31, z183_32, z183_33, z183_34, z183_35, z183_36, z183_37, z183_38, z183_39, z183_40, z183_41, z183_42, z184_0, z184_1, z185_0, z185_1, z186_0, z186_1, z187_0, z187_1, z188_0, z188_1, z189_0, z189_1, z190_0, z190_1, z191_0, z191_1, z192_0, z192_1, z193_0, z193_1, z194_0, z194_1, z195_0, z195_1, z196_0, z196_1, z197_0, z197_1, z198_0, z198_1, z198_2, z199_0, z199_1, z200_0, z200_1, z201_0, z201_1, z202_0, z202_1, SN0, SN1, SN2, SN3, SN4, SN5, SN6, SN7, SN8, SN9, SN10, SN11, SN12, SN13, SN14, SN15, SN16, SN17, SN18, SJ0, SJ1, SJ2, SJ3, SJ4, SJ5, bindS, if_pos, if_neg, w_isWithin, w_isIn, JB_0, JB_1, bz_B, ite10, ite01, Int.natCast_add, csN0, csN1, csN16, Int.toNat_natCast, ite_not, not_true_eq_false, not_false_eq_true]
      · simp (disch := first | omega | assumption | decide) only [b_X12_between_2, hN, k0, k1, z183_0, z183_1, z183_2, z183_3, z183_4, z183_5, z183_6, z183_7, z183_8, z183_9, z183_10, z183_11, z183_12, z183_13, z183_14, z183_15, z183_16, z183_17, z183_18, z183_19, z183_20, z183_21, z183_22, z183_23, z183_24, z183_25, z183_26, z183_27, z183_28, z183_29, z183_30, z183_31, z183_32, z183_33, z183_34, z183_35, z183_36, z183_37, z183_38, z183_39, z183_40, z183_41, z183_42, z184_0, z184_1, z185_0, z185_1, z186_0, z186_1, z187_0, z187_1, z188_0, z188_1, z189_0, z189_1, z190_0, z190_1, z191_0, z191_1, z192_0, z192_1, z193_0, z193_1, z194_0, z194_1, z195_0, z195_1, z196_0, z196_1, z197_0, z197_1, z198_0, z198_1, z198_2, z199_0, z199_1, z200_0, z200_1, z201_0, z201_1, z202_0, z202_1, SN0, SN1, SN2, SN3, SN4, SN5, SN6, SN7, SN8, SN9, SN10, SN11, SN12, SN13, SN14, SN15, SN16, SN17, SN18, SJ0, SJ1, SJ2, SJ3, SJ4, SJ5, bindS, if_pos, if_neg, w_isWithin, w_isIn, JB_0, JB_1, bz_B, ite10, ite01, Int.natCast_add, csN0, csN1, csN16, Int.toNat_natCast, ite_not, not_true_eq_false, not_false_eq_true]
  · have hc := of_decide_eq_true hc
    obtain ⟨-, -, -, x0, x1, y0, y1, ne, -, -⟩ := p8 i (by omega) (by rw [he]; omega)
    rw [he] at x0 x1 y0 y1 ne
    have k0 := m_meshOf (d := d) (m := i) (k := 0) (by omega) (by omega) (by decide) (by decide)
    have k1 := m_meshOf (d := d) (m := i) (k := 1) (by omega) (by omega) (by decide) (by decide)
    unfold mm at k0 k1
    generalize d 185 (228 + 3 * (i : Int) + 0) = A at *
    generalize d 185 (228 + 3 * (i : Int) + 1) = Bb at *
    by_cases h1 : A = a
    · by_cases h3 : Bb = b
      · simp (disch := first | omega | assumption | decide) only [b_X12_between_2, hN, k0, k1, z183_0, z183_1, z183_2, z183_3, z183_4, z183_5, z183_6, z183_7, z183_8, z183_9, z183_10, z183_11, z183_12, z183_13, z183_14, z183_15, z183_16, z183_17, z183_18, z183_19, z183_20, z183_21, z183_22, z183_23, z183_24, z183_25, z183_26, z183_27, z183_28, z183_29, z183_30, z183_31, z183_32, z183_33, z183_34, z183_35, z183_36, z183_37, z183_38, z183_39, z183_40, z183_41, z183_42, z184_0, z184_1, z185_0, z185_1, z186_0, z186_1, z187_0, z187_1, z188_0, z188_1, z189_0, z189_1, z190_0, z190_1, z191_0, z191_1, z192_0, z192_1, z193_0, z193_1, z194_0, z194_1, z195_0, z195_1, z196_0, z196_1, z197_0, z197_1, z198_0, z198_1, z198_2, z199_0, z199_1, z200_0, z200_1, z201_0, z201_1, z202_0, z202_1, SN0, SN1, SN2, SN3, SN4, SN5, SN6, SN7, SN8, SN9, SN10, SN11, SN12, SN13, SN14, SN15, SN16, SN17, SN18, SJ0, SJ1, SJ2, SJ3, SJ4, SJ5, bindS, if_pos, if_neg, w_isWithin, w_isIn, JB_0, JB_1, bz_B, ite10, ite01, Int.natCast_add, csN0, csN1, csN16, Int.toNat_natCast, ite_not, not_true_eq_false, not_false_eq_true]
      · exact absurd (show A = Bb by omega) ne
    · have h2 : A = b := by omega
      have h4 : Bb = a := by omega
      simp (disch := first | omega | assumption | decide) only [b_X12_between_2, hN, k0, k1, z183_0, z183_1, z183_2, z183_3, z183_4, z183_5, z183_6, z183_7, z183_8, z183_9, z183_10, z183_11, z183_12, z183_13, z183_14, z183_15, z183_16, z183_17, z183_18, z183_19, z183_20, z183_21, z183_22, z183_23, z183_24, z183_25, z183_26, z183_27, z183_28, z183_29, z183_30, z183_31, z183_32, z183_33, z183_34, z183_35, z183_36, z183_37, z183_38, z183_39, z183_40, z183_41, z183_42, z184_0, z184_1, z185_0, z185_1, z186_0, z186_1, z187_0, z187_1, z188_0, z188_1, z189_0, z189_1, z190_0, z190_1, z191_0, z191_1, z192_0, z192_1, z193_0, z193_1, z194_0, z194_1, z195_0, z195_1, z196_0, z196_1, z197_0, z197_1, z198_0, z198_1, z198_2, z199_0, z199_1, z200_0, z200_1, z201_0, z201_1, z202_0, z202_1, SN0, SN1, SN2, SN3, SN4, SN5, SN6, SN7, SN8, SN9, SN10, SN11, SN12, SN13, SN14, SN15, SN16, SN17, SN18, SJ0, SJ1, SJ2, SJ3, SJ4, SJ5, bindS, if_pos, if_neg, w_isWithin, w_isIn, JB_0, JB_1, bz_B, ite10, ite01, Int.natCast_add, csN0, csN1, csN16, Int.toNat_natCast, ite_not, not_true_eq_false, not_false_eq_true]
  · simp (disch := first | omega | assumption | decide) only [b_X12_between_2, hN, z183_0, z183_1, z183_2, z183_3, z183_4, z183_5, z183_6, z183_7, z183_8, z183_9, z183_10, z183_11, z183_12, z183_13, z183_14, z183_15, z183_16, z183_17, z183_18, z183_19, z183_20, z183_21, z183_22, z183_23, z183_24, z183_25, z183_26, z183_27, z183_28, z183_29, z183_30, z183_31, z183_32, z183_33, z183_34, z183_35, z183_36, z183_37, z183_38, z183_39, z183_40, z183_41, z183_42, z184_0, z184_1, z185_0, z185_1, z186_0, z186_1, z187_0, z187_1, z188_0, z188_1, z189_0, z189_1, z190_0, z190_1, z191_0, z191_1, z192_0, z192_1, z193_0, z193_1, z194_0, z194_1, z195_0, z195_1, z196_0, z196_1, z197_0, z197_1, z198_0, z198_1, z198_2, z199_0, z199_1, z200_0, z200_1, z201_0, z201_1, z202_0, z202_1, SN0, SN1, SN2, SN3, SN4, SN5, SN6, SN7, SN8, SN9, SN10, SN11, SN12, SN13, SN14, SN15, SN16, SN17, SN18, SJ0, SJ1, SJ2, SJ3, SJ4, SJ5, bindS, if_pos, if_neg, w_isWithin, w_isIn, JB_0, JB_1, bz_B, ite10, ite01, Int.natCast_add, csN0, csN1, csN16, Int.toNat_natCast, ite_not, not_true_eq_false, not_false_eq_true]
theorem bt_lt {w : Int → Int} {a b : Int} {m : Nat} (h : btS w a b = some m) : (m : Int) < w 1741 := by
  have := (srch_lt h).1
  omega
/-- a ghost: a row that no code sees -/
theorem mkH_gh {d d' : Mem} (h : ∀ x, x ≠ 500 → d' x = d x) : mkH d' = mkH d := by
  funext x
  by_cases e : x = 500
  · subst e
    rfl
  · exact mkH_row (h x e)
theorem c_addGear (P : PL d 30 32 33 34 500) {f : Int → Int} (f0 : 0 ≤ f 0 ∧ f 0 ≤ 99) (f1 : 0 ≤ f 1 ∧ f 1 ≤ 99) (f2 : 0 ≤ f 2 ∧ f 2 ≤ 99) : (okG f (d 500) = false → f_X3_addGear (mkH d) 30 (J (f 0)) (J (f 1)) (J (f 2)) = some (J 0, mkH d)) ∧ (okG f (d 500) = true → ∃ d', f_X3_addGear (mkH d) 30 (J (f 0)) (J (f 1)) (J (f 2)) = some (J 1, mkH d') ∧ PL d' 30 32 33 34 500 ∧ d' 500 = nwG f (d 500) ∧ ∀ x, (x < 30 ∨ 58 < x) → x ≠ 500 → d' x = d x) := by
  obtain ⟨p1, p2, p3, p4, p5, p6, p7, p8⟩ := P
  have w1 := w_isWithin (a := f 0) (l := 0) (u := 4) (by omega) (by omega) (by decide) (by decide) (by decide) (by decide)
  have w2 := w_isWithin (a := f 1) (l := 4) (u := 99) (by omega) (by omega) (by decide) (by decide) (by decide) (by decide)
  have w3 := w_isWithin (a := f 2) (l := 0) (u := 7) (by omega) (by omega) (by decide) (by decide) (by decide) (by decide)
  unfold okG
  refine ⟨fun h => ?_, fun h => ?_⟩
  · have h := of_decide_eq_false h
    unfold f_X3_addGear
    by_cases c1 : 0 ≤ f 0 ∧ f 0 ≤ 4
    · rw [B_t c1] at w1
      refine bind_eq w1 ?_
      rw [if_neg (by first | exact n1J | decide)]
      by_cases c2 : 4 ≤ f 1 ∧ f 1 ≤ 99
      · rw [B_t c2] at w2
        refine bind_eq w2 ?_
        rw [if_neg (by first | exact n1J | decide)]
        by_cases c3 : 0 ≤ f 2 ∧ f 2 ≤ 7
        · rw [B_t c3] at w3
          refine bind_eq w3 ?_
          rw [if_neg (by first | exact n1J | decide)]
          refine bind_eq (z30_2 d) ?_
          rw [p1, if_neg (by rw [J_lt (by omega) (by omega) (by omega) (by omega)]; omega)]
        · rw [B_f c3] at w3
          exact bind_eq w3 rfl
      · rw [B_f c2] at w2
        exact bind_eq w2 rfl
    · rw [B_f c1] at w1
      exact bind_eq w1 rfl
  · have h := of_decide_eq_true h
    obtain ⟨h1, h2, h3, h4⟩ := h
    obtain ⟨g, hg⟩ : ∃ g, g = d 500 1740 := ⟨_, rfl⟩
    rw [← hg] at h4 p1 p3 p4
    rw [B_t ⟨f0.1, h1⟩] at w1
    rw [B_t ⟨h2, f1.2⟩] at w2
    rw [B_t ⟨f2.1, h3⟩] at w3
    have G := isG_30 p3 h4
    have gl := gA_le (p := 30) p3 h4
    have k := SG11
    obtain ⟨e4, he4⟩ : ∃ e4, e4 = up (up (up (up d (gA 30 g) 0 g) (gA 30 g) 1 (f 0)) (gA 30 g) 2 (f 1)) (gA 30 g) 3 (f 2) := ⟨_, rfl⟩
    obtain ⟨e5, he5⟩ : ∃ e5, e5 = fl e4 (gA 30 g + 1) 0 16 (fun _ => 31) := ⟨_, rfl⟩
    have fillq := c_fill (d := e4) (v := 31) G.2 (by decide)
    have fillq : f_J7_fill_53178 (mkH e4) (gA 30 g + 1) (J 31) = some (mkH e5) := by rw [he5]; exact fillq
    have q := q_aR (d := d) (a := 31) (i := g) (t := 3) (b := 35) (m := 2) (len := 12) rfl rfl (by decide) (by decide) p3 (by omega)
    have q : aR (mkH d) 31 3 (J g) = some (gA 30 g) := q
    have x4 : ∀ x, x ≠ gA 30 g → e4 x = d x := fun x hx => by rw [he4, up_row hx, up_row hx, up_row hx, up_row hx]
    have x5 : ∀ x, x ≠ gA 30 g → x ≠ gA 30 g + 1 → e5 x = d x := fun x hx hy => by rw [he5, fl_row hy, x4 x hx]
    have r30 : e5 30 1 = g := by rw [x5 30 (by omega) (by omega)]; exact p1
    have y0 : e5 (gA 30 g) 0 = g := by rw [he5, fl_na (by omega), he4, up_nk (by decide), up_nk (by decide), up_nk (by decide), up_same]
    have y1 : e5 (gA 30 g) 1 = f 0 := by rw [he5, fl_na (by omega), he4, up_nk (by decide), up_nk (by decide), up_same]
    have y2 : e5 (gA 30 g) 2 = f 1 := by rw [he5, fl_na (by omega), he4, up_nk (by decide), up_same]
    have y3 : e5 (gA 30 g) 3 = f 2 := by rw [he5, fl_na (by omega), he4, up_same]
    have y4 : cw e5 (gA 30 g) = tr (fun _ => 31) := by rw [he5]; exact cw_fl
    obtain ⟨D, hD⟩ : ∃ D : Mem, D = fun x => if x = 500 then nwG f (d 500) else up e5 30 1 (g + 1) x := ⟨_, rfl⟩
    have D500 : D 500 = nwG f (d 500) := by rw [hD]; exact if_pos rfl
    have Dx : ∀ x, x ≠ 500 → D x = up e5 30 1 (g + 1) x := fun x hx => by rw [hD]; exact if_neg hx
    have ghost : mkH D = mkH (up e5 30 1 (g + 1)) := mkH_gh Dx
    have Do : ∀ x, x ≠ 500 → x ≠ 30 → x ≠ gA 30 g → x ≠ gA 30 g + 1 → D x = d x := fun x h1 h2 h3 h4 => by rw [Dx x h1, up_row h2, x5 x h3 h4]
    refine ⟨D, ?_, ?_, D500, fun x hx h5 => Do x h5 (by omega) (by omega) (by omega)⟩
    · rw [ghost]
      unfold f_X3_addGear
      refine bind_eq w1 ?_
      rw [if_neg (by first | exact n1J | decide)]
      refine bind_eq w2 ?_
      rw [if_neg (by first | exact n1J | decide)]
      refine bind_eq w3 ?_
      rw [if_neg (by first | exact n1J | decide)]
      refine bind_eq (z30_2 d) ?_
      rw [p1, if_pos (by rw [J_lt (by omega) (by omega) (by omega) (by omega)]; omega)]
      refine bind_eq (z30_1 d) (bind_eq (z30_2 d) ?_)
      rw [p1]
      refine bind_eq q (bind_eq (z30_2 d) (bind_eq (q_isO G.1) ?_))
      rw [p1]
      refine bind_eq (a := mkH e5) ?_ (bind_eq (z30_2 e5) ?_)
      · refine bind_eq (SG6 _ _ _ G) (bind_eq (SG7 _ _ _ G) (bind_eq (SG8 _ _ _ G) (bind_eq (SG9 _ _ _ G) (bind_eq (SG5 _ _ G) ?_))))
        rw [← he4]
        exact bind_eq fillq rfl
      · rw [r30, J_add]
        exact bind_eq (z30_3 e5 _) rfl
    · unfold PL
      have n40 : D 500 1740 = g + 1 := by rw [D500, hg]; exact if_pos rfl
      have nlo : ∀ k, ¬ (k = 1740) → ¬ (19 * g ≤ k ∧ k < 19 * g + 19) → D 500 k = d 500 k := fun k k1 k2 => by
        rw [D500]
        unfold nwG
        rw [if_neg k1, if_neg (by rw [← hg]; exact k2)]
      have nhi : ∀ k, 0 ≤ k → k < 19 → D 500 (19 * g + k) = if k < 3 then f k else 31 := fun k k0 k1 => by
        rw [D500]
        unfold nwG
        rw [← hg, if_neg (by omega), if_pos (by omega)]
        by_cases c : k < 3
        · rw [if_pos (by omega), if_pos c, show 19 * g + k - 19 * g = k by omega]
        · rw [if_neg (by omega), if_neg c]
      have n41 : D 500 1741 = d 500 1741 := nlo 1741 (by omega) (by omega)
      refine ⟨?_, ?_, by omega, by omega, by omega, by omega, fun i i0 i1 => ?_, fun m m0 m1 => ?_⟩
      · rw [n40, Dx 30 (by decide), up_same]
      · rw [n41, Dx 30 (by decide), up_nk (by decide), x5 30 (by omega) (by omega)]
        exact p2
      · rw [n40] at i1
        by_cases e : i = g
        · have gg : 19 * g + 0 = 19 * g := by omega
          have e0 := nhi 0 (by decide) (by decide)
          have e1 := nhi 1 (by decide) (by decide)
          have e2 := nhi 2 (by decide) (by decide)
          rw [gg, if_pos (by decide)] at e0
          rw [if_pos (by decide)] at e1 e2
          have ev : vw D 500 g = tr (fun _ => 31) := tr_cong (fun y y0' y1' => by
            have h := nhi (3 + y) (by omega) (by omega)
            rw [if_neg (by omega)] at h
            rw [← h]
            congr 1
            omega)
          have ec : cw D (gA 30 g) = tr (fun _ => 31) := by
            rw [← y4]
            exact cw_row (by rw [Dx _ (by omega), up_row (by omega)])
          have z : ∀ k, D (gA 30 g) k = e5 (gA 30 g) k := fun k => by rw [Dx _ (by omega), up_na (by omega)]
          rw [e]
          unfold GE
          rw [z 0, z 1, z 2, z 3, y0, y1, y2, y3, ec, ev, e0, e1, e2]
          refine ⟨rfl, rfl, rfl, rfl, rfl, f0.1, h1, h2, f1.2, f2.1, h3, fun y => ?_⟩
          unfold tr
          by_cases c : 0 ≤ y ∧ y < 16
          · rw [if_pos c]
            exact ⟨(by decide : (0 : Int) ≤ 31), (by decide : (31 : Int) ≤ 31)⟩
          · rw [if_neg c]
            decide
        · have q := p7 i i0 (by omega)
          have il := gA_le (p := 30) i0 (by omega : i < 12)
          have ne : gA 30 i ≠ gA 30 g ∧ gA 30 i ≠ gA 30 g + 1 ∧ gA 30 i + 1 ≠ gA 30 g ∧ gA 30 i + 1 ≠ gA 30 g + 1 := by unfold gA; omega
          have ec : cw D (gA 30 i) = cw d (gA 30 i) := cw_row (Do _ (by omega) (by omega) ne.2.2.1 ne.2.2.2)
          have ev : vw D 500 i = vw d 500 i := tr_cong (fun y _ _ => nlo _ (by omega) (by omega))
          have z : ∀ k, D (gA 30 i) k = d (gA 30 i) k := fun k => congrFun (Do _ (by omega) (by omega) ne.1 ne.2.1) k
          unfold GE at q ⊢
          rw [z 0, z 1, z 2, z 3, ec, ev, nlo (19 * i) (by omega) (by omega), nlo (19 * i + 1) (by omega) (by omega), nlo (19 * i + 2) (by omega) (by omega)]
          exact q
      · rw [n41] at m1
        have q := p8 m m0 m1
        unfold ME at q ⊢
        rw [n40, nlo (228 + 3 * m + 0) (by omega) (by omega), nlo (228 + 3 * m + 1) (by omega) (by omega), nlo (228 + 3 * m + 2) (by omega) (by omega), Do 32 (by decide) (by decide) (by omega) (by omega), Do 33 (by decide) (by decide) (by omega) (by omega), Do 34 (by decide) (by decide) (by omega) (by omega)]
        obtain ⟨q0, q1, q2, q3, q4, q5, q6, q7, q8, q9⟩ := q
        exact ⟨q0, q1, q2, q3, by omega, q5, by omega, q7, q8, q9⟩
end
