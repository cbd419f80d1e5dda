/-! sums, tests, ands and ors of the class's rule reader -/
section
variable {d : Mem} {b : Nat} {tx : Int → Int} {n : Int}
theorem k_sumX {p i : Int} {v : Int32} {m : Nat} (i0 : 0 ≤ i) (i1 : i ≤ 1000) : iter (b_X7_readSum_7 128) (m + 1) (v, J i, mkH (rs d p 1)) = some (v, mkH (rs d p 1)) := by
  have t1 := k_takesS (d := d) (p := p) (x := 43) (by decide) (by decide)
  have t2 := k_takesS (d := d) (p := p) (x := 45) (by decide) (by decide)
  by_cases c : 120 ≤ i
  · exact iter_E (by simp (disch := first | omega | assumption | decide) only [b_X7_readSum_7, z128_0, z128_1, z128_2, z128_3, z128_4, z128_5, z128_6, z128_7, z128_8, z128_9, z130_0, z130_1, SN0, SN1, SN2, SN3, SN4, SN5, SN6, SN7, SN8, SN9, SN10, SN11, SN12, SN13, SN14, SN15, SN16, SN17, SN18, SJ0, SJ1, SJ2, SJ3, SJ4, SJ5, bindS, if_pos, if_neg, w_isWithin, w_isIn, JB_0, JB_1, bz_B, ite10, ite01, Int.natCast_add, csN0, csN1, csN16, Int.toNat_natCast, ite_not, not_true_eq_false, not_false_eq_true])
  · exact iter_E (by simp (disch := first | omega | assumption | decide) only [b_X7_readSum_7, t1, t2, z128_0, z128_1, z128_2, z128_3, z128_4, z128_5, z128_6, z128_7, z128_8, z128_9, z130_0, z130_1, SN0, SN1, SN2, SN3, SN4, SN5, SN6, SN7, SN8, SN9, SN10, SN11, SN12, SN13, SN14, SN15, SN16, SN17, SN18, SJ0, SJ1, SJ2, SJ3, SJ4, SJ5, bindS, if_pos, if_neg, w_isWithin, w_isIn, JB_0, JB_1, bz_B, ite10, ite01, Int.natCast_add, csN0, csN1, csN16, Int.toNat_natCast, ite_not, not_true_eq_false, not_false_eq_true])
theorem k_sumL (R : RD d b tx n) : ∀ (r F m : Nat) (p : Int) (v : Int32) (i : Int), n - p ≤ r → r < F → r + 2 < m → 0 ≤ i → 2 * i + r ≤ 200 → 0 ≤ p → p ≤ n → ∃ w, iter (b_X7_readSum_7 128) m (v, J i, mkH (rs d p 0)) = some (w, mkH (rs d (sumL (chS tx n) (fldC d) F p v).1 (if (sumL (chS tx n) (fldC d) F p v).2.1 = true then 0 else 1))) ∧ ((sumL (chS tx n) (fldC d) F p v).2.1 = true → w = (sumL (chS tx n) (fldC d) F p v).2.2)
  | r, F + 1, m + 1, p, v, i, hr, hF, hm, i0, hi, p0, p1 => by
    have t1 := k_takes R p0 p1 (x := 43) (by decide) (by decide)
    have t2 := k_takes R p0 p1 (x := 45) (by decide) (by decide)
    unfold sumL
    by_cases c1 : chS tx n p = 43
    · have hlt := ch_lt (tx := tx) (n := n) (p := p) (by omega)
      rw [if_pos c1] at t1 ⊢
      have a := k_atom R (p := p + 1) (by omega) (by omega)
      obtain ⟨a1, a2, a3⟩ := atom_rng (tx := tx) (n := n) (fld := fldC d) (p := p + 1) (by omega) (by omega)
      by_cases c : (atomS (chS tx n) (fldC d) (p + 1)).2.1 = true
      · rw [if_pos c] at a ⊢
        have a1 := a1 c
        generalize atomS (chS tx n) (fldC d) (p + 1) = A at *
        obtain ⟨q, o, w⟩ := A
        match r, hr, hF, hm, hi with
        | 0, hr, _, _, _ | 1, hr, _, _, _ => simp only [] at a1 a2 a3; omega
        | r + 2, hr, hF, hm, hi =>
          rw [iter_S (t := (v + w, J (i + 1), mkH (rs d q 0))) (by simp (disch := first | omega | assumption | decide) only [b_X7_readSum_7, t1, a, z128_0, z128_1, z128_2, z128_3, z128_4, z128_5, z128_6, z128_7, z128_8, z128_9, z130_0, z130_1, SN0, SN1, SN2, SN3, SN4, SN5, SN6, SN7, SN8, SN9, SN10, SN11, SN12, SN13, SN14, SN15, SN16, SN17, SN18, SJ0, SJ1, SJ2, SJ3, SJ4, SJ5, bindS, if_pos, if_neg, w_isWithin, w_isIn, JB_0, JB_1, bz_B, ite10, ite01, Int.natCast_add, csN0, csN1, csN16, Int.toNat_natCast, ite_not, not_true_eq_false, not_false_eq_true])]
          exact k_sumL R r F m q (v + w) (i + 1) (by simp only [] at a1 a2 a3; omega) (by omega) (by omega) (by omega) (by omega) (by simp only [] at a1 a2 a3; omega) a3
      · rw [if_neg c] at a ⊢
        generalize atomS (chS tx n) (fldC d) (p + 1) = A at *
        obtain ⟨q, o, w⟩ := A
        match m, hm with
        | m + 1, hm =>
          rw [iter_S (t := (v + w, J (i + 1), mkH (rs d q 1))) (by simp (disch := first | omega | assumption | decide) only [b_X7_readSum_7, t1, a, z128_0, z128_1, z128_2, z128_3, z128_4, z128_5, z128_6, z128_7, z128_8, z128_9, z130_0, z130_1, SN0, SN1, SN2, SN3, SN4, SN5, SN6, SN7, SN8, SN9, SN10, SN11, SN12, SN13, SN14, SN15, SN16, SN17, SN18, SJ0, SJ1, SJ2, SJ3, SJ4, SJ5, bindS, if_pos, if_neg, w_isWithin, w_isIn, JB_0, JB_1, bz_B, ite10, ite01, Int.natCast_add, csN0, csN1, csN16, Int.toNat_natCast, ite_not, not_true_eq_false, not_false_eq_true])]
          exact ⟨v + w, k_sumX (by omega) (by omega), fun h => Bool.noConfusion (show false = true from h)⟩
    · rw [if_neg c1] at t1 ⊢
      by_cases c2 : chS tx n p = 45
      · have hlt := ch_lt (tx := tx) (n := n) (p := p) (by omega)
        rw [if_pos c2] at t2 ⊢
        have a := k_atom R (p := p + 1) (by omega) (by omega)
        obtain ⟨a1, a2, a3⟩ := atom_rng (tx := tx) (n := n) (fld := fldC d) (p := p + 1) (by omega) (by omega)
        by_cases c : (atomS (chS tx n) (fldC d) (p + 1)).2.1 = true
        · rw [if_pos c] at a ⊢
          have a1 := a1 c
          generalize atomS (chS tx n) (fldC d) (p + 1) = A at *
          obtain ⟨q, o, w⟩ := A
          match r, hr, hF, hm, hi with
          | 0, hr, _, _, _ | 1, hr, _, _, _ => simp only [] at a1 a2 a3; omega
          | r + 2, hr, hF, hm, hi =>
            rw [iter_S (t := (v - w, J (i + 1), mkH (rs d q 0))) (by simp (disch := first | omega | assumption | decide) only [b_X7_readSum_7, t1, t2, a, z128_0, z128_1, z128_2, z128_3, z128_4, z128_5, z128_6, z128_7, z128_8, z128_9, z130_0, z130_1, SN0, SN1, SN2, SN3, SN4, SN5, SN6, SN7, SN8, SN9, SN10, SN11, SN12, SN13, SN14, SN15, SN16, SN17, SN18, SJ0, SJ1, SJ2, SJ3, SJ4, SJ5, bindS, if_pos, if_neg, w_isWithin, w_isIn, JB_0, JB_1, bz_B, ite10, ite01, Int.natCast_add, csN0, csN1, csN16, Int.toNat_natCast, ite_not, not_true_eq_false, not_false_eq_true])]
            exact k_sumL R r F m q (v - w) (i + 1) (by simp only [] at a1 a2 a3; omega) (by omega) (by omega) (by omega) (by omega) (by simp only [] at a1 a2 a3; omega) a3
        · rw [if_neg c] at a ⊢
          generalize atomS (chS tx n) (fldC d) (p + 1) = A at *
          obtain ⟨q, o, w⟩ := A
          match m, hm with
          | m + 1, hm =>
            rw [iter_S (t := (v - w, J (i + 1), mkH (rs d q 1))) (by simp (disch := first | omega | assumption | decide) only [b_X7_readSum_7, t1, t2, a, z128_0, z128_1, z128_2, z128_3, z128_4, z128_5, z128_6, z128_7, z128_8, z128_9, z130_0, z130_1, SN0, SN1, SN2, SN3, SN4, SN5, SN6, SN7, SN8, SN9, SN10, SN11, SN12, SN13, SN14, SN15, SN16, SN17, SN18, SJ0, SJ1, SJ2, SJ3, SJ4, SJ5, bindS, if_pos, if_neg, w_isWithin, w_isIn, JB_0, JB_1, bz_B, ite10, ite01, Int.natCast_add, csN0, csN1, csN16, Int.toNat_natCast, ite_not, not_true_eq_false, not_false_eq_true])]
            exact ⟨v - w, k_sumX (by omega) (by omega), fun h => Bool.noConfusion (show false = true from h)⟩
      · rw [if_neg c2] at t2 ⊢
        exact ⟨v, iter_E (by simp (disch := first | omega | assumption | decide) only [b_X7_readSum_7, t1, t2, z128_0, z128_1, z128_2, z128_3, z128_4, z128_5, z128_6, z128_7, z128_8, z128_9, z130_0, z130_1, SN0, SN1, SN2, SN3, SN4, SN5, SN6, SN7, SN8, SN9, SN10, SN11, SN12, SN13, SN14, SN15, SN16, SN17, SN18, SJ0, SJ1, SJ2, SJ3, SJ4, SJ5, bindS, if_pos, if_neg, w_isWithin, w_isIn, JB_0, JB_1, bz_B, ite10, ite01, Int.natCast_add, csN0, csN1, csN16, Int.toNat_natCast, ite_not, not_true_eq_false, not_false_eq_true]), fun _ => rfl⟩
theorem sumL_rng {fld : Int → Int32} : ∀ (F : Nat) (p : Int) (v : Int32), 0 ≤ p → p ≤ n → p ≤ (sumL (chS tx n) fld F p v).1 ∧ (sumL (chS tx n) fld F p v).1 ≤ n
  | 0, p, v, p0, p1 => ⟨Int.le_refl p, p1⟩
  | F + 1, p, v, p0, p1 => by
    unfold sumL
    by_cases c1 : chS tx n p = 43
    · have hlt := ch_lt (tx := tx) (n := n) (p := p) (by omega)
      obtain ⟨a1, a2, a3⟩ := atom_rng (tx := tx) (n := n) (fld := fld) (p := p + 1) (by omega) (by omega)
      rw [if_pos c1]
      split
      · have := sumL_rng (fld := fld) F (atomS (chS tx n) fld (p + 1)).1 (v + (atomS (chS tx n) fld (p + 1)).2.2) (by omega) a3
        omega
      · exact ⟨by show p ≤ (atomS (chS tx n) fld (p + 1)).1; omega, a3⟩
    · rw [if_neg c1]
      by_cases c2 : chS tx n p = 45
      · have hlt := ch_lt (tx := tx) (n := n) (p := p) (by omega)
        obtain ⟨a1, a2, a3⟩ := atom_rng (tx := tx) (n := n) (fld := fld) (p := p + 1) (by omega) (by omega)
        rw [if_pos c2]
        split
        · have := sumL_rng (fld := fld) F (atomS (chS tx n) fld (p + 1)).1 (v - (atomS (chS tx n) fld (p + 1)).2.2) (by omega) a3
          omega
        · exact ⟨by show p ≤ (atomS (chS tx n) fld (p + 1)).1; omega, a3⟩
      · rw [if_neg c2]
        exact ⟨Int.le_refl p, p1⟩
theorem smm_rng {fld : Int → Int32} {p : Int} (p0 : 0 ≤ p) (p1 : p ≤ n) : ((smmS (chS tx n) fld p).2.1 = true → p + 1 ≤ (smmS (chS tx n) fld p).1) ∧ p ≤ (smmS (chS tx n) fld p).1 ∧ (smmS (chS tx n) fld p).1 ≤ n := by
  obtain ⟨a1, a2, a3⟩ := atom_rng (tx := tx) (n := n) (fld := fld) p0 p1
  unfold smmS
  split
  · rename_i h
    have a1 := a1 h
    have q := sumL_rng (tx := tx) (n := n) (fld := fld) 200 (atomS (chS tx n) fld p).1 (atomS (chS tx n) fld p).2.2 (by omega) a3
    exact ⟨fun _ => by omega, by omega, q.2⟩
  · exact ⟨fun h => Bool.noConfusion (show false = true from h), a2, a3⟩
theorem k_sum (R : RD d b tx n) {p : Int} (p0 : 0 ≤ p) (p1 : p ≤ n) : ∃ w, f_X7_readSum (mkH (rs d p 0)) 128 = some (w, mkH (rs d (smmS (chS tx n) (fldC d) p).1 (if (smmS (chS tx n) (fldC d) p).2.1 = true then 0 else 1))) ∧ ((smmS (chS tx n) (fldC d) p).2.1 = true → w = (smmS (chS tx n) (fldC d) p).2.2) := by
  have a := k_atom R p0 p1
  obtain ⟨a1, a2, a3⟩ := atom_rng (tx := tx) (n := n) (fld := fldC d) p0 p1
  have hn := R.2.2.2.1
  unfold smmS
  by_cases c : (atomS (chS tx n) (fldC d) p).2.1 = true
  · rw [if_pos c] at a ⊢
    obtain ⟨w, L1, L2⟩ := k_sumL R 120 200 FU (atomS (chS tx n) (fldC d) p).1 (atomS (chS tx n) (fldC d) p).2.2 0 (by omega) (by decide) (by decide) (by decide) (by decide) (by omega) a3
    exact ⟨w, by simp (disch := first | omega | assumption | decide) only [f_X7_readSum, a, L1, z128_0, z128_1, z128_2, z128_3, z128_4, z128_5, z128_6, z128_7, z128_8, z128_9, z130_0, z130_1, SN0, SN1, SN2, SN3, SN4, SN5, SN6, SN7, SN8, SN9, SN10, SN11, SN12, SN13, SN14, SN15, SN16, SN17, SN18, SJ0, SJ1, SJ2, SJ3, SJ4, SJ5, bindS, if_pos, if_neg, w_isWithin, w_isIn, JB_0, JB_1, bz_B, ite10, ite01, Int.natCast_add, csN0, csN1, csN16, Int.toNat_natCast, ite_not, not_true_eq_false, not_false_eq_true], L2⟩
  · rw [if_neg c] at a ⊢
    have L := k_sumX (d := d) (p := (atomS (chS tx n) (fldC d) p).1) (i := 0) (v := (atomS (chS tx n) (fldC d) p).2.2) (m := 999999999) (by decide) (by decide)
    have L : iter (b_X7_readSum_7 128) FU _ = _ := L
    exact ⟨(atomS (chS tx n) (fldC d) p).2.2, by simp (disch := first | omega | assumption | decide) only [f_X7_readSum, a, L, z128_0, z128_1, z128_2, z128_3, z128_4, z128_5, z128_6, z128_7, z128_8, z128_9, z130_0, z130_1, SN0, SN1, SN2, SN3, SN4, SN5, SN6, SN7, SN8, SN9, SN10, SN11, SN12, SN13, SN14, SN15, SN16, SN17, SN18, SJ0, SJ1, SJ2, SJ3, SJ4, SJ5, bindS, if_pos, if_neg, w_isWithin, w_isIn, JB_0, JB_1, bz_B, ite10, ite01, Int.natCast_add, csN0, csN1, csN16, Int.toNat_natCast, ite_not, not_true_eq_false, not_false_eq_true], fun h => Bool.noConfusion (show false = true from h)⟩
theorem k_sumS {p : Int} : f_X7_readSum (mkH (rs d p 1)) 128 = some (J 0, mkH (rs d p 1)) := by
  have L := k_sumX (d := d) (p := p) (i := 0) (v := J 0) (m := 999999999) (by decide) (by decide)
  have L : iter (b_X7_readSum_7 128) FU _ = _ := L
  simp (disch := first | omega | assumption | decide) only [f_X7_readSum, k_atomS, L, z128_0, z128_1, z128_2, z128_3, z128_4, z128_5, z128_6, z128_7, z128_8, z128_9, z130_0, z130_1, SN0, SN1, SN2, SN3, SN4, SN5, SN6, SN7, SN8, SN9, SN10, SN11, SN12, SN13, SN14, SN15, SN16, SN17, SN18, SJ0, SJ1, SJ2, SJ3, SJ4, SJ5, bindS, if_pos, if_neg, w_isWithin, w_isIn, JB_0, JB_1, bz_B, ite10, ite01, Int.natCast_add, csN0, csN1, csN16, Int.toNat_natCast, ite_not, not_true_eq_false, not_false_eq_true]
end
