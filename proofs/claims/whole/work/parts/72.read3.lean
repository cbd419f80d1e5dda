section
variable {d : Mem} {b : Nat} {tx : Int → Int} {n : Int}
def bangS (c : Int → Int) : Nat → Int → Bool → Int × Bool
  | 0, p, w => (p, w)
  | F + 1, p, w => if c p = 33 then bangS c F (p + 1) (!w) else (p, w)
theorem tbx (T : Int × Bool × Bool) (w : Bool) : T = (T.1, T.2.1, ((T.2.2 != w) != w)) := by
  obtain ⟨a, b, c⟩ := T
  cases c <;> cases w <;> rfl
theorem bang_s (c : Int → Int) (F : Nat) (p : Int) (w : Bool) : bangS c (F + 1) p w = if c p = 33 then bangS c F (p + 1) (!w) else (p, w) := rfl
theorem k_bang (R : RD d b tx n) {g : Hp → Nat → Int32 → Option (Int32 × Hp)} {dp : Int32} : ∀ (r m : Nat) (p i : Int) (w : Bool), n - p ≤ r → r < m → 0 ≤ i → i + r ≤ 120 → 0 ≤ p → p ≤ n → iter (b_X7_readTest_4 g 128 dp) m (J (B (w = true)), J i, mkH (rs d p 0)) = some (J (B ((bangS (chS tx n) r p w).2 = true)), mkH (rs d (bangS (chS tx n) r p w).1 0))
  | r, m + 1, p, i, w, hr, hm, i0, i1, p0, p1 => by
    have t := k_takes R p0 p1 (x := 33) (by decide) (by decide)
    by_cases c : chS tx n p = 33
    · rw [if_pos c] at t
      have hlt := ch_lt (tx := tx) (n := n) (p := p) (by omega)
      match r, hr, hm, i1 with
      | 0, hr, _, _ => omega
      | r + 1, hr, hm, i1 =>
        have hw : (if ¬ w = true then some (J 1) else some (J 0)) = some (J (B ((!w) = true))) := by cases w <;> rfl
        have e : iter (b_X7_readTest_4 g 128 dp) (m + 1) (J (B (w = true)), J i, mkH (rs d p 0)) = iter (b_X7_readTest_4 g 128 dp) m (J (B ((!w) = true)), J (i + 1), mkH (rs d (p + 1) 0)) := by
          apply iter_S
          cases w
          · simp only [b_X7_readTest_4]
            simp (disch := first | omega | assumption | decide) only [t, B_t, B_f, z128_0, z128_1, z128_2, z128_3, z128_4, z128_5, z128_6, z128_7, z128_8, z128_9, z130_0, z130_1, SN0, SN1, SN2, SN3, SN4, SN5, SN6, SN7, SN8, SN9, SN10, SN11, SN12, SN13, SN14, SN15, SN16, SN17, SN18, SJ0, SJ1, SJ2, SJ3, SJ4, SJ5, bindS, if_pos, if_neg, w_isWithin, w_isIn, JB_0, JB_1, bz_B, ite10, ite01, Int.natCast_add, csN0, csN1, csN16, Int.toNat_natCast, ite_not, not_true_eq_false, not_false_eq_true]
          · simp only [b_X7_readTest_4]
            simp (disch := first | omega | assumption | decide) only [t, B_t, B_f, z128_0, z128_1, z128_2, z128_3, z128_4, z128_5, z128_6, z128_7, z128_8, z128_9, z130_0, z130_1, SN0, SN1, SN2, SN3, SN4, SN5, SN6, SN7, SN8, SN9, SN10, SN11, SN12, SN13, SN14, SN15, SN16, SN17, SN18, SJ0, SJ1, SJ2, SJ3, SJ4, SJ5, bindS, if_pos, if_neg, w_isWithin, w_isIn, JB_0, JB_1, bz_B, ite10, ite01, Int.natCast_add, csN0, csN1, csN16, Int.toNat_natCast, ite_not, not_true_eq_false, not_false_eq_true]
        rw [e, k_bang R r m (p + 1) (i + 1) (!w) (by omega) (by omega) (by omega) (by omega) (by omega) (by omega)]
        rw [bang_s, if_pos c]
    · rw [if_neg c] at t
      have e2 : bangS (chS tx n) r p w = (p, w) := by
        cases r with
        | zero => rfl
        | succ r => rw [bang_s, if_neg c]
      rw [e2]
      by_cases c2 : 120 ≤ i
      · exact iter_E (by simp (disch := first | omega | assumption | decide) only [b_X7_readTest_4, z128_0, z128_1, z128_2, z128_3, z128_4, z128_5, z128_6, z128_7, z128_8, z128_9, z130_0, z130_1, SN0, SN1, SN2, SN3, SN4, SN5, SN6, SN7, SN8, SN9, SN10, SN11, SN12, SN13, SN14, SN15, SN16, SN17, SN18, SJ0, SJ1, SJ2, SJ3, SJ4, SJ5, bindS, if_pos, if_neg, w_isWithin, w_isIn, JB_0, JB_1, bz_B, ite10, ite01, Int.natCast_add, csN0, csN1, csN16, Int.toNat_natCast, ite_not, not_true_eq_false, not_false_eq_true])
      · exact iter_E (by simp (disch := first | omega | assumption | decide) only [b_X7_readTest_4, t, z128_0, z128_1, z128_2, z128_3, z128_4, z128_5, z128_6, z128_7, z128_8, z128_9, z130_0, z130_1, SN0, SN1, SN2, SN3, SN4, SN5, SN6, SN7, SN8, SN9, SN10, SN11, SN12, SN13, SN14, SN15, SN16, SN17, SN18, SJ0, SJ1, SJ2, SJ3, SJ4, SJ5, bindS, if_pos, if_neg, w_isWithin, w_isIn, JB_0, JB_1, bz_B, ite10, ite01, Int.natCast_add, csN0, csN1, csN16, Int.toNat_natCast, ite_not, not_true_eq_false, not_false_eq_true])
theorem bang_rng : ∀ (r : Nat) (p : Int) (w : Bool), n - p ≤ r → 0 ≤ p → p ≤ n → p ≤ (bangS (chS tx n) r p w).1 ∧ (bangS (chS tx n) r p w).1 ≤ n ∧ chS tx n (bangS (chS tx n) r p w).1 ≠ 33
  | 0, p, w, hr, p0, p1 => by
    refine ⟨Int.le_refl p, p1, ?_⟩
    show chS tx n p ≠ 33
    unfold chS
    rw [if_neg (by omega)]
    decide
  | r + 1, p, w, hr, p0, p1 => by
    unfold bangS
    by_cases c : chS tx n p = 33
    · rw [if_pos c]
      have hlt := ch_lt (tx := tx) (n := n) (p := p) (by omega)
      have := bang_rng r (p + 1) (!w) (by omega) (by omega) (by omega)
      exact ⟨by omega, this.2⟩
    · rw [if_neg c]
      exact ⟨Int.le_refl p, p1, c⟩
theorem tst_bang {fld : Int → Int32} {dep : Nat} : ∀ (r : Nat) (p : Int) (w : Bool) (F : Nat), n - p ≤ r → r < F → 0 ≤ p → p ≤ n → ∃ F' : Nat, n - (bangS (chS tx n) r p w).1 < F' ∧ F' ≤ F ∧ tstS (chS tx n) fld F dep p = ((tstS (chS tx n) fld F' dep (bangS (chS tx n) r p w).1).1, (tstS (chS tx n) fld F' dep (bangS (chS tx n) r p w).1).2.1, (((tstS (chS tx n) fld F' dep (bangS (chS tx n) r p w).1).2.2 != w) != (bangS (chS tx n) r p w).2))
  | 0, p, w, F, hr, hF, p0, p1 => ⟨F, by show n - p < F; omega, Nat.le_refl F, tbx _ w⟩
  | r + 1, p, w, F, hr, hF, p0, p1 => by
    by_cases c : chS tx n p = 33
    · have hlt := ch_lt (tx := tx) (n := n) (p := p) (by omega)
      obtain ⟨F0, rfl⟩ : ∃ F0, F = F0 + 1 := ⟨F - 1, by omega⟩
      obtain ⟨F', h1, h2, h3⟩ := tst_bang (fld := fld) (dep := dep) r (p + 1) (!w) F0 (by omega) (by omega) (by omega) (by omega)
      have e : bangS (chS tx n) (r + 1) p w = bangS (chS tx n) r (p + 1) (!w) := by rw [bang_s, if_pos c]
      rw [e]
      refine ⟨F', h1, by omega, ?_⟩
      conv => lhs; unfold tstS
      rw [if_pos c, h3]
      generalize tstS (chS tx n) fld F' dep (bangS (chS tx n) r (p + 1) (!w)).1 = T
      obtain ⟨q, o, v⟩ := T
      generalize (bangS (chS tx n) r (p + 1) (!w)).2 = w'
      cases v <;> cases w <;> cases w' <;> rfl
    · have e : bangS (chS tx n) (r + 1) p w = (p, w) := by
        unfold bangS
        rw [if_neg c]
      rw [e]
      exact ⟨F, by show n - p < F; omega, Nat.le_refl F, tbx _ w⟩
theorem cmp_val (s : Int) (a c : Int32) (hs : s = 60 ∨ s = 62 ∨ s = 61) : (if J s = J 60 then (if c ≤ a then some (J 0) else some (J 1)) else if J s = J 62 then (if a ≤ c then some (J 0) else some (J 1)) else if a = c then some (J 1) else some (J 0)) = some (J (B (cmpS s a c = true))) := by
  unfold cmpS
  rcases hs with rfl | rfl | rfl
  · rw [if_pos rfl, if_pos rfl, ite01]
    congr 2
    exact B_cong (by rw [decide_eq_true_iff, Int32.not_le])
  · rw [if_neg (show ¬ J 62 = J 60 by decide), if_pos (show J 62 = J 62 from rfl), if_neg (show ¬ (62 : Int) = 60 by decide), if_pos (show (62 : Int) = 62 from rfl), ite01]
    congr 2
    exact B_cong (by rw [decide_eq_true_iff, Int32.not_le])
  · rw [if_neg (show ¬ J 61 = J 60 by decide), if_neg (show ¬ J 61 = J 62 by decide), if_neg (show ¬ (61 : Int) = 60 by decide), if_neg (show ¬ (61 : Int) = 62 by decide), ite10]
    congr 2
    exact B_cong (by rw [decide_eq_true_iff])
theorem cmp_some (s : Int) (s0 : -128 ≤ s) (s1 : s ≤ 127) (a c : Int32) : ∃ v : Bool, (if J s = J 60 then (if c ≤ a then some (J 0) else some (J 1)) else if J s = J 62 then (if a ≤ c then some (J 0) else some (J 1)) else if a = c then some (J 1) else some (J 0)) = some (J (B (v = true))) := by
  have hb : ∀ (q : Prop) [Decidable q], ∃ v : Bool, (if q then some (J 0) else some (J 1)) = some (J (B (v = true))) := fun q _ => by
    by_cases h : q
    · exact ⟨false, by rw [if_pos h]; rfl⟩
    · exact ⟨true, by rw [if_neg h]; rfl⟩
  have hb2 : ∀ (q : Prop) [Decidable q], ∃ v : Bool, (if q then some (J 1) else some (J 0)) = some (J (B (v = true))) := fun q _ => by
    by_cases h : q
    · exact ⟨true, by rw [if_pos h]; rfl⟩
    · exact ⟨false, by rw [if_neg h]; rfl⟩
  split
  · exact hb _
  · split
    · exact hb _
    · exact hb2 _
end
