/-! TEXTS: the class's text reader (125): the memory while it reads, ts d at stuck -/
def ts (d : Mem) (p s : Int) : Mem := fun a k => if a = 125 ∧ k = 2 then p else if a = 125 ∧ k = 3 then s else d a k
theorem ts_at (d : Mem) (p s : Int) : ts d p s 125 2 = p := if_pos ⟨rfl, rfl⟩
theorem ts_st (d : Mem) (p s : Int) : ts d p s 125 3 = s := by unfold ts; rw [if_neg (by decide), if_pos ⟨rfl, rfl⟩]
theorem ts_na {d : Mem} {p s : Int} {a : Nat} {k : Int} (h : a ≠ 125) : ts d p s a k = d a k := by unfold ts; rw [if_neg (fun e => h e.1), if_neg (fun e => h e.1)]
theorem ts_nk {d : Mem} {p s : Int} {a : Nat} {k : Int} (h : k ≠ 2) (h' : k ≠ 3) : ts d p s a k = d a k := by unfold ts; rw [if_neg (fun e => h e.2), if_neg (fun e => h' e.2)]
theorem ts_ua (d : Mem) (p s q : Int) : up (ts d p s) 125 2 q = ts d q s := by
  funext a k
  unfold up ts
  by_cases c : a = 125 ∧ k = 2
  · rw [if_pos c, if_pos c]
  · rw [if_neg c, if_neg c, if_neg c]
theorem ts_us (d : Mem) (p s q : Int) : up (ts d p s) 125 3 q = ts d p q := by
  funext a k
  unfold up ts
  by_cases c : a = 125 ∧ k = 3
  · rw [if_pos c, if_neg (by omega), if_pos c]
  · rw [if_neg c, if_neg c, if_neg c]
theorem ts_up {d : Mem} {p s v : Int} {a : Nat} {k : Int} (h : ¬ (a = 125 ∧ (k = 2 ∨ k = 3))) : up (ts d p s) a k v = ts (up d a k v) p s := by
  funext x j
  unfold up ts
  by_cases c : x = a ∧ j = k
  · rw [if_pos c, if_neg (by omega), if_neg (by omega)]
    exact (if_pos c).symm
  · rw [if_neg c]
    by_cases c2 : x = 125 ∧ j = 2
    · rw [if_pos c2, if_pos c2]
    · rw [if_neg c2, if_neg c2]
      by_cases c3 : x = 125 ∧ j = 3
      · rw [if_pos c3, if_pos c3]
      · rw [if_neg c3, if_neg c3]
        exact (if_neg c).symm
/-- what is read: n bytes tx at the row b -/
def RT (d : Mem) (b : Nat) (tx : Int → Int) (n : Int) : Prop := d 125 0 = b ∧ d 125 1 = n ∧ 0 ≤ n ∧ n ≤ 120 ∧ shR b = some (0, 120) ∧ ∀ k, 0 ≤ k → k < n → d b k = tx k ∧ -128 ≤ tx k ∧ tx k ≤ 127
section
variable {d : Mem} {b : Nat} {tx : Int → Int} {n : Int}
theorem RT.ch (R : RT d b tx n) (p : Int) : -128 ≤ chS tx n p ∧ chS tx n p ≤ 127 := ch_rng (fun k h0 h1 => (R.2.2.2.2.2 k h0 h1).2) p
theorem RT.rb (R : RT d b tx n) : b ≠ 125 := by
  intro e
  have h := R.2.2.2.2.1
  rw [e] at h
  exact absurd h (by decide)
theorem RT.rc (R : RT d b tx n) : b ≠ 127 := by
  intro e
  have h := R.2.2.2.2.1
  rw [e] at h
  exact absurd h (by decide)
theorem RT_fr {d' : Mem} (R : RT d b tx n) (h : ∀ x k, x ≠ 127 → ¬ (x = 125 ∧ (k = 4 ∨ k = 5)) → d' x k = d x k) : RT d' b tx n := by
  have hb := R.rb
  have hc := R.rc
  obtain ⟨r0, r1, r2, r3, r4, r5⟩ := R
  refine ⟨by rw [h _ _ (by decide) (by omega)]; exact r0, by rw [h _ _ (by decide) (by omega)]; exact r1, r2, r3, r4, fun k h0 h1 => ?_⟩
  rw [h b k hc (fun e => hb e.1)]
  exact r5 k h0 h1
theorem t_coming (R : RT d b tx n) {p : Int} (p0 : 0 ≤ p) (p1 : p ≤ n) : f_X4_coming_8 (mkH (ts d p 0)) 125 = some (J (chS tx n p)) := by
  have hb := R.rb
  obtain ⟨r0, r1, r2, r3, r4, r5⟩ := R
  have e0 : ts d p 0 125 0 = b := by rw [ts_nk (by decide) (by decide), r0]
  have e1 : ts d p 0 125 1 = n := by rw [ts_nk (by decide) (by decide), r1]
  have e2 := ts_at d p 0
  have e3 := ts_st d p 0
  by_cases c : p < n
  · obtain ⟨t1, -⟩ := r5 p p0 c
    have e4 : ts d p 0 b p = tx p := by rw [ts_na hb, t1]
    have e5 : chS tx n p = tx p := if_pos ⟨p0, c⟩
    simp (disch := first | omega | assumption | decide) only [f_X4_coming_8, e0, e1, e2, e3, q_aI r4 (by decide), e4, e5, z125_0, z125_1, z125_2, z125_3, z125_4, z125_5, z125_6, z125_7, z125_8, z125_9, z125_10, z125_11, z125_12, z125_13, z127_0, z127_1, SN0, SN1, SN2, SN3, SN4, SN5, SN6, SN7, SN8, SN9, SN10, SN11, SN12, SN13, SN14, SN15, SN16, SN17, SN18, SJ0, SJ1, SJ2, SJ3, SJ4, SJ5, bindS, if_pos, if_neg, w_isWithin, w_isIn, JB_0, JB_1, bz_B, ite10, ite01, Int.natCast_add, csN0, csN1, csN16, Int.toNat_natCast, ite_not, not_true_eq_false, not_false_eq_true]
  · have e5 : chS tx n p = -1 := if_neg (by omega)
    simp (disch := first | omega | assumption | decide) only [f_X4_coming_8, e1, e2, e3, e5, z125_0, z125_1, z125_2, z125_3, z125_4, z125_5, z125_6, z125_7, z125_8, z125_9, z125_10, z125_11, z125_12, z125_13, z127_0, z127_1, SN0, SN1, SN2, SN3, SN4, SN5, SN6, SN7, SN8, SN9, SN10, SN11, SN12, SN13, SN14, SN15, SN16, SN17, SN18, SJ0, SJ1, SJ2, SJ3, SJ4, SJ5, bindS, if_pos, if_neg, w_isWithin, w_isIn, JB_0, JB_1, bz_B, ite10, ite01, Int.natCast_add, csN0, csN1, csN16, Int.toNat_natCast, ite_not, not_true_eq_false, not_false_eq_true]
theorem t_comingS (p : Int) : f_X4_coming_8 (mkH (ts d p 1)) 125 = some (J (-1)) := by
  have e3 := ts_st d p 1
  simp (disch := first | omega | assumption | decide) only [f_X4_coming_8, e3, z125_0, z125_1, z125_2, z125_3, z125_4, z125_5, z125_6, z125_7, z125_8, z125_9, z125_10, z125_11, z125_12, z125_13, z127_0, z127_1, SN0, SN1, SN2, SN3, SN4, SN5, SN6, SN7, SN8, SN9, SN10, SN11, SN12, SN13, SN14, SN15, SN16, SN17, SN18, SJ0, SJ1, SJ2, SJ3, SJ4, SJ5, bindS, if_pos, if_neg, w_isWithin, w_isIn, JB_0, JB_1, bz_B, ite10, ite01, Int.natCast_add, csN0, csN1, csN16, Int.toNat_natCast, ite_not, not_true_eq_false, not_false_eq_true]
theorem t_takes (R : RT d b tx n) {p x : Int} (p0 : 0 ≤ p) (p1 : p ≤ n) (x0 : 0 ≤ x) (x1 : x ≤ 127) : f_X4_takes_8 (mkH (ts d p 0)) 125 (J x) = if chS tx n p = x then some (J 1, mkH (ts d (p + 1) 0)) else some (J 0, mkH (ts d p 0)) := by
  have q := t_coming R p0 p1
  have q2 := R.ch p
  have e2 := ts_at d p 0
  by_cases c : chS tx n p = x
  · rw [if_pos c]
    simp (disch := first | omega | assumption | decide) only [f_X4_takes_8, q, e2, ts_ua, z125_0, z125_1, z125_2, z125_3, z125_4, z125_5, z125_6, z125_7, z125_8, z125_9, z125_10, z125_11, z125_12, z125_13, z127_0, z127_1, SN0, SN1, SN2, SN3, SN4, SN5, SN6, SN7, SN8, SN9, SN10, SN11, SN12, SN13, SN14, SN15, SN16, SN17, SN18, SJ0, SJ1, SJ2, SJ3, SJ4, SJ5, bindS, if_pos, if_neg, w_isWithin, w_isIn, JB_0, JB_1, bz_B, ite10, ite01, Int.natCast_add, csN0, csN1, csN16, Int.toNat_natCast, ite_not, not_true_eq_false, not_false_eq_true]
  · rw [if_neg c]
    simp (disch := first | omega | assumption | decide) only [f_X4_takes_8, q, z125_0, z125_1, z125_2, z125_3, z125_4, z125_5, z125_6, z125_7, z125_8, z125_9, z125_10, z125_11, z125_12, z125_13, z127_0, z127_1, SN0, SN1, SN2, SN3, SN4, SN5, SN6, SN7, SN8, SN9, SN10, SN11, SN12, SN13, SN14, SN15, SN16, SN17, SN18, SJ0, SJ1, SJ2, SJ3, SJ4, SJ5, bindS, if_pos, if_neg, w_isWithin, w_isIn, JB_0, JB_1, bz_B, ite10, ite01, Int.natCast_add, csN0, csN1, csN16, Int.toNat_natCast, ite_not, not_true_eq_false, not_false_eq_true]
theorem t_takesS {p x : Int} (x0 : 0 ≤ x) (x1 : x ≤ 127) : f_X4_takes_8 (mkH (ts d p 1)) 125 (J x) = some (J 0, mkH (ts d p 1)) := by
  have q := t_comingS (d := d) p
  simp (disch := first | omega | assumption | decide) only [f_X4_takes_8, q, z125_0, z125_1, z125_2, z125_3, z125_4, z125_5, z125_6, z125_7, z125_8, z125_9, z125_10, z125_11, z125_12, z125_13, z127_0, z127_1, SN0, SN1, SN2, SN3, SN4, SN5, SN6, SN7, SN8, SN9, SN10, SN11, SN12, SN13, SN14, SN15, SN16, SN17, SN18, SJ0, SJ1, SJ2, SJ3, SJ4, SJ5, bindS, if_pos, if_neg, w_isWithin, w_isIn, JB_0, JB_1, bz_B, ite10, ite01, Int.natCast_add, csN0, csN1, csN16, Int.toNat_natCast, ite_not, not_true_eq_false, not_false_eq_true]
theorem t_tos (R : RT d b tx n) {p x : Int} (p0 : 0 ≤ p) (p1 : p ≤ n) (x0 : 0 ≤ x) (x1 : x ≤ 127) : f_X4_takeOrStop_8 (mkH (ts d p 0)) 125 (J x) = if chS tx n p = x then some (mkH (ts d (p + 1) 0)) else some (mkH (ts d p 1)) := by
  have q := t_takes R p0 p1 x0 x1
  by_cases c : chS tx n p = x
  · rw [if_pos c]
    rw [if_pos c] at q
    simp (disch := first | omega | assumption | decide) only [f_X4_takeOrStop_8, q, z125_0, z125_1, z125_2, z125_3, z125_4, z125_5, z125_6, z125_7, z125_8, z125_9, z125_10, z125_11, z125_12, z125_13, z127_0, z127_1, SN0, SN1, SN2, SN3, SN4, SN5, SN6, SN7, SN8, SN9, SN10, SN11, SN12, SN13, SN14, SN15, SN16, SN17, SN18, SJ0, SJ1, SJ2, SJ3, SJ4, SJ5, bindS, if_pos, if_neg, w_isWithin, w_isIn, JB_0, JB_1, bz_B, ite10, ite01, Int.natCast_add, csN0, csN1, csN16, Int.toNat_natCast, ite_not, not_true_eq_false, not_false_eq_true]
  · rw [if_neg c]
    rw [if_neg c] at q
    simp (disch := first | omega | assumption | decide) only [f_X4_takeOrStop_8, q, ts_us, z125_0, z125_1, z125_2, z125_3, z125_4, z125_5, z125_6, z125_7, z125_8, z125_9, z125_10, z125_11, z125_12, z125_13, z127_0, z127_1, SN0, SN1, SN2, SN3, SN4, SN5, SN6, SN7, SN8, SN9, SN10, SN11, SN12, SN13, SN14, SN15, SN16, SN17, SN18, SJ0, SJ1, SJ2, SJ3, SJ4, SJ5, bindS, if_pos, if_neg, w_isWithin, w_isIn, JB_0, JB_1, bz_B, ite10, ite01, Int.natCast_add, csN0, csN1, csN16, Int.toNat_natCast, ite_not, not_true_eq_false, not_false_eq_true]
theorem t_tosS {p x : Int} (x0 : 0 ≤ x) (x1 : x ≤ 127) : f_X4_takeOrStop_8 (mkH (ts d p 1)) 125 (J x) = some (mkH (ts d p 1)) := by
  have q := t_takesS (d := d) (p := p) x0 x1
  simp (disch := first | omega | assumption | decide) only [f_X4_takeOrStop_8, q, ts_us, z125_0, z125_1, z125_2, z125_3, z125_4, z125_5, z125_6, z125_7, z125_8, z125_9, z125_10, z125_11, z125_12, z125_13, z127_0, z127_1, SN0, SN1, SN2, SN3, SN4, SN5, SN6, SN7, SN8, SN9, SN10, SN11, SN12, SN13, SN14, SN15, SN16, SN17, SN18, SJ0, SJ1, SJ2, SJ3, SJ4, SJ5, bindS, if_pos, if_neg, w_isWithin, w_isIn, JB_0, JB_1, bz_B, ite10, ite01, Int.natCast_add, csN0, csN1, csN16, Int.toNat_natCast, ite_not, not_true_eq_false, not_false_eq_true]
/-- a number of one or two digits at p -/
def n2P (c : Int → Int) (p : Int) : Int := if c p = 48 ∨ isDg (c (p + 1)) = false then p + 1 else p + 2
def n2V (c : Int → Int) (p : Int) : Int := if c p = 48 ∨ isDg (c (p + 1)) = false then c p - 48 else 10 * (c p - 48) + c (p + 1) - 48
theorem t_number (R : RT d b tx n) {p : Int} (p0 : 0 ≤ p) (p1 : p ≤ n) : f_X4_takeNumber_8 (mkH (ts d p 0)) 125 (J 2) = if isDg (chS tx n p) = true then some (J (n2V (chS tx n) p), mkH (ts d (n2P (chS tx n) p) 0)) else some (J 0, mkH (ts d p 1)) := by
  have q := t_coming R p0 p1
  have q2 := R.ch p
  by_cases c : 48 ≤ chS tx n p ∧ chS tx n p ≤ 57
  · rw [if_pos (isDg_iff.mpr c)]
    have hlt := ch_lt (tx := tx) (n := n) (p := p) (by omega)
    have e2 := ts_at d p 0
    have q3 := t_coming R (p := p + 1) (by omega) (by omega)
    have q4 := R.ch (p + 1)
    have L : iter (b_X4_takeNumber_8_41 125 (J 2)) FU (J (chS tx n p - 48), J 1, mkH (ts d (p + 1) 0)) = some (J (n2V (chS tx n) p), mkH (ts d (n2P (chS tx n) p) 0)) := by
      unfold n2V n2P
      by_cases c0 : chS tx n p = 48
      · rw [if_pos (Or.inl c0), if_pos (Or.inl c0)]
        exact iter_E (n := 999999999) (by simp (disch := first | omega | assumption | decide) only [b_X4_takeNumber_8_41, z125_0, z125_1, z125_2, z125_3, z125_4, z125_5, z125_6, z125_7, z125_8, z125_9, z125_10, z125_11, z125_12, z125_13, z127_0, z127_1, SN0, SN1, SN2, SN3, SN4, SN5, SN6, SN7, SN8, SN9, SN10, SN11, SN12, SN13, SN14, SN15, SN16, SN17, SN18, SJ0, SJ1, SJ2, SJ3, SJ4, SJ5, bindS, if_pos, if_neg, w_isWithin, w_isIn, JB_0, JB_1, bz_B, ite10, ite01, Int.natCast_add, csN0, csN1, csN16, Int.toNat_natCast, ite_not, not_true_eq_false, not_false_eq_true])
      · by_cases c1 : 48 ≤ chS tx n (p + 1) ∧ chS tx n (p + 1) ≤ 57
        · have nc : ¬ (chS tx n p = 48 ∨ isDg (chS tx n (p + 1)) = false) := fun h => by
            rcases h with h | h
            · exact c0 h
            · exact isDg_f.mp h c1
          rw [if_neg nc, if_neg nc]
          have e3 := ts_at d (p + 1) 0
          rw [show FU = 999999998 + 1 + 1 from rfl, iter_S (t := (J (10 * (chS tx n p - 48) + chS tx n (p + 1) - 48), J 2, mkH (ts d (p + 1 + 1) 0))) (by
            simp (disch := first | omega | assumption | decide) only [b_X4_takeNumber_8_41, q3, e3, ts_ua, z125_0, z125_1, z125_2, z125_3, z125_4, z125_5, z125_6, z125_7, z125_8, z125_9, z125_10, z125_11, z125_12, z125_13, z127_0, z127_1, SN0, SN1, SN2, SN3, SN4, SN5, SN6, SN7, SN8, SN9, SN10, SN11, SN12, SN13, SN14, SN15, SN16, SN17, SN18, SJ0, SJ1, SJ2, SJ3, SJ4, SJ5, bindS, if_pos, if_neg, w_isWithin, w_isIn, JB_0, JB_1, bz_B, ite10, ite01, Int.natCast_add, csN0, csN1, csN16, Int.toNat_natCast, ite_not, not_true_eq_false, not_false_eq_true]
            rfl)]
          rw [show p + 2 = p + 1 + 1 by omega]
          exact iter_E (by simp (disch := first | omega | assumption | decide) only [b_X4_takeNumber_8_41, z125_0, z125_1, z125_2, z125_3, z125_4, z125_5, z125_6, z125_7, z125_8, z125_9, z125_10, z125_11, z125_12, z125_13, z127_0, z127_1, SN0, SN1, SN2, SN3, SN4, SN5, SN6, SN7, SN8, SN9, SN10, SN11, SN12, SN13, SN14, SN15, SN16, SN17, SN18, SJ0, SJ1, SJ2, SJ3, SJ4, SJ5, bindS, if_pos, if_neg, w_isWithin, w_isIn, JB_0, JB_1, bz_B, ite10, ite01, Int.natCast_add, csN0, csN1, csN16, Int.toNat_natCast, ite_not, not_true_eq_false, not_false_eq_true])
        · have nc : chS tx n p = 48 ∨ isDg (chS tx n (p + 1)) = false := Or.inr (isDg_f.mpr c1)
          rw [if_pos nc, if_pos nc]
          exact iter_E (n := 999999999) (by simp (disch := first | omega | assumption | decide) only [b_X4_takeNumber_8_41, q3, z125_0, z125_1, z125_2, z125_3, z125_4, z125_5, z125_6, z125_7, z125_8, z125_9, z125_10, z125_11, z125_12, z125_13, z127_0, z127_1, SN0, SN1, SN2, SN3, SN4, SN5, SN6, SN7, SN8, SN9, SN10, SN11, SN12, SN13, SN14, SN15, SN16, SN17, SN18, SJ0, SJ1, SJ2, SJ3, SJ4, SJ5, bindS, if_pos, if_neg, w_isWithin, w_isIn, JB_0, JB_1, bz_B, ite10, ite01, Int.natCast_add, csN0, csN1, csN16, Int.toNat_natCast, ite_not, not_true_eq_false, not_false_eq_true])
    simp (disch := first | omega | assumption | decide) only [f_X4_takeNumber_8, q, e2, ts_ua, L, z125_0, z125_1, z125_2, z125_3, z125_4, z125_5, z125_6, z125_7, z125_8, z125_9, z125_10, z125_11, z125_12, z125_13, z127_0, z127_1, SN0, SN1, SN2, SN3, SN4, SN5, SN6, SN7, SN8, SN9, SN10, SN11, SN12, SN13, SN14, SN15, SN16, SN17, SN18, SJ0, SJ1, SJ2, SJ3, SJ4, SJ5, bindS, if_pos, if_neg, w_isWithin, w_isIn, JB_0, JB_1, bz_B, ite10, ite01, Int.natCast_add, csN0, csN1, csN16, Int.toNat_natCast, ite_not, not_true_eq_false, not_false_eq_true]
  · rw [if_neg (fun h => c (isDg_iff.mp h))]
    simp (disch := first | omega | assumption | decide) only [f_X4_takeNumber_8, q, ts_us, z125_0, z125_1, z125_2, z125_3, z125_4, z125_5, z125_6, z125_7, z125_8, z125_9, z125_10, z125_11, z125_12, z125_13, z127_0, z127_1, SN0, SN1, SN2, SN3, SN4, SN5, SN6, SN7, SN8, SN9, SN10, SN11, SN12, SN13, SN14, SN15, SN16, SN17, SN18, SJ0, SJ1, SJ2, SJ3, SJ4, SJ5, bindS, if_pos, if_neg, w_isWithin, w_isIn, JB_0, JB_1, bz_B, ite10, ite01, Int.natCast_add, csN0, csN1, csN16, Int.toNat_natCast, ite_not, not_true_eq_false, not_false_eq_true]
theorem t_numberS {p : Int} : f_X4_takeNumber_8 (mkH (ts d p 1)) 125 (J 2) = some (J 0, mkH (ts d p 1)) := by
  have q := t_comingS (d := d) p
  simp (disch := first | omega | assumption | decide) only [f_X4_takeNumber_8, q, ts_us, z125_0, z125_1, z125_2, z125_3, z125_4, z125_5, z125_6, z125_7, z125_8, z125_9, z125_10, z125_11, z125_12, z125_13, z127_0, z127_1, SN0, SN1, SN2, SN3, SN4, SN5, SN6, SN7, SN8, SN9, SN10, SN11, SN12, SN13, SN14, SN15, SN16, SN17, SN18, SJ0, SJ1, SJ2, SJ3, SJ4, SJ5, bindS, if_pos, if_neg, w_isWithin, w_isIn, JB_0, JB_1, bz_B, ite10, ite01, Int.natCast_add, csN0, csN1, csN16, Int.toNat_natCast, ite_not, not_true_eq_false, not_false_eq_true]
end
/-- the place of the number of item i -/
def skS (i : Nat) (p : Int) : Int := if i = 0 then p else p + 1
/-- r items from the item i on: where it stands, whether it reads, what was told -/
def itsS (c : Int → Int) : Nat → Nat → Int → (Int → Int) → Int × Bool × (Int → Int)
  | 0, _, p, f => (p, true, f)
  | r + 1, i, p, f => if i ≠ 0 ∧ c p ≠ 32 then (p, false, f) else if isDg (c (skS i p)) = true then itsS c r (i + 1) (n2P c (skS i p)) (fun k => if k = (i : Int) then n2V c (skS i p) else f k) else (skS i p, false, f)
def wnt (x : Int) : Nat := if x = 109 then 2 else 3
def stS (c : Int → Int) (p : Int) (f : Int → Int) : Int × Bool × (Int → Int) := if c p = 103 ∨ c p = 109 ∨ c p = 100 then (if (itsS c (wnt (c p)) 0 (p + 1) f).2.1 = true then (if c (itsS c (wnt (c p)) 0 (p + 1) f).1 = 59 then ((itsS c (wnt (c p)) 0 (p + 1) f).1 + 1, true, (itsS c (wnt (c p)) 0 (p + 1) f).2.2) else ((itsS c (wnt (c p)) 0 (p + 1) f).1, false, f)) else ((itsS c (wnt (c p)) 0 (p + 1) f).1, false, f)) else (p, false, f)
section
variable {tx : Int → Int} {n : Int}
theorem n2_rng {p : Int} (hd : isDg (chS tx n p) = true) : p + 1 ≤ n2P (chS tx n) p ∧ n2P (chS tx n) p ≤ n ∧ 0 ≤ n2V (chS tx n) p ∧ n2V (chS tx n) p ≤ 99 := by
  have h := isDg_iff.mp hd
  have hlt := ch_lt (tx := tx) (n := n) (p := p) (by omega)
  unfold n2P n2V
  by_cases c : chS tx n p = 48 ∨ isDg (chS tx n (p + 1)) = false
  · rw [if_pos c, if_pos c]
    omega
  · rw [if_neg c, if_neg c]
    have hd2 : isDg (chS tx n (p + 1)) = true := by
      cases hq : isDg (chS tx n (p + 1)) with
      | true => rfl
      | false => exact absurd (Or.inr hq) c
    have h2 := isDg_iff.mp hd2
    have hlt2 := ch_lt (tx := tx) (n := n) (p := p + 1) (by omega)
    omega
theorem its_rng : ∀ (r i : Nat) (p : Int) (f : Int → Int), 0 ≤ p → p ≤ n → p ≤ (itsS (chS tx n) r i p f).1 ∧ (itsS (chS tx n) r i p f).1 ≤ n ∧ ((∀ k, 0 ≤ k → k < (i : Int) → 0 ≤ f k ∧ f k ≤ 99) → (itsS (chS tx n) r i p f).2.1 = true → ∀ k, 0 ≤ k → k < (i : Int) + r → 0 ≤ (itsS (chS tx n) r i p f).2.2 k ∧ (itsS (chS tx n) r i p f).2.2 k ≤ 99)
  | 0, i, p, f, p0, p1 => ⟨Int.le_refl p, p1, fun h _ k k0 k1 => h k k0 (by omega)⟩
  | r + 1, i, p, f, p0, p1 => by
    unfold itsS
    by_cases c1 : i ≠ 0 ∧ chS tx n p ≠ 32
    · rw [if_pos c1]
      exact ⟨Int.le_refl p, p1, fun _ h => Bool.noConfusion (show false = true from h)⟩
    · rw [if_neg c1]
      have hs : p ≤ skS i p ∧ skS i p ≤ n := by
        unfold skS
        by_cases i0 : i = 0
        · rw [if_pos i0]
          omega
        · rw [if_neg i0]
          have hc : chS tx n p = 32 := by
            by_cases h : chS tx n p = 32
            · exact h
            · exact absurd ⟨i0, h⟩ c1
          have hlt := ch_lt (tx := tx) (n := n) (p := p) (by omega)
          omega
      by_cases c2 : isDg (chS tx n (skS i p)) = true
      · rw [if_pos c2]
        obtain ⟨g1, g2, g3, g4⟩ := n2_rng c2
        obtain ⟨h1, h2, h3⟩ := its_rng r (i + 1) (n2P (chS tx n) (skS i p)) (fun k => if k = (i : Int) then n2V (chS tx n) (skS i p) else f k) (by omega) g2
        refine ⟨by omega, h2, fun hf ok k k0 k1 => h3 (fun j j0 j1 => ?_) ok k k0 (by omega)⟩
        show 0 ≤ (if j = (i : Int) then n2V (chS tx n) (skS i p) else f j) ∧ (if j = (i : Int) then n2V (chS tx n) (skS i p) else f j) ≤ 99
        by_cases e : j = (i : Int)
        · rw [if_pos e]
          exact ⟨g3, g4⟩
        · rw [if_neg e]
          exact hf j j0 (by omega)
      · rw [if_neg c2]
        exact ⟨hs.1, hs.2, fun _ h => Bool.noConfusion (show false = true from h)⟩
theorem its_ind {c : Int → Int} : ∀ (r i : Nat) (p : Int) (f g : Int → Int), (∀ k, 0 ≤ k → k < (i : Int) → f k = g k) → (itsS c r i p f).1 = (itsS c r i p g).1 ∧ (itsS c r i p f).2.1 = (itsS c r i p g).2.1 ∧ ((itsS c r i p f).2.1 = true → ∀ k, 0 ≤ k → k < (i : Int) + r → (itsS c r i p f).2.2 k = (itsS c r i p g).2.2 k)
  | 0, i, p, f, g, h => ⟨rfl, rfl, fun _ k k0 k1 => h k k0 (by omega)⟩
  | r + 1, i, p, f, g, h => by
    unfold itsS
    by_cases c1 : i ≠ 0 ∧ c p ≠ 32
    · rw [if_pos c1, if_pos c1]
      exact ⟨rfl, rfl, fun h => Bool.noConfusion (show false = true from h)⟩
    · rw [if_neg c1, if_neg c1]
      by_cases c2 : isDg (c (skS i p)) = true
      · rw [if_pos c2, if_pos c2]
        obtain ⟨h1, h2, h3⟩ := its_ind (c := c) r (i + 1) (n2P c (skS i p)) (fun k => if k = (i : Int) then n2V c (skS i p) else f k) (fun k => if k = (i : Int) then n2V c (skS i p) else g k) (fun k k0 k1 => by
          by_cases e : k = (i : Int)
          · rw [if_pos e, if_pos e]
          · rw [if_neg e, if_neg e]
            exact h k k0 (by omega))
        exact ⟨h1, h2, fun ok k k0 k1 => h3 ok k k0 (by omega)⟩
      · rw [if_neg c2, if_neg c2]
        exact ⟨rfl, rfl, fun h => Bool.noConfusion (show false = true from h)⟩
theorem st_ind {c : Int → Int} {p : Int} (f g : Int → Int) : (stS c p f).1 = (stS c p g).1 ∧ (stS c p f).2.1 = (stS c p g).2.1 ∧ ((stS c p f).2.1 = true → ∀ k, 0 ≤ k → k < (wnt (c p) : Int) → (stS c p f).2.2 k = (stS c p g).2.2 k) := by
  obtain ⟨h1, h2, h3⟩ := its_ind (c := c) (wnt (c p)) 0 (p + 1) f g (fun k k0 k1 => by omega)
  unfold stS
  rw [← h1, ← h2]
  by_cases c1 : c p = 103 ∨ c p = 109 ∨ c p = 100
  · rw [if_pos c1, if_pos c1]
    by_cases c2 : (itsS c (wnt (c p)) 0 (p + 1) f).2.1 = true
    · rw [if_pos c2, if_pos c2]
      by_cases c3 : c (itsS c (wnt (c p)) 0 (p + 1) f).1 = 59
      · rw [if_pos c3, if_pos c3]
        exact ⟨rfl, rfl, fun _ k k0 k1 => h3 c2 k k0 (by omega)⟩
      · rw [if_neg c3, if_neg c3]
        exact ⟨rfl, rfl, fun h => Bool.noConfusion (show false = true from h)⟩
    · rw [if_neg c2, if_neg c2]
      exact ⟨rfl, rfl, fun h => Bool.noConfusion (show false = true from h)⟩
  · rw [if_neg c1, if_neg c1]
    exact ⟨rfl, rfl, fun h => Bool.noConfusion (show false = true from h)⟩
theorem st_rng {p : Int} {f : Int → Int} (p0 : 0 ≤ p) (p1 : p ≤ n) : p ≤ (stS (chS tx n) p f).1 ∧ (stS (chS tx n) p f).1 ≤ n ∧ ((stS (chS tx n) p f).2.1 = true → p < n ∧ p + 1 ≤ (stS (chS tx n) p f).1 ∧ ∀ k, 0 ≤ k → k < (wnt (chS tx n p) : Int) → 0 ≤ (stS (chS tx n) p f).2.2 k ∧ (stS (chS tx n) p f).2.2 k ≤ 99) := by
  unfold stS
  by_cases c1 : chS tx n p = 103 ∨ chS tx n p = 109 ∨ chS tx n p = 100
  · have hlt := ch_lt (tx := tx) (n := n) (p := p) (by omega)
    rw [if_pos c1]
    obtain ⟨h1, h2, h3⟩ := its_rng (tx := tx) (n := n) (wnt (chS tx n p)) 0 (p + 1) f (by omega) (by omega)
    by_cases c2 : (itsS (chS tx n) (wnt (chS tx n p)) 0 (p + 1) f).2.1 = true
    · rw [if_pos c2]
      by_cases c3 : chS tx n (itsS (chS tx n) (wnt (chS tx n p)) 0 (p + 1) f).1 = 59
      · rw [if_pos c3]
        have hlt2 := ch_lt (tx := tx) (n := n) (p := (itsS (chS tx n) (wnt (chS tx n p)) 0 (p + 1) f).1) (by omega)
        exact ⟨by show p ≤ (itsS (chS tx n) (wnt (chS tx n p)) 0 (p + 1) f).1 + 1; omega, by show (itsS (chS tx n) (wnt (chS tx n p)) 0 (p + 1) f).1 + 1 ≤ n; omega, fun _ => ⟨hlt.2, by show p + 1 ≤ (itsS (chS tx n) (wnt (chS tx n p)) 0 (p + 1) f).1 + 1; omega, fun k k0 k1 => h3 (fun j j0 j1 => by omega) c2 k k0 (by omega)⟩⟩
      · rw [if_neg c3]
        exact ⟨by show p ≤ (itsS (chS tx n) (wnt (chS tx n p)) 0 (p + 1) f).1; omega, h2, fun h => Bool.noConfusion (show false = true from h)⟩
    · rw [if_neg c2]
      exact ⟨by show p ≤ (itsS (chS tx n) (wnt (chS tx n p)) 0 (p + 1) f).1; omega, h2, fun h => Bool.noConfusion (show false = true from h)⟩
  · rw [if_neg c1]
    exact ⟨Int.le_refl p, p1, fun h => Bool.noConfusion (show false = true from h)⟩
end
