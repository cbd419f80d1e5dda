/-! the class's rule reader (128): the memory while it reads, rs d at stuck -/
def rs (d : Mem) (p s : Int) : Mem := fun a k => if a = 128 ∧ k = 2 then p else if a = 128 ∧ k = 3 then s else d a k
theorem rs_at (d : Mem) (p s : Int) : rs d p s 128 2 = p := if_pos ⟨rfl, rfl⟩
theorem rs_st (d : Mem) (p s : Int) : rs d p s 128 3 = s := by unfold rs; rw [if_neg (by decide), if_pos ⟨rfl, rfl⟩]
theorem rs_na {d : Mem} {p s : Int} {a : Nat} {k : Int} (h : a ≠ 128) : rs d p s a k = d a k := by unfold rs; rw [if_neg (fun e => h e.1), if_neg (fun e => h e.1)]
theorem rs_nk {d : Mem} {p s : Int} {a : Nat} {k : Int} (h : k ≠ 2) (h' : k ≠ 3) : rs d p s a k = d a k := by unfold rs; rw [if_neg (fun e => h e.2), if_neg (fun e => h' e.2)]
theorem rs_ua (d : Mem) (p s q : Int) : up (rs d p s) 128 2 q = rs d q s := by
  funext a k
  unfold up rs
  by_cases c : a = 128 ∧ k = 2
  · rw [if_pos c, if_pos c]
  · rw [if_neg c, if_neg c, if_neg c]
theorem rs_us (d : Mem) (p s q : Int) : up (rs d p s) 128 3 q = rs d p q := by
  funext a k
  unfold up rs
  by_cases c : a = 128 ∧ k = 3
  · rw [if_pos c, if_neg (by omega), if_pos c]
  · rw [if_neg c, if_neg c, if_neg c]
/-- what is read: n bytes tx at the row b; the fields at 130 -/
def RD (d : Mem) (b : Nat) (tx : Int → Int) (n : Int) : Prop := d 128 0 = b ∧ d 128 1 = n ∧ 0 ≤ n ∧ n ≤ 120 ∧ shR b = some (0, 120) ∧ ∀ k, 0 ≤ k → k < n → d b k = tx k ∧ -128 ≤ tx k ∧ tx k ≤ 127
def fldC (d : Mem) (c : Int) : Int32 := J (d 130 (if c = 101 then 0 else if c = 103 then 1 else if c = 119 then 2 else if c = 108 then 3 else if c = 114 then 4 else if c = 116 then 5 else 6))
theorem ch_rng {tx : Int → Int} {n : Int} (h : ∀ k, 0 ≤ k → k < n → -128 ≤ tx k ∧ tx k ≤ 127) (p : Int) : -128 ≤ chS tx n p ∧ chS tx n p ≤ 127 := by
  unfold chS
  split
  · rename_i c
    exact h p c.1 c.2
  · omega
theorem ch_lt {tx : Int → Int} {n p : Int} (h : chS tx n p ≠ -1) : 0 ≤ p ∧ p < n := by
  unfold chS at h
  split at h
  · assumption
  · exact absurd rfl h
section
variable {d : Mem} {b : Nat} {tx : Int → Int} {n : Int}
theorem RD.ch (R : RD d b tx n) (p : Int) : -128 ≤ chS tx n p ∧ chS tx n p ≤ 127 := ch_rng (fun k h0 h1 => (R.2.2.2.2.2 k h0 h1).2) p
theorem RD.rb (R : RD d b tx n) : b ≠ 128 := by
  intro e
  have h := R.2.2.2.2.1
  rw [e] at h
  exact absurd h (by decide)
theorem k_coming (R : RD d b tx n) {p : Int} (p0 : 0 ≤ p) (p1 : p ≤ n) : f_X4_coming_6 (mkH (rs d p 0)) 128 = some (J (chS tx n p)) := by
  have hb := R.rb
  obtain ⟨r0, r1, r2, r3, r4, r5⟩ := R
  have e0 : rs d p 0 128 0 = b := by rw [rs_nk (by decide) (by decide), r0]
  have e1 : rs d p 0 128 1 = n := by rw [rs_nk (by decide) (by decide), r1]
  have e2 := rs_at d p 0
  have e3 := rs_st d p 0
  by_cases c : p < n
  · obtain ⟨t1, -⟩ := r5 p p0 c
    have e4 : rs d p 0 b p = tx p := by rw [rs_na hb, t1]
    have e5 : chS tx n p = tx p := if_pos ⟨p0, c⟩
    simp (disch := first | omega | assumption | decide) only [f_X4_coming_6, e0, e1, e2, e3, q_aI r4 (by decide), e4, e5, z128_0, z128_1, z128_2, z128_3, z128_4, z128_5, z128_6, z128_7, z128_8, z128_9, z130_0, z130_1, SN0, SN1, SN2, SN3, SN4, SN5, SN6, SN7, SN8, SN9, SN10, SN11, SN12, SN13, SN14, SN15, SN16, SN17, SN18, SJ0, SJ1, SJ2, SJ3, SJ4, SJ5, bindS, if_pos, if_neg, w_isWithin, w_isIn, JB_0, JB_1, bz_B, ite10, ite01, Int.natCast_add, csN0, csN1, csN16, Int.toNat_natCast, ite_not, not_true_eq_false, not_false_eq_true]
  · have e5 : chS tx n p = -1 := if_neg (by omega)
    simp (disch := first | omega | assumption | decide) only [f_X4_coming_6, e1, e2, e3, e5, z128_0, z128_1, z128_2, z128_3, z128_4, z128_5, z128_6, z128_7, z128_8, z128_9, z130_0, z130_1, SN0, SN1, SN2, SN3, SN4, SN5, SN6, SN7, SN8, SN9, SN10, SN11, SN12, SN13, SN14, SN15, SN16, SN17, SN18, SJ0, SJ1, SJ2, SJ3, SJ4, SJ5, bindS, if_pos, if_neg, w_isWithin, w_isIn, JB_0, JB_1, bz_B, ite10, ite01, Int.natCast_add, csN0, csN1, csN16, Int.toNat_natCast, ite_not, not_true_eq_false, not_false_eq_true]
theorem k_comingS (p : Int) : f_X4_coming_6 (mkH (rs d p 1)) 128 = some (J (-1)) := by
  have e3 := rs_st d p 1
  simp (disch := first | omega | assumption | decide) only [f_X4_coming_6, e3, z128_0, z128_1, z128_2, z128_3, z128_4, z128_5, z128_6, z128_7, z128_8, z128_9, z130_0, z130_1, SN0, SN1, SN2, SN3, SN4, SN5, SN6, SN7, SN8, SN9, SN10, SN11, SN12, SN13, SN14, SN15, SN16, SN17, SN18, SJ0, SJ1, SJ2, SJ3, SJ4, SJ5, bindS, if_pos, if_neg, w_isWithin, w_isIn, JB_0, JB_1, bz_B, ite10, ite01, Int.natCast_add, csN0, csN1, csN16, Int.toNat_natCast, ite_not, not_true_eq_false, not_false_eq_true]
theorem k_takes (R : RD d b tx n) {p x : Int} (p0 : 0 ≤ p) (p1 : p ≤ n) (x0 : 0 ≤ x) (x1 : x ≤ 127) : f_X4_takes_6 (mkH (rs d p 0)) 128 (J x) = if chS tx n p = x then some (J 1, mkH (rs d (p + 1) 0)) else some (J 0, mkH (rs d p 0)) := by
  have q := k_coming R p0 p1
  have q2 := R.ch p
  have e2 := rs_at d p 0
  by_cases c : chS tx n p = x
  · rw [if_pos c]
    simp (disch := first | omega | assumption | decide) only [f_X4_takes_6, q, e2, rs_ua, z128_0, z128_1, z128_2, z128_3, z128_4, z128_5, z128_6, z128_7, z128_8, z128_9, z130_0, z130_1, SN0, SN1, SN2, SN3, SN4, SN5, SN6, SN7, SN8, SN9, SN10, SN11, SN12, SN13, SN14, SN15, SN16, SN17, SN18, SJ0, SJ1, SJ2, SJ3, SJ4, SJ5, bindS, if_pos, if_neg, w_isWithin, w_isIn, JB_0, JB_1, bz_B, ite10, ite01, Int.natCast_add, csN0, csN1, csN16, Int.toNat_natCast, ite_not, not_true_eq_false, not_false_eq_true]
  · rw [if_neg c]
    simp (disch := first | omega | assumption | decide) only [f_X4_takes_6, q, z128_0, z128_1, z128_2, z128_3, z128_4, z128_5, z128_6, z128_7, z128_8, z128_9, z130_0, z130_1, SN0, SN1, SN2, SN3, SN4, SN5, SN6, SN7, SN8, SN9, SN10, SN11, SN12, SN13, SN14, SN15, SN16, SN17, SN18, SJ0, SJ1, SJ2, SJ3, SJ4, SJ5, bindS, if_pos, if_neg, w_isWithin, w_isIn, JB_0, JB_1, bz_B, ite10, ite01, Int.natCast_add, csN0, csN1, csN16, Int.toNat_natCast, ite_not, not_true_eq_false, not_false_eq_true]
theorem k_takesS {p x : Int} (x0 : 0 ≤ x) (x1 : x ≤ 127) : f_X4_takes_6 (mkH (rs d p 1)) 128 (J x) = some (J 0, mkH (rs d p 1)) := by
  have q := k_comingS (d := d) p
  simp (disch := first | omega | assumption | decide) only [f_X4_takes_6, q, z128_0, z128_1, z128_2, z128_3, z128_4, z128_5, z128_6, z128_7, z128_8, z128_9, z130_0, z130_1, SN0, SN1, SN2, SN3, SN4, SN5, SN6, SN7, SN8, SN9, SN10, SN11, SN12, SN13, SN14, SN15, SN16, SN17, SN18, SJ0, SJ1, SJ2, SJ3, SJ4, SJ5, bindS, if_pos, if_neg, w_isWithin, w_isIn, JB_0, JB_1, bz_B, ite10, ite01, Int.natCast_add, csN0, csN1, csN16, Int.toNat_natCast, ite_not, not_true_eq_false, not_false_eq_true]
theorem k_tos (R : RD d b tx n) {p x : Int} (p0 : 0 ≤ p) (p1 : p ≤ n) (x0 : 0 ≤ x) (x1 : x ≤ 127) : f_X4_takeOrStop_6 (mkH (rs d p 0)) 128 (J x) = if chS tx n p = x then some (mkH (rs d (p + 1) 0)) else some (mkH (rs d p 1)) := by
  have q := k_takes R p0 p1 x0 x1
  by_cases c : chS tx n p = x
  · rw [if_pos c]
    rw [if_pos c] at q
    simp (disch := first | omega | assumption | decide) only [f_X4_takeOrStop_6, q, z128_0, z128_1, z128_2, z128_3, z128_4, z128_5, z128_6, z128_7, z128_8, z128_9, z130_0, z130_1, SN0, SN1, SN2, SN3, SN4, SN5, SN6, SN7, SN8, SN9, SN10, SN11, SN12, SN13, SN14, SN15, SN16, SN17, SN18, SJ0, SJ1, SJ2, SJ3, SJ4, SJ5, bindS, if_pos, if_neg, w_isWithin, w_isIn, JB_0, JB_1, bz_B, ite10, ite01, Int.natCast_add, csN0, csN1, csN16, Int.toNat_natCast, ite_not, not_true_eq_false, not_false_eq_true]
  · rw [if_neg c]
    rw [if_neg c] at q
    simp (disch := first | omega | assumption | decide) only [f_X4_takeOrStop_6, q, rs_us, z128_0, z128_1, z128_2, z128_3, z128_4, z128_5, z128_6, z128_7, z128_8, z128_9, z130_0, z130_1, SN0, SN1, SN2, SN3, SN4, SN5, SN6, SN7, SN8, SN9, SN10, SN11, SN12, SN13, SN14, SN15, SN16, SN17, SN18, SJ0, SJ1, SJ2, SJ3, SJ4, SJ5, bindS, if_pos, if_neg, w_isWithin, w_isIn, JB_0, JB_1, bz_B, ite10, ite01, Int.natCast_add, csN0, csN1, csN16, Int.toNat_natCast, ite_not, not_true_eq_false, not_false_eq_true]
theorem k_tosS {p x : Int} (x0 : 0 ≤ x) (x1 : x ≤ 127) : f_X4_takeOrStop_6 (mkH (rs d p 1)) 128 (J x) = some (mkH (rs d p 1)) := by
  have q := k_takesS (d := d) (p := p) x0 x1
  simp (disch := first | omega | assumption | decide) only [f_X4_takeOrStop_6, q, rs_us, z128_0, z128_1, z128_2, z128_3, z128_4, z128_5, z128_6, z128_7, z128_8, z128_9, z130_0, z130_1, SN0, SN1, SN2, SN3, SN4, SN5, SN6, SN7, SN8, SN9, SN10, SN11, SN12, SN13, SN14, SN15, SN16, SN17, SN18, SJ0, SJ1, SJ2, SJ3, SJ4, SJ5, bindS, if_pos, if_neg, w_isWithin, w_isIn, JB_0, JB_1, bz_B, ite10, ite01, Int.natCast_add, csN0, csN1, csN16, Int.toNat_natCast, ite_not, not_true_eq_false, not_false_eq_true]
theorem isDg_iff {c : Int} : isDg c = true ↔ 48 ≤ c ∧ c ≤ 57 := by unfold isDg; exact decide_eq_true_iff
theorem isDg_f {c : Int} : isDg c = false ↔ ¬ (48 ≤ c ∧ c ≤ 57) := by unfold isDg; exact decide_eq_false_iff_not
theorem num_rng {c : Int → Int} {n : Int} (hc : ∀ p, c p ≠ -1 → p < n) : ∀ (k : Nat) (p v : Int), p ≤ n → p ≤ (numS c k p v).1 ∧ (numS c k p v).1 ≤ n
  | 0, p, v, h => ⟨Int.le_refl p, h⟩
  | k + 1, p, v, h => by
    unfold numS
    split
    · exact ⟨Int.le_refl p, h⟩
    · rename_i hh
      have hd : isDg (c p) = true := by
        cases hq : isDg (c p) with
        | true => rfl
        | false => exact absurd (Or.inr hq) hh
      have := isDg_iff.mp hd
      have h1 := hc p (by omega)
      have := num_rng hc k (p + 1) (10 * v + c p - 48) (by omega)
      omega
theorem ten_pow (i : Nat) : (10 : Int) ^ (i + 1) = 10 * 10 ^ i := by rw [Int.pow_succ, Int.mul_comm]
theorem num_val {c : Int → Int} : ∀ (k i : Nat) (p v : Int), i + k = 4 → 0 ≤ v → v < 10 ^ i → 0 ≤ (numS c k p v).2 ∧ (numS c k p v).2 < 10000
  | 0, i, p, v, hi, h0, h1 => by
    have : i = 4 := by omega
    subst this
    exact ⟨h0, h1⟩
  | k + 1, i, p, v, hi, h0, h1 => by
    unfold numS
    split
    · refine ⟨h0, ?_⟩
      have hi3 : i = 0 ∨ i = 1 ∨ i = 2 ∨ i = 3 := by omega
      show v < 10000
      rcases hi3 with rfl | rfl | rfl | rfl <;> omega
    · rename_i hh
      have hd : isDg (c p) = true := by
        cases hq : isDg (c p) with
        | true => rfl
        | false => exact absurd (Or.inr hq) hh
      have := isDg_iff.mp hd
      exact num_val k (i + 1) (p + 1) (10 * v + c p - 48) (by omega) (by omega) (by rw [ten_pow]; omega)
theorem k_numL (R : RD d b tx n) : ∀ (k i m : Nat) (p v : Int), i + k = 4 → k < m → 0 ≤ p → p ≤ n → 0 ≤ v → v < 10 ^ i → iter (b_X4_takeNumber_6_41 128 (J 4)) m (J v, J i, mkH (rs d p 0)) = some (J (numS (chS tx n) k p v).2, mkH (rs d (numS (chS tx n) k p v).1 0))
  | 0, i, m + 1, p, v, hi, hm, p0, p1, v0, v1 => by
    have : i = 4 := by omega
    subst this
    exact iter_E (by simp (disch := first | omega | assumption | decide) only [b_X4_takeNumber_6_41, numS, z128_0, z128_1, z128_2, z128_3, z128_4, z128_5, z128_6, z128_7, z128_8, z128_9, z130_0, z130_1, SN0, SN1, SN2, SN3, SN4, SN5, SN6, SN7, SN8, SN9, SN10, SN11, SN12, SN13, SN14, SN15, SN16, SN17, SN18, SJ0, SJ1, SJ2, SJ3, SJ4, SJ5, bindS, if_pos, if_neg, w_isWithin, w_isIn, JB_0, JB_1, bz_B, ite10, ite01, Int.natCast_add, csN0, csN1, csN16, Int.toNat_natCast, ite_not, not_true_eq_false, not_false_eq_true])
  | k + 1, i, m + 1, p, v, hi, hm, p0, p1, v0, v1 => by
    have vb : v < 10000 := by
      have hi3 : i = 0 ∨ i = 1 ∨ i = 2 ∨ i = 3 := by omega
      rcases hi3 with rfl | rfl | rfl | rfl <;> omega
    have q := k_coming R p0 p1
    have q2 := R.ch p
    by_cases c0 : v = 0
    · subst c0
      rw [iter_E (e := (J 0, mkH (rs d p 0))) (by simp (disch := first | omega | assumption | decide) only [b_X4_takeNumber_6_41, z128_0, z128_1, z128_2, z128_3, z128_4, z128_5, z128_6, z128_7, z128_8, z128_9, z130_0, z130_1, SN0, SN1, SN2, SN3, SN4, SN5, SN6, SN7, SN8, SN9, SN10, SN11, SN12, SN13, SN14, SN15, SN16, SN17, SN18, SJ0, SJ1, SJ2, SJ3, SJ4, SJ5, bindS, if_pos, if_neg, w_isWithin, w_isIn, JB_0, JB_1, bz_B, ite10, ite01, Int.natCast_add, csN0, csN1, csN16, Int.toNat_natCast, ite_not, not_true_eq_false, not_false_eq_true])]
      unfold numS
      rw [if_pos (Or.inl rfl)]
    · by_cases c1 : 48 ≤ chS tx n p ∧ chS tx n p ≤ 57
      · have e2 := rs_at d p 0
        have hlt := ch_lt (tx := tx) (n := n) (p := p) (by omega)
        rw [iter_S (t := (J (10 * v + chS tx n p - 48), J ((i + 1 : Nat) : Int), mkH (rs d (p + 1) 0))) (by simp (disch := first | omega | assumption | decide) only [b_X4_takeNumber_6_41, q, e2, rs_ua, z128_0, z128_1, z128_2, z128_3, z128_4, z128_5, z128_6, z128_7, z128_8, z128_9, z130_0, z130_1, SN0, SN1, SN2, SN3, SN4, SN5, SN6, SN7, SN8, SN9, SN10, SN11, SN12, SN13, SN14, SN15, SN16, SN17, SN18, SJ0, SJ1, SJ2, SJ3, SJ4, SJ5, bindS, if_pos, if_neg, w_isWithin, w_isIn, JB_0, JB_1, bz_B, ite10, ite01, Int.natCast_add, csN0, csN1, csN16, Int.toNat_natCast, ite_not, not_true_eq_false, not_false_eq_true])]
        rw [k_numL R k (i + 1) m (p + 1) (10 * v + chS tx n p - 48) (by omega) (by omega) (by omega) (by omega) (by omega) (by rw [ten_pow]; omega)]
        conv => rhs; unfold numS
        rw [if_neg (fun h => by
          rcases h with h | h
          · exact c0 h
          · exact isDg_f.mp h c1)]
      · rw [iter_E (e := (J v, mkH (rs d p 0))) (by simp (disch := first | omega | assumption | decide) only [b_X4_takeNumber_6_41, q, z128_0, z128_1, z128_2, z128_3, z128_4, z128_5, z128_6, z128_7, z128_8, z128_9, z130_0, z130_1, SN0, SN1, SN2, SN3, SN4, SN5, SN6, SN7, SN8, SN9, SN10, SN11, SN12, SN13, SN14, SN15, SN16, SN17, SN18, SJ0, SJ1, SJ2, SJ3, SJ4, SJ5, bindS, if_pos, if_neg, w_isWithin, w_isIn, JB_0, JB_1, bz_B, ite10, ite01, Int.natCast_add, csN0, csN1, csN16, Int.toNat_natCast, ite_not, not_true_eq_false, not_false_eq_true])]
        unfold numS
        rw [if_pos (Or.inr (isDg_f.mpr c1))]
theorem k_number (R : RD d b tx n) {p : Int} (p0 : 0 ≤ p) (p1 : p ≤ n) : f_X4_takeNumber_6 (mkH (rs d p 0)) 128 (J 4) = if isDg (chS tx n p) = true then some (J (numS (chS tx n) 3 (p + 1) (chS tx n p - 48)).2, mkH (rs d (numS (chS tx n) 3 (p + 1) (chS tx n p - 48)).1 0)) else some (J 0, mkH (rs d p 1)) := by
  have q := k_coming R p0 p1
  have q2 := R.ch p
  by_cases c : 48 ≤ chS tx n p ∧ chS tx n p ≤ 57
  · rw [if_pos (isDg_iff.mpr c)]
    have hlt := ch_lt (tx := tx) (n := n) (p := p) (by omega)
    have e2 := rs_at d p 0
    have L := k_numL R 3 1 FU (p + 1) (chS tx n p - 48) (by decide) (by decide) (by omega) (by omega) (by omega) (by omega)
    have L : iter (b_X4_takeNumber_6_41 128 (J 4)) FU (J (chS tx n p - 48), J 1, mkH (rs d (p + 1) 0)) = _ := L
    simp (disch := first | omega | assumption | decide) only [f_X4_takeNumber_6, q, e2, rs_ua, L, z128_0, z128_1, z128_2, z128_3, z128_4, z128_5, z128_6, z128_7, z128_8, z128_9, z130_0, z130_1, SN0, SN1, SN2, SN3, SN4, SN5, SN6, SN7, SN8, SN9, SN10, SN11, SN12, SN13, SN14, SN15, SN16, SN17, SN18, SJ0, SJ1, SJ2, SJ3, SJ4, SJ5, bindS, if_pos, if_neg, w_isWithin, w_isIn, JB_0, JB_1, bz_B, ite10, ite01, Int.natCast_add, csN0, csN1, csN16, Int.toNat_natCast, ite_not, not_true_eq_false, not_false_eq_true]
  · rw [if_neg (fun h => c (isDg_iff.mp h))]
    simp (disch := first | omega | assumption | decide) only [f_X4_takeNumber_6, q, rs_us, z128_0, z128_1, z128_2, z128_3, z128_4, z128_5, z128_6, z128_7, z128_8, z128_9, z130_0, z130_1, SN0, SN1, SN2, SN3, SN4, SN5, SN6, SN7, SN8, SN9, SN10, SN11, SN12, SN13, SN14, SN15, SN16, SN17, SN18, SJ0, SJ1, SJ2, SJ3, SJ4, SJ5, bindS, if_pos, if_neg, w_isWithin, w_isIn, JB_0, JB_1, bz_B, ite10, ite01, Int.natCast_add, csN0, csN1, csN16, Int.toNat_natCast, ite_not, not_true_eq_false, not_false_eq_true]
theorem k_numberS {p : Int} : f_X4_takeNumber_6 (mkH (rs d p 1)) 128 (J 4) = some (J 0, mkH (rs d p 1)) := by
  have q := k_comingS (d := d) p
  simp (disch := first | omega | assumption | decide) only [f_X4_takeNumber_6, q, rs_us, z128_0, z128_1, z128_2, z128_3, z128_4, z128_5, z128_6, z128_7, z128_8, z128_9, z130_0, z130_1, SN0, SN1, SN2, SN3, SN4, SN5, SN6, SN7, SN8, SN9, SN10, SN11, SN12, SN13, SN14, SN15, SN16, SN17, SN18, SJ0, SJ1, SJ2, SJ3, SJ4, SJ5, bindS, if_pos, if_neg, w_isWithin, w_isIn, JB_0, JB_1, bz_B, ite10, ite01, Int.natCast_add, csN0, csN1, csN16, Int.toNat_natCast, ite_not, not_true_eq_false, not_false_eq_true]
/-- the place of a sign among the fields' signs -/
def sgI (c : Int) : Int := if c = 101 then 0 else if c = 103 then 1 else if c = 119 then 2 else if c = 108 then 3 else if c = 114 then 4 else if c = 116 then 5 else 6
theorem aS_sg {i : Nat} (h : i < 7) : aS 3 (J i) = some (J ([101, 103, 119, 108, 114, 116, 117].getD i 0)) := by
  match i, h with
  | 0, _ | 1, _ | 2, _ | 3, _ | 4, _ | 5, _ | 6, _ => rfl
  | k + 7, h => omega
theorem k_sgn {h : Hp} {c : Int} (c0 : -128 ≤ c) (c1 : c ≤ 127) : iter (b_X7_readAtom_7 h 128 (J c)) FU (J 0) = some (if isFd c = true then .inr (J (sgI c)) else .inl ()) := by
  have L := iter_srch (b := b_X7_readAtom_7 h 128 (J c)) (fun i => J (i : Int)) (fun i => decide (c = ([101, 103, 119, 108, 114, 116, 117] : List Int).getD i 0)) 7 (s0 := J 0) (e0 := .inl ()) (fun i => .inr (J i)) rfl (by decide) (fun i hi hc => ?_) (fun i hi hc => ?_) ?_
  · rw [L]
    congr 1
    unfold isFd sgI
    by_cases h0 : c = 101
    · subst h0; rfl
    by_cases h1 : c = 103
    · subst h1; rfl
    by_cases h2 : c = 119
    · subst h2; rfl
    by_cases h3 : c = 108
    · subst h3; rfl
    by_cases h4 : c = 114
    · subst h4; rfl
    by_cases h5 : c = 116
    · subst h5; rfl
    by_cases h6 : c = 117
    · subst h6; rfl
    rw [if_neg (by simp [h0, h1, h2, h3, h4, h5, h6])]
    simp [srch, h0, h1, h2, h3, h4, h5, h6]
  · have hc := of_decide_eq_false hc
    have e := aS_sg hi
    have g : -128 ≤ ([101, 103, 119, 108, 114, 116, 117] : List Int).getD i 0 ∧ ([101, 103, 119, 108, 114, 116, 117] : List Int).getD i 0 ≤ 127 := by
      match i, hi with
      | 0, _ | 1, _ | 2, _ | 3, _ | 4, _ | 5, _ | 6, _ => decide
      | k + 7, h => omega
    generalize ([101, 103, 119, 108, 114, 116, 117] : List Int).getD i 0 = G at *
    simp (disch := first | omega | assumption | decide) only [b_X7_readAtom_7, e, z128_0, z128_1, z128_2, z128_3, z128_4, z128_5, z128_6, z128_7, z128_8, z128_9, z130_0, z130_1, SN0, SN1, SN2, SN3, SN4, SN5, SN6, SN7, SN8, SN9, SN10, SN11, SN12, SN13, SN14, SN15, SN16, SN17, SN18, SJ0, SJ1, SJ2, SJ3, SJ4, SJ5, bindS, if_pos, if_neg, w_isWithin, w_isIn, JB_0, JB_1, bz_B, ite10, ite01, Int.natCast_add, csN0, csN1, csN16, Int.toNat_natCast, ite_not, not_true_eq_false, not_false_eq_true]
  · have hc := of_decide_eq_true hc
    have e := aS_sg hi
    rw [← hc] at e
    simp (disch := first | omega | assumption | decide) only [b_X7_readAtom_7, e, z128_0, z128_1, z128_2, z128_3, z128_4, z128_5, z128_6, z128_7, z128_8, z128_9, z130_0, z130_1, SN0, SN1, SN2, SN3, SN4, SN5, SN6, SN7, SN8, SN9, SN10, SN11, SN12, SN13, SN14, SN15, SN16, SN17, SN18, SJ0, SJ1, SJ2, SJ3, SJ4, SJ5, bindS, if_pos, if_neg, w_isWithin, w_isIn, JB_0, JB_1, bz_B, ite10, ite01, Int.natCast_add, csN0, csN1, csN16, Int.toNat_natCast, ite_not, not_true_eq_false, not_false_eq_true]
  · simp (disch := first | omega | assumption | decide) only [b_X7_readAtom_7, z128_0, z128_1, z128_2, z128_3, z128_4, z128_5, z128_6, z128_7, z128_8, z128_9, z130_0, z130_1, SN0, SN1, SN2, SN3, SN4, SN5, SN6, SN7, SN8, SN9, SN10, SN11, SN12, SN13, SN14, SN15, SN16, SN17, SN18, SJ0, SJ1, SJ2, SJ3, SJ4, SJ5, bindS, if_pos, if_neg, w_isWithin, w_isIn, JB_0, JB_1, bz_B, ite10, ite01, Int.natCast_add, csN0, csN1, csN16, Int.toNat_natCast, ite_not, not_true_eq_false, not_false_eq_true]
theorem sg_rng (c : Int) : 0 ≤ sgI c ∧ sgI c ≤ 6 := by
  unfold sgI
  repeat' split
  all_goals omega
theorem k_atom (R : RD d b tx n) {p : Int} (p0 : 0 ≤ p) (p1 : p ≤ n) : f_X7_readAtom (mkH (rs d p 0)) 128 = some ((atomS (chS tx n) (fldC d) p).2.2, mkH (rs d (atomS (chS tx n) (fldC d) p).1 (if (atomS (chS tx n) (fldC d) p).2.1 = true then 0 else 1))) := by
  have q := k_coming R p0 p1
  have q2 := R.ch p
  have q3 := k_number R p0 p1
  have L := k_sgn (h := mkH (rs d p 0)) q2.1 q2.2
  have e2 := rs_at d p 0
  obtain ⟨g0, g1⟩ := sg_rng (chS tx n p)
  by_cases c : isFd (chS tx n p) = true
  · rw [if_pos c] at L
    have ea : atomS (chS tx n) (fldC d) p = (p + 1, true, fldC d (chS tx n p)) := by unfold atomS; rw [if_pos c]
    have ef : rs d (p + 1) 0 130 (sgI (chS tx n p)) = d 130 (sgI (chS tx n p)) := rs_na (by decide)
    have ef2 : fldC d (chS tx n p) = J (d 130 (sgI (chS tx n p))) := rfl
    rw [ea, ef2]
    simp (disch := first | omega | assumption | decide) only [f_X7_readAtom, q, L, e2, rs_ua, ef, z128_0, z128_1, z128_2, z128_3, z128_4, z128_5, z128_6, z128_7, z128_8, z128_9, z130_0, z130_1, SN0, SN1, SN2, SN3, SN4, SN5, SN6, SN7, SN8, SN9, SN10, SN11, SN12, SN13, SN14, SN15, SN16, SN17, SN18, SJ0, SJ1, SJ2, SJ3, SJ4, SJ5, bindS, if_pos, if_neg, w_isWithin, w_isIn, JB_0, JB_1, bz_B, ite10, ite01, Int.natCast_add, csN0, csN1, csN16, Int.toNat_natCast, ite_not, not_true_eq_false, not_false_eq_true]
  · rw [if_neg c] at L
    by_cases c2 : isDg (chS tx n p) = true
    · rw [if_pos c2] at q3
      have ea : atomS (chS tx n) (fldC d) p = ((numS (chS tx n) 3 (p + 1) (chS tx n p - 48)).1, true, J (numS (chS tx n) 3 (p + 1) (chS tx n p - 48)).2) := by unfold atomS; rw [if_neg c, if_pos c2]
      rw [ea]
      simp (disch := first | omega | assumption | decide) only [f_X7_readAtom, q, L, q3, z128_0, z128_1, z128_2, z128_3, z128_4, z128_5, z128_6, z128_7, z128_8, z128_9, z130_0, z130_1, SN0, SN1, SN2, SN3, SN4, SN5, SN6, SN7, SN8, SN9, SN10, SN11, SN12, SN13, SN14, SN15, SN16, SN17, SN18, SJ0, SJ1, SJ2, SJ3, SJ4, SJ5, bindS, if_pos, if_neg, w_isWithin, w_isIn, JB_0, JB_1, bz_B, ite10, ite01, Int.natCast_add, csN0, csN1, csN16, Int.toNat_natCast, ite_not, not_true_eq_false, not_false_eq_true]
    · rw [if_neg c2] at q3
      have ea : atomS (chS tx n) (fldC d) p = (p, false, 0) := by unfold atomS; rw [if_neg c, if_neg c2]
      rw [ea]
      simp (disch := first | omega | assumption | decide) only [f_X7_readAtom, q, L, q3, z128_0, z128_1, z128_2, z128_3, z128_4, z128_5, z128_6, z128_7, z128_8, z128_9, z130_0, z130_1, SN0, SN1, SN2, SN3, SN4, SN5, SN6, SN7, SN8, SN9, SN10, SN11, SN12, SN13, SN14, SN15, SN16, SN17, SN18, SJ0, SJ1, SJ2, SJ3, SJ4, SJ5, bindS, if_pos, if_neg, w_isWithin, w_isIn, JB_0, JB_1, bz_B, ite10, ite01, Int.natCast_add, csN0, csN1, csN16, Int.toNat_natCast, ite_not, not_true_eq_false, not_false_eq_true]
theorem k_atomS {p : Int} : f_X7_readAtom (mkH (rs d p 1)) 128 = some (J 0, mkH (rs d p 1)) := by
  have q := k_comingS (d := d) p
  have L := k_sgn (h := mkH (rs d p 1)) (c := -1) (by decide) (by decide)
  rw [if_neg (by decide)] at L
  simp (disch := first | omega | assumption | decide) only [f_X7_readAtom, q, L, k_numberS, z128_0, z128_1, z128_2, z128_3, z128_4, z128_5, z128_6, z128_7, z128_8, z128_9, z130_0, z130_1, SN0, SN1, SN2, SN3, SN4, SN5, SN6, SN7, SN8, SN9, SN10, SN11, SN12, SN13, SN14, SN15, SN16, SN17, SN18, SJ0, SJ1, SJ2, SJ3, SJ4, SJ5, bindS, if_pos, if_neg, w_isWithin, w_isIn, JB_0, JB_1, bz_B, ite10, ite01, Int.natCast_add, csN0, csN1, csN16, Int.toNat_natCast, ite_not, not_true_eq_false, not_false_eq_true]
theorem atom_rng {fld : Int → Int32} {p : Int} (p0 : 0 ≤ p) (p1 : p ≤ n) : ((atomS (chS tx n) fld p).2.1 = true → p + 1 ≤ (atomS (chS tx n) fld p).1) ∧ p ≤ (atomS (chS tx n) fld p).1 ∧ (atomS (chS tx n) fld p).1 ≤ n := by
  have hc : ∀ p, chS tx n p ≠ -1 → p < n := fun p h => (ch_lt h).2
  unfold atomS
  by_cases c : isFd (chS tx n p) = true
  · rw [if_pos c]
    have := hc p (fun e => by rw [e] at c; exact absurd c (by decide))
    exact ⟨fun _ => Int.le_refl _, by show p ≤ p + 1; omega, by show p + 1 ≤ n; omega⟩
  · rw [if_neg c]
    by_cases c2 : isDg (chS tx n p) = true
    · rw [if_pos c2]
      have := hc p (fun e => by rw [e] at c2; exact absurd c2 (by decide))
      have q := num_rng hc 3 (p + 1) (chS tx n p - 48) (by omega)
      exact ⟨fun _ => q.1, by show p ≤ (numS (chS tx n) 3 (p + 1) (chS tx n p - 48)).1; omega, q.2⟩
    · rw [if_neg c2]
      exact ⟨fun h => Bool.noConfusion (show false = true from h), Int.le_refl p, p1⟩
end
