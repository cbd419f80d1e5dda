/-! the model's checker of rules (183): the memory while it reads, ms d at deep -/
def ms (d : Mem) (p s : Int) : Mem := fun a k => if a = 183 ∧ k = 12 then p else if a = 183 ∧ k = 25 then s else d a k
theorem ms_at (d : Mem) (p s : Int) : ms d p s 183 12 = p := if_pos ⟨rfl, rfl⟩
theorem ms_st (d : Mem) (p s : Int) : ms d p s 183 25 = s := by unfold ms; rw [if_neg (by decide), if_pos ⟨rfl, rfl⟩]
theorem ms_na {d : Mem} {p s : Int} {a : Nat} {k : Int} (h : a ≠ 183) : ms d p s a k = d a k := by unfold ms; rw [if_neg (fun e => h e.1), if_neg (fun e => h e.1)]
theorem ms_nk {d : Mem} {p s : Int} {a : Nat} {k : Int} (h : k ≠ 12) (h' : k ≠ 25) : ms d p s a k = d a k := by unfold ms; rw [if_neg (fun e => h e.2), if_neg (fun e => h' e.2)]
theorem ms_ua (d : Mem) (p s q : Int) : up (ms d p s) 183 12 q = ms d q s := by
  funext a k
  unfold up ms
  by_cases c : a = 183 ∧ k = 12
  · rw [if_pos c, if_pos c]
  · rw [if_neg c, if_neg c, if_neg c]
theorem ms_us (d : Mem) (p s q : Int) : up (ms d p s) 183 25 q = ms d p q := by
  funext a k
  unfold up ms
  by_cases c : a = 183 ∧ k = 25
  · rw [if_pos c, if_neg (by omega), if_pos c]
  · rw [if_neg c, if_neg c, if_neg c]
/-- what is read: n bytes tx in the row b from o on -/
def MD (d : Mem) (b : Nat) (o : Int) (tx : Int → Int) (n : Int) : Prop := d 183 16 = b ∧ d 183 13 = o ∧ d 183 14 = n ∧ 0 ≤ n ∧ n ≤ 120 ∧ b ≠ 183 ∧ (∃ len : Nat, shR b = some (0, len) ∧ 0 ≤ o ∧ o + n ≤ len ∧ len ≤ 10000) ∧ ∀ k, 0 ≤ k → k < n → d b (o + k) = tx k ∧ -128 ≤ tx k ∧ tx k ≤ 127
/-- the sign that comes, as the model tells it -/
def sgn (tx : Int → Int) (n p : Int) : Int := if p < n then tx p else -1000
section
variable {d : Mem} {b : Nat} {o : Int} {tx : Int → Int} {n : Int}
theorem MD.ch (M : MD d b o tx n) (p : Int) : -128 ≤ chS tx n p ∧ chS tx n p ≤ 127 := ch_rng (fun k h0 h1 => (M.2.2.2.2.2.2.2 k h0 h1).2) p
theorem MD.sg (M : MD d b o tx n) {p : Int} (p0 : 0 ≤ p) : -1000 ≤ sgn tx n p ∧ sgn tx n p ≤ 127 ∧ ∀ x, 0 ≤ x → (sgn tx n p = x ↔ chS tx n p = x) := by
  unfold sgn chS
  by_cases c : p < n
  · have := (M.2.2.2.2.2.2.2 p p0 c).2
    rw [if_pos c, if_pos ⟨p0, c⟩]
    exact ⟨by omega, by omega, fun x hx => Iff.rfl⟩
  · rw [if_neg c, if_neg (by omega)]
    exact ⟨by omega, by omega, fun x hx => by omega⟩
theorem m_sign (M : MD d b o tx n) {p s : Int} (p0 : 0 ≤ p) (p1 : p ≤ n) : f_X12_sign (mkH (ms d p s)) 183 = some (J (sgn tx n p)) := by
  obtain ⟨r0, r1, r2, r3, r4, r5, ⟨len, h1, h2, h3, h4⟩, r6⟩ := M
  have e0 : ms d p s 183 16 = b := by rw [ms_nk (by decide) (by decide), r0]
  have e1 : ms d p s 183 13 = o := by rw [ms_nk (by decide) (by decide), r1]
  have e2 : ms d p s 183 14 = n := by rw [ms_nk (by decide) (by decide), r2]
  have e3 := ms_at d p s
  by_cases c : p < n
  · obtain ⟨t1, -⟩ := r6 p p0 c
    have e4 : ms d p s b (o + p) = tx p := by rw [ms_na r5, t1]
    have e5 : sgn tx n p = tx p := if_pos c
    have q : aI (mkH (ms d p s)) b (J (o + p)) = some (J (ms d p s b (o + p))) := q_aI h1 (by omega) (by omega) (by omega)
    simp (disch := first | omega | assumption | decide) only [f_X12_sign, e0, e1, e2, e3, q, e4, e5, z183_0, z183_1, z183_2, z183_3, z183_4, z183_5, z183_6, z183_7, z183_8, z183_9, z183_10, z183_11, z183_12, z183_13, z183_14, z183_15, z183_16, z183_17, z183_18, z183_19, z183_20, z183_21, z183_22, z183_23, z183_24, z183_25, z183_26, z183_27, z183_28, z183_29, z183_30, z183_31, z183_32, z183_33, z183_34, z183_35, z183_36, z183_37, z183_38, z183_39, z183_40, z183_41, z183_42, z184_0, z184_1, z185_0, z185_1, z186_0, z186_1, z187_0, z187_1, z188_0, z188_1, z189_0, z189_1, z190_0, z190_1, z191_0, z191_1, z192_0, z192_1, z193_0, z193_1, z194_0, z194_1, z195_0, z195_1, z196_0, z196_1, z197_0, z197_1, z198_0, z198_1, z198_2, z199_0, z199_1, z200_0, z200_1, z201_0, z201_1, z202_0, z202_1, SN0, SN1, SN2, SN3, SN4, SN5, SN6, SN7, SN8, SN9, SN10, SN11, SN12, SN13, SN14, SN15, SN16, SN17, SN18, SJ0, SJ1, SJ2, SJ3, SJ4, SJ5, bindS, if_pos, if_neg, w_isWithin, w_isIn, JB_0, JB_1, bz_B, ite10, ite01, Int.natCast_add, csN0, csN1, csN16, Int.toNat_natCast, ite_not, not_true_eq_false, not_false_eq_true]
  · have e5 : sgn tx n p = -1000 := if_neg c
    simp (disch := first | omega | assumption | decide) only [f_X12_sign, e2, e3, e5, z183_0, z183_1, z183_2, z183_3, z183_4, z183_5, z183_6, z183_7, z183_8, z183_9, z183_10, z183_11, z183_12, z183_13, z183_14, z183_15, z183_16, z183_17, z183_18, z183_19, z183_20, z183_21, z183_22, z183_23, z183_24, z183_25, z183_26, z183_27, z183_28, z183_29, z183_30, z183_31, z183_32, z183_33, z183_34, z183_35, z183_36, z183_37, z183_38, z183_39, z183_40, z183_41, z183_42, z184_0, z184_1, z185_0, z185_1, z186_0, z186_1, z187_0, z187_1, z188_0, z188_1, z189_0, z189_1, z190_0, z190_1, z191_0, z191_1, z192_0, z192_1, z193_0, z193_1, z194_0, z194_1, z195_0, z195_1, z196_0, z196_1, z197_0, z197_1, z198_0, z198_1, z198_2, z199_0, z199_1, z200_0, z200_1, z201_0, z201_1, z202_0, z202_1, SN0, SN1, SN2, SN3, SN4, SN5, SN6, SN7, SN8, SN9, SN10, SN11, SN12, SN13, SN14, SN15, SN16, SN17, SN18, SJ0, SJ1, SJ2, SJ3, SJ4, SJ5, bindS, if_pos, if_neg, w_isWithin, w_isIn, JB_0, JB_1, bz_B, ite10, ite01, Int.natCast_add, csN0, csN1, csN16, Int.toNat_natCast, ite_not, not_true_eq_false, not_false_eq_true]
theorem m_takes (M : MD d b o tx n) {p s x : Int} (p0 : 0 ≤ p) (p1 : p ≤ n) (x0 : 0 ≤ x) (x1 : x ≤ 127) : f_X12_takes (mkH (ms d p s)) 183 (J x) = if chS tx n p = x then some (J 1, mkH (ms d (p + 1) s)) else some (J 0, mkH (ms d p s)) := by
  have q := m_sign M (s := s) p0 p1
  obtain ⟨g0, g1, g2⟩ := M.sg p0
  have g2 := g2 x x0
  have e2 := ms_at d p s
  have hn := M.2.2.2.2.1
  by_cases c : chS tx n p = x
  · rw [if_pos c]
    have c' := g2.mpr c
    simp (disch := first | omega | assumption | decide) only [f_X12_takes, q, e2, ms_ua, z183_0, z183_1, z183_2, z183_3, z183_4, z183_5, z183_6, z183_7, z183_8, z183_9, z183_10, z183_11, z183_12, z183_13, z183_14, z183_15, z183_16, z183_17, z183_18, z183_19, z183_20, z183_21, z183_22, z183_23, z183_24, z183_25, z183_26, z183_27, z183_28, z183_29, z183_30, z183_31, z183_32, z183_33, z183_34, z183_35, z183_36, z183_37, z183_38, z183_39, z183_40, z183_41, z183_42, z184_0, z184_1, z185_0, z185_1, z186_0, z186_1, z187_0, z187_1, z188_0, z188_1, z189_0, z189_1, z190_0, z190_1, z191_0, z191_1, z192_0, z192_1, z193_0, z193_1, z194_0, z194_1, z195_0, z195_1, z196_0, z196_1, z197_0, z197_1, z198_0, z198_1, z198_2, z199_0, z199_1, z200_0, z200_1, z201_0, z201_1, z202_0, z202_1, SN0, SN1, SN2, SN3, SN4, SN5, SN6, SN7, SN8, SN9, SN10, SN11, SN12, SN13, SN14, SN15, SN16, SN17, SN18, SJ0, SJ1, SJ2, SJ3, SJ4, SJ5, bindS, if_pos, if_neg, w_isWithin, w_isIn, JB_0, JB_1, bz_B, ite10, ite01, Int.natCast_add, csN0, csN1, csN16, Int.toNat_natCast, ite_not, not_true_eq_false, not_false_eq_true]
  · rw [if_neg c]
    have c' : ¬ sgn tx n p = x := fun h => c (g2.mp h)
    simp (disch := first | omega | assumption | decide) only [f_X12_takes, q, z183_0, z183_1, z183_2, z183_3, z183_4, z183_5, z183_6, z183_7, z183_8, z183_9, z183_10, z183_11, z183_12, z183_13, z183_14, z183_15, z183_16, z183_17, z183_18, z183_19, z183_20, z183_21, z183_22, z183_23, z183_24, z183_25, z183_26, z183_27, z183_28, z183_29, z183_30, z183_31, z183_32, z183_33, z183_34, z183_35, z183_36, z183_37, z183_38, z183_39, z183_40, z183_41, z183_42, z184_0, z184_1, z185_0, z185_1, z186_0, z186_1, z187_0, z187_1, z188_0, z188_1, z189_0, z189_1, z190_0, z190_1, z191_0, z191_1, z192_0, z192_1, z193_0, z193_1, z194_0, z194_1, z195_0, z195_1, z196_0, z196_1, z197_0, z197_1, z198_0, z198_1, z198_2, z199_0, z199_1, z200_0, z200_1, z201_0, z201_1, z202_0, z202_1, SN0, SN1, SN2, SN3, SN4, SN5, SN6, SN7, SN8, SN9, SN10, SN11, SN12, SN13, SN14, SN15, SN16, SN17, SN18, SJ0, SJ1, SJ2, SJ3, SJ4, SJ5, bindS, if_pos, if_neg, w_isWithin, w_isIn, JB_0, JB_1, bz_B, ite10, ite01, Int.natCast_add, csN0, csN1, csN16, Int.toNat_natCast, ite_not, not_true_eq_false, not_false_eq_true]
theorem m_isDigit {x : Int} (x0 : -1000 ≤ x) (x1 : x ≤ 127) : f_X12_isDigit (J x) = some (J (B (isDg x = true))) := by
  by_cases c : 48 ≤ x ∧ x ≤ 57
  · rw [B_t (isDg_iff.mpr c)]
    simp (disch := first | omega | assumption | decide) only [f_X12_isDigit, z183_0, z183_1, z183_2, z183_3, z183_4, z183_5, z183_6, z183_7, z183_8, z183_9, z183_10, z183_11, z183_12, z183_13, z183_14, z183_15, z183_16, z183_17, z183_18, z183_19, z183_20, z183_21, z183_22, z183_23, z183_24, z183_25, z183_26, z183_27, z183_28, z183_29, z183_30, z183_31, z183_32, z183_33, z183_34, z183_35, z183_36, z183_37, z183_38, z183_39, z183_40, z183_41, z183_42, z184_0, z184_1, z185_0, z185_1, z186_0, z186_1, z187_0, z187_1, z188_0, z188_1, z189_0, z189_1, z190_0, z190_1, z191_0, z191_1, z192_0, z192_1, z193_0, z193_1, z194_0, z194_1, z195_0, z195_1, z196_0, z196_1, z197_0, z197_1, z198_0, z198_1, z198_2, z199_0, z199_1, z200_0, z200_1, z201_0, z201_1, z202_0, z202_1, SN0, SN1, SN2, SN3, SN4, SN5, SN6, SN7, SN8, SN9, SN10, SN11, SN12, SN13, SN14, SN15, SN16, SN17, SN18, SJ0, SJ1, SJ2, SJ3, SJ4, SJ5, bindS, if_pos, if_neg, w_isWithin, w_isIn, JB_0, JB_1, bz_B, ite10, ite01, Int.natCast_add, csN0, csN1, csN16, Int.toNat_natCast, ite_not, not_true_eq_false, not_false_eq_true]
  · rw [B_f (fun h => c (isDg_iff.mp h))]
    by_cases c2 : x < 48
    · simp (disch := first | omega | assumption | decide) only [f_X12_isDigit, z183_0, z183_1, z183_2, z183_3, z183_4, z183_5, z183_6, z183_7, z183_8, z183_9, z183_10, z183_11, z183_12, z183_13, z183_14, z183_15, z183_16, z183_17, z183_18, z183_19, z183_20, z183_21, z183_22, z183_23, z183_24, z183_25, z183_26, z183_27, z183_28, z183_29, z183_30, z183_31, z183_32, z183_33, z183_34, z183_35, z183_36, z183_37, z183_38, z183_39, z183_40, z183_41, z183_42, z184_0, z184_1, z185_0, z185_1, z186_0, z186_1, z187_0, z187_1, z188_0, z188_1, z189_0, z189_1, z190_0, z190_1, z191_0, z191_1, z192_0, z192_1, z193_0, z193_1, z194_0, z194_1, z195_0, z195_1, z196_0, z196_1, z197_0, z197_1, z198_0, z198_1, z198_2, z199_0, z199_1, z200_0, z200_1, z201_0, z201_1, z202_0, z202_1, SN0, SN1, SN2, SN3, SN4, SN5, SN6, SN7, SN8, SN9, SN10, SN11, SN12, SN13, SN14, SN15, SN16, SN17, SN18, SJ0, SJ1, SJ2, SJ3, SJ4, SJ5, bindS, if_pos, if_neg, w_isWithin, w_isIn, JB_0, JB_1, bz_B, ite10, ite01, Int.natCast_add, csN0, csN1, csN16, Int.toNat_natCast, ite_not, not_true_eq_false, not_false_eq_true]
    · simp (disch := first | omega | assumption | decide) only [f_X12_isDigit, z183_0, z183_1, z183_2, z183_3, z183_4, z183_5, z183_6, z183_7, z183_8, z183_9, z183_10, z183_11, z183_12, z183_13, z183_14, z183_15, z183_16, z183_17, z183_18, z183_19, z183_20, z183_21, z183_22, z183_23, z183_24, z183_25, z183_26, z183_27, z183_28, z183_29, z183_30, z183_31, z183_32, z183_33, z183_34, z183_35, z183_36, z183_37, z183_38, z183_39, z183_40, z183_41, z183_42, z184_0, z184_1, z185_0, z185_1, z186_0, z186_1, z187_0, z187_1, z188_0, z188_1, z189_0, z189_1, z190_0, z190_1, z191_0, z191_1, z192_0, z192_1, z193_0, z193_1, z194_0, z194_1, z195_0, z195_1, z196_0, z196_1, z197_0, z197_1, z198_0, z198_1, z198_2, z199_0, z199_1, z200_0, z200_1, z201_0, z201_1, z202_0, z202_1, SN0, SN1, SN2, SN3, SN4, SN5, SN6, SN7, SN8, SN9, SN10, SN11, SN12, SN13, SN14, SN15, SN16, SN17, SN18, SJ0, SJ1, SJ2, SJ3, SJ4, SJ5, bindS, if_pos, if_neg, w_isWithin, w_isIn, JB_0, JB_1, bz_B, ite10, ite01, Int.natCast_add, csN0, csN1, csN16, Int.toNat_natCast, ite_not, not_true_eq_false, not_false_eq_true]
theorem m_isField {x : Int} (x0 : -1000 ≤ x) (x1 : x ≤ 127) : f_X12_isField (J x) = some (J (B (isFd x = true))) := by
  by_cases h0 : x = 101
  · subst h0; rfl
  by_cases h1 : x = 103
  · subst h1; rfl
  by_cases h2 : x = 119
  · subst h2; rfl
  by_cases h3 : x = 108
  · subst h3; rfl
  by_cases h4 : x = 114
  · subst h4; rfl
  by_cases h5 : x = 116
  · subst h5; rfl
  by_cases h6 : x = 117
  · subst h6; rfl
  have e : isFd x = false := by simp [isFd, h0, h1, h2, h3, h4, h5, h6]
  rw [e]
  simp (disch := first | omega | assumption | decide) only [f_X12_isField, z183_0, z183_1, z183_2, z183_3, z183_4, z183_5, z183_6, z183_7, z183_8, z183_9, z183_10, z183_11, z183_12, z183_13, z183_14, z183_15, z183_16, z183_17, z183_18, z183_19, z183_20, z183_21, z183_22, z183_23, z183_24, z183_25, z183_26, z183_27, z183_28, z183_29, z183_30, z183_31, z183_32, z183_33, z183_34, z183_35, z183_36, z183_37, z183_38, z183_39, z183_40, z183_41, z183_42, z184_0, z184_1, z185_0, z185_1, z186_0, z186_1, z187_0, z187_1, z188_0, z188_1, z189_0, z189_1, z190_0, z190_1, z191_0, z191_1, z192_0, z192_1, z193_0, z193_1, z194_0, z194_1, z195_0, z195_1, z196_0, z196_1, z197_0, z197_1, z198_0, z198_1, z198_2, z199_0, z199_1, z200_0, z200_1, z201_0, z201_1, z202_0, z202_1, SN0, SN1, SN2, SN3, SN4, SN5, SN6, SN7, SN8, SN9, SN10, SN11, SN12, SN13, SN14, SN15, SN16, SN17, SN18, SJ0, SJ1, SJ2, SJ3, SJ4, SJ5, bindS, if_pos, if_neg, w_isWithin, w_isIn, JB_0, JB_1, bz_B, ite10, ite01, Int.natCast_add, csN0, csN1, csN16, Int.toNat_natCast, ite_not, not_true_eq_false, not_false_eq_true]
  rfl
theorem isDg_sg (M : MD d b o tx n) {p : Int} (p0 : 0 ≤ p) : isDg (sgn tx n p) = isDg (chS tx n p) ∧ isFd (sgn tx n p) = isFd (chS tx n p) ∧ (sgn tx n p = 48 ↔ chS tx n p = 48) := by
  unfold sgn chS
  by_cases c : p < n
  · rw [if_pos c, if_pos ⟨p0, c⟩]
    exact ⟨rfl, rfl, Iff.rfl⟩
  · rw [if_neg c, if_neg (by omega)]
    exact ⟨rfl, rfl, by omega⟩
theorem m_numL (M : MD d b o tx n) {s : Int} : ∀ (k i m : Nat) (p v : Int), i + k = 4 → k < m → 0 ≤ p → p ≤ n → 0 < v → iter (b_X12_readsAtom_61 183 (J 0)) m (J i, mkH (ms d p s)) = some (mkH (ms d (numS (chS tx n) k p v).1 s))
  | 0, i, m + 1, p, v, hi, hm, p0, p1, v0 => by
    have : i = 4 := by omega
    subst this
    exact iter_E (by simp (disch := first | omega | assumption | decide) only [b_X12_readsAtom_61, numS, z183_0, z183_1, z183_2, z183_3, z183_4, z183_5, z183_6, z183_7, z183_8, z183_9, z183_10, z183_11, z183_12, z183_13, z183_14, z183_15, z183_16, z183_17, z183_18, z183_19, z183_20, z183_21, z183_22, z183_23, z183_24, z183_25, z183_26, z183_27, z183_28, z183_29, z183_30, z183_31, z183_32, z183_33, z183_34, z183_35, z183_36, z183_37, z183_38, z183_39, z183_40, z183_41, z183_42, z184_0, z184_1, z185_0, z185_1, z186_0, z186_1, z187_0, z187_1, z188_0, z188_1, z189_0, z189_1, z190_0, z190_1, z191_0, z191_1, z192_0, z192_1, z193_0, z193_1, z194_0, z194_1, z195_0, z195_1, z196_0, z196_1, z197_0, z197_1, z198_0, z198_1, z198_2, z199_0, z199_1, z200_0, z200_1, z201_0, z201_1, z202_0, z202_1, SN0, SN1, SN2, SN3, SN4, SN5, SN6, SN7, SN8, SN9, SN10, SN11, SN12, SN13, SN14, SN15, SN16, SN17, SN18, SJ0, SJ1, SJ2, SJ3, SJ4, SJ5, bindS, if_pos, if_neg, w_isWithin, w_isIn, JB_0, JB_1, bz_B, ite10, ite01, Int.natCast_add, csN0, csN1, csN16, Int.toNat_natCast, ite_not, not_true_eq_false, not_false_eq_true])
  | k + 1, i, m + 1, p, v, hi, hm, p0, p1, v0 => by
    have hn := M.2.2.2.2.1
    have q := m_sign M (s := s) p0 p1
    obtain ⟨g0, g1, -⟩ := M.sg p0
    have q2 := m_isDigit g0 g1
    rw [(isDg_sg M p0).1] at q2
    have e2 := ms_at d p s
    have nv : ¬ v = 0 := by omega
    by_cases c1 : isDg (chS tx n p) = true
    · rw [B_t c1] at q2
      have c1' := isDg_iff.mp c1
      have hlt := ch_lt (tx := tx) (n := n) (p := p) (by omega)
      rw [iter_S (t := (J ((i + 1 : Nat) : Int), mkH (ms d (p + 1) s))) (by simp (disch := first | omega | assumption | decide) only [b_X12_readsAtom_61, q, q2, e2, ms_ua, z183_0, z183_1, z183_2, z183_3, z183_4, z183_5, z183_6, z183_7, z183_8, z183_9, z183_10, z183_11, z183_12, z183_13, z183_14, z183_15, z183_16, z183_17, z183_18, z183_19, z183_20, z183_21, z183_22, z183_23, z183_24, z183_25, z183_26, z183_27, z183_28, z183_29, z183_30, z183_31, z183_32, z183_33, z183_34, z183_35, z183_36, z183_37, z183_38, z183_39, z183_40, z183_41, z183_42, z184_0, z184_1, z185_0, z185_1, z186_0, z186_1, z187_0, z187_1, z188_0, z188_1, z189_0, z189_1, z190_0, z190_1, z191_0, z191_1, z192_0, z192_1, z193_0, z193_1, z194_0, z194_1, z195_0, z195_1, z196_0, z196_1, z197_0, z197_1, z198_0, z198_1, z198_2, z199_0, z199_1, z200_0, z200_1, z201_0, z201_1, z202_0, z202_1, SN0, SN1, SN2, SN3, SN4, SN5, SN6, SN7, SN8, SN9, SN10, SN11, SN12, SN13, SN14, SN15, SN16, SN17, SN18, SJ0, SJ1, SJ2, SJ3, SJ4, SJ5, bindS, if_pos, if_neg, w_isWithin, w_isIn, JB_0, JB_1, bz_B, ite10, ite01, Int.natCast_add, csN0, csN1, csN16, Int.toNat_natCast, ite_not, not_true_eq_false, not_false_eq_true])]
      rw [m_numL M k (i + 1) m (p + 1) (10 * v + chS tx n p - 48) (by omega) (by omega) (by omega) (by omega) (by omega)]
      conv => rhs; unfold numS
      rw [if_neg (fun h => by
        rcases h with h | h
        · exact nv h
        · rw [c1] at h; exact Bool.noConfusion h)]
    · rw [B_f c1] at q2
      rw [iter_E (e := mkH (ms d p s)) (by simp (disch := first | omega | assumption | decide) only [b_X12_readsAtom_61, q, q2, z183_0, z183_1, z183_2, z183_3, z183_4, z183_5, z183_6, z183_7, z183_8, z183_9, z183_10, z183_11, z183_12, z183_13, z183_14, z183_15, z183_16, z183_17, z183_18, z183_19, z183_20, z183_21, z183_22, z183_23, z183_24, z183_25, z183_26, z183_27, z183_28, z183_29, z183_30, z183_31, z183_32, z183_33, z183_34, z183_35, z183_36, z183_37, z183_38, z183_39, z183_40, z183_41, z183_42, z184_0, z184_1, z185_0, z185_1, z186_0, z186_1, z187_0, z187_1, z188_0, z188_1, z189_0, z189_1, z190_0, z190_1, z191_0, z191_1, z192_0, z192_1, z193_0, z193_1, z194_0, z194_1, z195_0, z195_1, z196_0, z196_1, z197_0, z197_1, z198_0, z198_1, z198_2, z199_0, z199_1, z200_0, z200_1, z201_0, z201_1, z202_0, z202_1, SN0, SN1, SN2, SN3, SN4, SN5, SN6, SN7, SN8, SN9, SN10, SN11, SN12, SN13, SN14, SN15, SN16, SN17, SN18, SJ0, SJ1, SJ2, SJ3, SJ4, SJ5, bindS, if_pos, if_neg, w_isWithin, w_isIn, JB_0, JB_1, bz_B, ite10, ite01, Int.natCast_add, csN0, csN1, csN16, Int.toNat_natCast, ite_not, not_true_eq_false, not_false_eq_true])]
      unfold numS
      rw [if_pos (Or.inr (by cases hq : isDg (chS tx n p) <;> simp_all))]
theorem m_atom (M : MD d b o tx n) {fld : Int → Int32} {p s : Int} (p0 : 0 ≤ p) (p1 : p ≤ n) : f_X12_readsAtom (mkH (ms d p s)) 183 = some (J (B ((atomS (chS tx n) fld p).2.1 = true)), mkH (ms d (atomS (chS tx n) fld p).1 s)) := by
  have hn := M.2.2.2.2.1
  have q := m_sign M (s := s) p0 p1
  obtain ⟨g0, g1, -⟩ := M.sg p0
  have q2 := m_isDigit g0 g1
  have q3 := m_isField g0 g1
  obtain ⟨d1, d2, d3⟩ := isDg_sg M p0
  rw [d1] at q2
  rw [d2] at q3
  have e2 := ms_at d p s
  by_cases c : isFd (chS tx n p) = true
  · rw [B_t c] at q3
    have ea : atomS (chS tx n) fld p = (p + 1, true, fld (chS tx n p)) := by unfold atomS; rw [if_pos c]
    rw [ea]
    simp (disch := first | omega | assumption | decide) only [f_X12_readsAtom, q, q3, e2, ms_ua, z183_0, z183_1, z183_2, z183_3, z183_4, z183_5, z183_6, z183_7, z183_8, z183_9, z183_10, z183_11, z183_12, z183_13, z183_14, z183_15, z183_16, z183_17, z183_18, z183_19, z183_20, z183_21, z183_22, z183_23, z183_24, z183_25, z183_26, z183_27, z183_28, z183_29, z183_30, z183_31, z183_32, z183_33, z183_34, z183_35, z183_36, z183_37, z183_38, z183_39, z183_40, z183_41, z183_42, z184_0, z184_1, z185_0, z185_1, z186_0, z186_1, z187_0, z187_1, z188_0, z188_1, z189_0, z189_1, z190_0, z190_1, z191_0, z191_1, z192_0, z192_1, z193_0, z193_1, z194_0, z194_1, z195_0, z195_1, z196_0, z196_1, z197_0, z197_1, z198_0, z198_1, z198_2, z199_0, z199_1, z200_0, z200_1, z201_0, z201_1, z202_0, z202_1, SN0, SN1, SN2, SN3, SN4, SN5, SN6, SN7, SN8, SN9, SN10, SN11, SN12, SN13, SN14, SN15, SN16, SN17, SN18, SJ0, SJ1, SJ2, SJ3, SJ4, SJ5, bindS, if_pos, if_neg, w_isWithin, w_isIn, JB_0, JB_1, bz_B, ite10, ite01, Int.natCast_add, csN0, csN1, csN16, Int.toNat_natCast, ite_not, not_true_eq_false, not_false_eq_true]
    rfl
  · rw [B_f c] at q3
    by_cases c2 : isDg (chS tx n p) = true
    · rw [B_t c2] at q2
      have c2' := isDg_iff.mp c2
      have hlt := ch_lt (tx := tx) (n := n) (p := p) (by omega)
      have ea : atomS (chS tx n) fld p = ((numS (chS tx n) 3 (p + 1) (chS tx n p - 48)).1, true, J (numS (chS tx n) 3 (p + 1) (chS tx n p - 48)).2) := by unfold atomS; rw [if_neg c, if_pos c2]
      rw [ea]
      by_cases c3 : chS tx n p = 48
      · have c3' := d3.mpr c3
        have L : iter (b_X12_readsAtom_61 183 (J 1)) FU (J 1, mkH (ms d (p + 1) s)) = some (mkH (ms d (p + 1) s)) := iter_E (n := 999999999) (by simp (disch := first | omega | assumption | decide) only [b_X12_readsAtom_61, z183_0, z183_1, z183_2, z183_3, z183_4, z183_5, z183_6, z183_7, z183_8, z183_9, z183_10, z183_11, z183_12, z183_13, z183_14, z183_15, z183_16, z183_17, z183_18, z183_19, z183_20, z183_21, z183_22, z183_23, z183_24, z183_25, z183_26, z183_27, z183_28, z183_29, z183_30, z183_31, z183_32, z183_33, z183_34, z183_35, z183_36, z183_37, z183_38, z183_39, z183_40, z183_41, z183_42, z184_0, z184_1, z185_0, z185_1, z186_0, z186_1, z187_0, z187_1, z188_0, z188_1, z189_0, z189_1, z190_0, z190_1, z191_0, z191_1, z192_0, z192_1, z193_0, z193_1, z194_0, z194_1, z195_0, z195_1, z196_0, z196_1, z197_0, z197_1, z198_0, z198_1, z198_2, z199_0, z199_1, z200_0, z200_1, z201_0, z201_1, z202_0, z202_1, SN0, SN1, SN2, SN3, SN4, SN5, SN6, SN7, SN8, SN9, SN10, SN11, SN12, SN13, SN14, SN15, SN16, SN17, SN18, SJ0, SJ1, SJ2, SJ3, SJ4, SJ5, bindS, if_pos, if_neg, w_isWithin, w_isIn, JB_0, JB_1, bz_B, ite10, ite01, Int.natCast_add, csN0, csN1, csN16, Int.toNat_natCast, ite_not, not_true_eq_false, not_false_eq_true])
        have en : numS (chS tx n) 3 (p + 1) (chS tx n p - 48) = (p + 1, 0) := by
          rw [c3]
          unfold numS
          rw [if_pos (show (48 - 48 : Int) = 0 ∨ isDg (chS tx n (p + 1)) = false from Or.inl (by decide))]
          rfl
        rw [en]
        have eB : ∀ [Decidable (sgn tx n p = 48)], B (sgn tx n p = 48) = 1 := fun {_} => B_t c3'
        simp (disch := first | omega | assumption | decide) only [f_X12_readsAtom, q, q2, q3, e2, ms_ua, eB, L, z183_0, z183_1, z183_2, z183_3, z183_4, z183_5, z183_6, z183_7, z183_8, z183_9, z183_10, z183_11, z183_12, z183_13, z183_14, z183_15, z183_16, z183_17, z183_18, z183_19, z183_20, z183_21, z183_22, z183_23, z183_24, z183_25, z183_26, z183_27, z183_28, z183_29, z183_30, z183_31, z183_32, z183_33, z183_34, z183_35, z183_36, z183_37, z183_38, z183_39, z183_40, z183_41, z183_42, z184_0, z184_1, z185_0, z185_1, z186_0, z186_1, z187_0, z187_1, z188_0, z188_1, z189_0, z189_1, z190_0, z190_1, z191_0, z191_1, z192_0, z192_1, z193_0, z193_1, z194_0, z194_1, z195_0, z195_1, z196_0, z196_1, z197_0, z197_1, z198_0, z198_1, z198_2, z199_0, z199_1, z200_0, z200_1, z201_0, z201_1, z202_0, z202_1, SN0, SN1, SN2, SN3, SN4, SN5, SN6, SN7, SN8, SN9, SN10, SN11, SN12, SN13, SN14, SN15, SN16, SN17, SN18, SJ0, SJ1, SJ2, SJ3, SJ4, SJ5, bindS, if_pos, if_neg, w_isWithin, w_isIn, JB_0, JB_1, bz_B, ite10, ite01, Int.natCast_add, csN0, csN1, csN16, Int.toNat_natCast, ite_not, not_true_eq_false, not_false_eq_true]
        rfl
      · have c3' : ¬ sgn tx n p = 48 := fun h => c3 (d3.mp h)
        have L := m_numL M (s := s) 3 1 FU (p + 1) (chS tx n p - 48) (by decide) (by decide) (by omega) (by omega) (by omega)
        have L : iter (b_X12_readsAtom_61 183 (J 0)) FU (J 1, mkH (ms d (p + 1) s)) = _ := L
        have eB : ∀ [Decidable (sgn tx n p = 48)], B (sgn tx n p = 48) = 0 := fun {_} => B_f c3'
        simp (disch := first | omega | assumption | decide) only [f_X12_readsAtom, q, q2, q3, e2, ms_ua, eB, L, z183_0, z183_1, z183_2, z183_3, z183_4, z183_5, z183_6, z183_7, z183_8, z183_9, z183_10, z183_11, z183_12, z183_13, z183_14, z183_15, z183_16, z183_17, z183_18, z183_19, z183_20, z183_21, z183_22, z183_23, z183_24, z183_25, z183_26, z183_27, z183_28, z183_29, z183_30, z183_31, z183_32, z183_33, z183_34, z183_35, z183_36, z183_37, z183_38, z183_39, z183_40, z183_41, z183_42, z184_0, z184_1, z185_0, z185_1, z186_0, z186_1, z187_0, z187_1, z188_0, z188_1, z189_0, z189_1, z190_0, z190_1, z191_0, z191_1, z192_0, z192_1, z193_0, z193_1, z194_0, z194_1, z195_0, z195_1, z196_0, z196_1, z197_0, z197_1, z198_0, z198_1, z198_2, z199_0, z199_1, z200_0, z200_1, z201_0, z201_1, z202_0, z202_1, SN0, SN1, SN2, SN3, SN4, SN5, SN6, SN7, SN8, SN9, SN10, SN11, SN12, SN13, SN14, SN15, SN16, SN17, SN18, SJ0, SJ1, SJ2, SJ3, SJ4, SJ5, bindS, if_pos, if_neg, w_isWithin, w_isIn, JB_0, JB_1, bz_B, ite10, ite01, Int.natCast_add, csN0, csN1, csN16, Int.toNat_natCast, ite_not, not_true_eq_false, not_false_eq_true]
        rfl
    · rw [B_f c2] at q2
      have ea : atomS (chS tx n) fld p = (p, false, 0) := by unfold atomS; rw [if_neg c, if_neg c2]
      rw [ea]
      simp (disch := first | omega | assumption | decide) only [f_X12_readsAtom, q, q2, q3, z183_0, z183_1, z183_2, z183_3, z183_4, z183_5, z183_6, z183_7, z183_8, z183_9, z183_10, z183_11, z183_12, z183_13, z183_14, z183_15, z183_16, z183_17, z183_18, z183_19, z183_20, z183_21, z183_22, z183_23, z183_24, z183_25, z183_26, z183_27, z183_28, z183_29, z183_30, z183_31, z183_32, z183_33, z183_34, z183_35, z183_36, z183_37, z183_38, z183_39, z183_40, z183_41, z183_42, z184_0, z184_1, z185_0, z185_1, z186_0, z186_1, z187_0, z187_1, z188_0, z188_1, z189_0, z189_1, z190_0, z190_1, z191_0, z191_1, z192_0, z192_1, z193_0, z193_1, z194_0, z194_1, z195_0, z195_1, z196_0, z196_1, z197_0, z197_1, z198_0, z198_1, z198_2, z199_0, z199_1, z200_0, z200_1, z201_0, z201_1, z202_0, z202_1, SN0, SN1, SN2, SN3, SN4, SN5, SN6, SN7, SN8, SN9, SN10, SN11, SN12, SN13, SN14, SN15, SN16, SN17, SN18, SJ0, SJ1, SJ2, SJ3, SJ4, SJ5, bindS, if_pos, if_neg, w_isWithin, w_isIn, JB_0, JB_1, bz_B, ite10, ite01, Int.natCast_add, csN0, csN1, csN16, Int.toNat_natCast, ite_not, not_true_eq_false, not_false_eq_true]
      rfl
end
