/-! NUMBERS: J and K against the integers -/
theorem J_add (a b : Int) : J a + J b = J (a + b) := (Int32.ofInt_add a b).symm
theorem J_sub (a b : Int) : J a - J b = J (a - b) := (Int32.ofInt_sub a b).symm
theorem J_mul (a b : Int) : J a * J b = J (a * b) := (Int32.ofInt_mul a b).symm
theorem J_neg (a : Int) : -J a = J (-a) := (Int32.ofInt_neg a).symm
theorem K_add (a b : Int) : K a + K b = K (a + b) := (Int64.ofInt_add a b).symm
theorem K_sub (a b : Int) : K a - K b = K (a - b) := (Int64.ofInt_sub a b).symm
theorem K_mul (a b : Int) : K a * K b = K (a * b) := (Int64.ofInt_mul a b).symm
theorem K_neg (a : Int) : -K a = K (-a) := (Int64.ofInt_neg a).symm
theorem J_zero : (0 : Int32) = J 0 := rfl
theorem J_one : (1 : Int32) = J 1 := rfl
theorem K_zero : (0 : Int64) = K 0 := rfl
theorem J_toI {z : Int} (h1 : -2147483648 ≤ z) (h2 : z < 2147483648) : (J z).toInt = z := by
  unfold J
  rw [Int32.toInt_ofInt, show Int32.size = 4294967296 from rfl]
  exact Int.bmod_eq_of_le (by omega) (by omega)
theorem K_toI {z : Int} (h1 : -9223372036854775808 ≤ z) (h2 : z < 9223372036854775808) : (K z).toInt = z := by
  unfold K
  rw [Int64.toInt_ofInt, show Int64.size = 18446744073709551616 from rfl]
  exact Int.bmod_eq_of_le (by omega) (by omega)
theorem J_of (x : Int32) : ∃ z : Int, -2147483648 ≤ z ∧ z < 2147483648 ∧ x = J z := ⟨x.toInt, by have := Int32.le_toInt x; omega, by have := Int32.toInt_lt x; omega, (J_toInt x).symm⟩
theorem J_lt {a b : Int} (a1 : -2147483648 ≤ a) (a2 : a < 2147483648) (b1 : -2147483648 ≤ b) (b2 : b < 2147483648) : J a < J b ↔ a < b := by
  rw [Int32.lt_iff_toInt_lt, J_toI a1 a2, J_toI b1 b2]
theorem J_le {a b : Int} (a1 : -2147483648 ≤ a) (a2 : a < 2147483648) (b1 : -2147483648 ≤ b) (b2 : b < 2147483648) : J a ≤ J b ↔ a ≤ b := by
  rw [Int32.le_iff_toInt_le, J_toI a1 a2, J_toI b1 b2]
theorem J_eq {a b : Int} (a1 : -2147483648 ≤ a) (a2 : a < 2147483648) (b1 : -2147483648 ≤ b) (b2 : b < 2147483648) : J a = J b ↔ a = b := by
  rw [← Int32.toInt_inj, J_toI a1 a2, J_toI b1 b2]
theorem J_nat {a : Int} (a1 : -2147483648 ≤ a) (a2 : a < 2147483648) : (J a).toNatClampNeg = a.toNat := by
  show (J a).toInt.toNat = _
  rw [J_toI a1 a2]
theorem K_lt {a b : Int} (a1 : -9223372036854775808 ≤ a) (a2 : a < 9223372036854775808) (b1 : -9223372036854775808 ≤ b) (b2 : b < 9223372036854775808) : K a < K b ↔ a < b := by
  rw [Int64.lt_iff_toInt_lt, K_toI a1 a2, K_toI b1 b2]
theorem K_le {a b : Int} (a1 : -9223372036854775808 ≤ a) (a2 : a < 9223372036854775808) (b1 : -9223372036854775808 ≤ b) (b2 : b < 9223372036854775808) : K a ≤ K b ↔ a ≤ b := by
  rw [Int64.le_iff_toInt_le, K_toI a1 a2, K_toI b1 b2]
theorem K_eq {a b : Int} (a1 : -9223372036854775808 ≤ a) (a2 : a < 9223372036854775808) (b1 : -9223372036854775808 ≤ b) (b2 : b < 9223372036854775808) : K a = K b ↔ a = b := by
  rw [← Int64.toInt_inj, K_toI a1 a2, K_toI b1 b2]
theorem J_64 {a : Int} (a1 : -2147483648 ≤ a) (a2 : a < 2147483648) : (J a).toInt64 = K a := by
  rw [← Int64.toInt_inj, Int32.toInt_toInt64, J_toI a1 a2, K_toI (by omega) (by omega)]
theorem K_32 {a : Int} (a1 : -2147483648 ≤ a) (a2 : a < 2147483648) : (K a).toInt32 = J a := by
  rw [← Int32.toInt_inj, Int64.toInt_toInt32, J_toI a1 a2, K_toI (by omega) (by omega)]
  exact Int.bmod_eq_of_le (by omega) (by omega)
theorem J_div {a b : Int} (a1 : 0 ≤ a) (a2 : a < 2147483648) (b1 : 0 < b) (b2 : b < 2147483648) : J a / J b = J (a / b) := by
  have h1 : a / b ≤ a := Int.ediv_le_self b a1
  have h0 : 0 ≤ a / b := Int.ediv_nonneg a1 (by omega)
  rw [← Int32.toInt_inj, Int32.toInt_div, J_toI (by omega) a2, J_toI (by omega) b2, J_toI (by omega) (by omega), Int.tdiv_eq_ediv_of_nonneg a1]
  exact Int.bmod_eq_of_le (by omega) (by omega)
theorem J_mod {a b : Int} (a1 : 0 ≤ a) (a2 : a < 2147483648) (b1 : 0 < b) (b2 : b < 2147483648) : J a - J a / J b * J b = J (a % b) := by
  rw [J_div a1 a2 b1 b2, J_mul, J_sub, Int.emod_def, Int.mul_comm]
theorem K_div {a b : Int} (a1 : 0 ≤ a) (a2 : a < 9223372036854775808) (b1 : 0 < b) (b2 : b < 9223372036854775808) : K a / K b = K (a / b) := by
  have h1 : a / b ≤ a := Int.ediv_le_self b a1
  have h0 : 0 ≤ a / b := Int.ediv_nonneg a1 (by omega)
  rw [← Int64.toInt_inj, Int64.toInt_div, K_toI (by omega) a2, K_toI (by omega) b2, K_toI (by omega) (by omega), Int.tdiv_eq_ediv_of_nonneg a1]
  exact Int.bmod_eq_of_le (by omega) (by omega)
theorem K_mod {a b : Int} (a1 : 0 ≤ a) (a2 : a < 9223372036854775808) (b1 : 0 < b) (b2 : b < 9223372036854775808) : K a - K a / K b * K b = K (a % b) := by
  rw [K_div a1 a2 b1 b2, K_mul, K_sub, Int.emod_def, Int.mul_comm]
theorem nz_J {b : Int} (b1 : -2147483648 ≤ b) (b2 : b < 2147483648) (h : b ≠ 0) : nz (J b) = some () := by
  unfold nz
  rw [if_neg]
  rw [J_zero, J_eq b1 b2 (by omega) (by omega)]
  exact h
theorem nzL_K {b : Int} (b1 : -9223372036854775808 ≤ b) (b2 : b < 9223372036854775808) (h : b ≠ 0) : nzL (K b) = some () := by
  unfold nzL
  rw [if_neg]
  rw [K_zero, K_eq b1 b2 (by omega) (by omega)]
  exact h
theorem bz_0 : bz (J 0) = some () := rfl
theorem bz_1 : bz (J 1) = some () := rfl
/-! heaps: arrays of ints as integers -/
theorem gI_at {h : Hp} {a ci j : Nat} {fs : List Value} {v : Int32} (ho : h a = some (ci, .inl fs)) (hv : fs[j]? = some (.int v)) : gI h a ci j = some v := by
  simp [gI, ho, hv]
theorem gL_at {h : Hp} {a ci j : Nat} {fs : List Value} {v : Int64} (ho : h a = some (ci, .inl fs)) (hv : fs[j]? = some (.long v)) : gL h a ci j = some v := by
  simp [gL, ho, hv]
theorem gR_at {h : Hp} {a ci j : Nat} {fs : List Value} {v : Nat} (ho : h a = some (ci, .inl fs)) (hv : fs[j]? = some (.ref v)) : gR h a ci j = some v := by
  simp [gR, ho, hv]
theorem pF_at {h : Hp} {a ci j : Nat} {fs : List Value} {v : Value} (ho : h a = some (ci, .inl fs)) (hj : j < fs.length) : pF h a ci j v = some (va_up h a (some (ci, .inl (fs.set j v)))) := by
  simp [pF, ho, hj]
theorem isO_at {h : Hp} {a ci : Nat} {fs : List Value} (ho : h a = some (ci, .inl fs)) : isO h a ci = some () := by
  simp [isO, ho]
/-! loops -/
theorem iter_S {σ ε : Type} {b : σ → Option (σ ⊕ ε)} {n : Nat} {s t : σ} (h : b s = some (.inl t)) : iter b (n + 1) s = iter b n t := by simp [iter, h]
theorem iter_E {σ ε : Type} {b : σ → Option (σ ⊕ ε)} {n : Nat} {s : σ} {e : ε} (h : b s = some (.inr e)) : iter b (n + 1) s = some e := by simp [iter, h]
/-- a loop whose states are known: S i before the round i, N rounds, then e -/
theorem iter_fn {σ ε : Type} {b : σ → Option (σ ⊕ ε)} (S : Nat → σ) (N : Nat) {e : ε} (hN : N < 100000000) (hs : ∀ i, i < N → b (S i) = some (.inl (S (i + 1)))) (he : b (S N) = some (.inr e)) : iter b FU (S 0) = some e := by
  have key : ∀ (d i m : Nat), i + d = N → d < m → iter b m (S i) = some e := by
    intro d
    induction d with
    | zero =>
      intro i m hi hm
      obtain ⟨m', rfl⟩ : ∃ m', m = m' + 1 := ⟨m - 1, by omega⟩
      rw [show i = N by omega]
      exact iter_E he
    | succ d ih =>
      intro i m hi hm
      obtain ⟨m', rfl⟩ : ∃ m', m = m' + 1 := ⟨m - 1, by omega⟩
      rw [iter_S (hs i (by omega))]
      exact ih (i + 1) m' (by omega) (by omega)
  exact key N 0 FU (by omega) (by unfold FU; omega)
/-- a loop with an invariant: it ends, at the latest before the round N -/
theorem iter_inv {σ ε : Type} {b : σ → Option (σ ⊕ ε)} (I : Nat → σ → Prop) (Q : ε → Prop) (N : Nat) (hN : N < 100000000) {s : σ} (h0 : I 0 s)
    (hs : ∀ i s, i ≤ N → I i s → (∃ t, i < N ∧ b s = some (.inl t) ∧ I (i + 1) t) ∨ ∃ e, b s = some (.inr e) ∧ Q e) : ∃ e, iter b FU s = some e ∧ Q e := by
  have key : ∀ (d i m : Nat) (s : σ), i + d = N → d < m → I i s → ∃ e, iter b m s = some e ∧ Q e := by
    intro d
    induction d with
    | zero =>
      intro i m s hi hm h
      obtain ⟨m', rfl⟩ : ∃ m', m = m' + 1 := ⟨m - 1, by omega⟩
      rcases hs i s (by omega) h with ⟨t, hlt, -⟩ | ⟨e, he, hq⟩
      · omega
      · exact ⟨e, iter_E he, hq⟩
    | succ d ih =>
      intro i m s hi hm h
      obtain ⟨m', rfl⟩ : ∃ m', m = m' + 1 := ⟨m - 1, by omega⟩
      rcases hs i s (by omega) h with ⟨t, hlt, ht, hI⟩ | ⟨e, he, hq⟩
      · obtain ⟨e, h1, h2⟩ := ih (i + 1) m' t (by omega) (by omega) hI
        exact ⟨e, by rw [iter_S ht]; exact h1, h2⟩
      · exact ⟨e, iter_E he, hq⟩
  exact key N 0 FU s (by omega) (by unfold FU; omega) h0
