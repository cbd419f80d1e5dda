/-! gears at any number, comparisons, truths -/
/-- a row of 16, nought elsewhere -/
def tr (f : Int → Int) : Int → Int := fun y => if 0 ≤ y ∧ y < 16 then f y else 0
theorem tr_at {f : Int → Int} {y : Int} (h0 : 0 ≤ y) (h1 : y < 16) : tr f y = f y := if_pos ⟨h0, h1⟩
theorem tr_cong {f g : Int → Int} (h : ∀ y, 0 ≤ y → y < 16 → f y = g y) : tr f = tr g := by
  funext y
  unfold tr
  by_cases c : 0 ≤ y ∧ y < 16
  · rw [if_pos c, if_pos c, h y c.1 c.2]
  · rw [if_neg c, if_neg c]
def cw (d : Mem) (g : Nat) : Int → Int := tr (d (g + 1))
def vw (d : Mem) (r : Nat) (i : Int) : Int → Int := tr (fun y => d r (19 * i + 3 + y))
theorem cw_at {d : Mem} {g : Nat} {y : Int} (h0 : 0 ≤ y) (h1 : y < 16) : cw d g y = d (g + 1) y := tr_at h0 h1
theorem vw_at {d : Mem} {r : Nat} {i y : Int} (h0 : 0 ≤ y) (h1 : y < 16) : vw d r i y = d r (19 * i + 3 + y) := tr_at h0 h1
def isG (g : Nat) : Prop := shO g = some (0, [0, 0, 0, 0, 101 + g]) ∧ shR (g + 1) = some (0, 16)
theorem SG0 : ∀ (d : Mem) (g : Nat), isG g → isO (mkH d) g 0 = some () := fun d g h => q_isO h.1
theorem SG1 : ∀ (d : Mem) (g : Nat), isG g → gI (mkH d) g 0 0 = some (J (d g 0)) := fun d g h => q_gI h.1 rfl
theorem SG2 : ∀ (d : Mem) (g : Nat), isG g → gI (mkH d) g 0 1 = some (J (d g 1)) := fun d g h => q_gI h.1 rfl
theorem SG3 : ∀ (d : Mem) (g : Nat), isG g → gI (mkH d) g 0 2 = some (J (d g 2)) := fun d g h => q_gI h.1 rfl
theorem SG4 : ∀ (d : Mem) (g : Nat), isG g → gI (mkH d) g 0 3 = some (J (d g 3)) := fun d g h => q_gI h.1 rfl
theorem SG5 : ∀ (d : Mem) (g : Nat), isG g → gR (mkH d) g 0 4 = some (g + 1) := fun d g h => q_gR (r := g + 1) h.1 (by simp; omega)
theorem SG6 : ∀ (d : Mem) (g : Nat) (v : Int), isG g → pF (mkH d) g 0 0 (.int (J v)) = some (mkH (up d g 0 v)) := fun d g v h => q_pI h.1 rfl
theorem SG7 : ∀ (d : Mem) (g : Nat) (v : Int), isG g → pF (mkH d) g 0 1 (.int (J v)) = some (mkH (up d g 1 v)) := fun d g v h => q_pI h.1 rfl
theorem SG8 : ∀ (d : Mem) (g : Nat) (v : Int), isG g → pF (mkH d) g 0 2 (.int (J v)) = some (mkH (up d g 2 v)) := fun d g v h => q_pI h.1 rfl
theorem SG9 : ∀ (d : Mem) (g : Nat) (v : Int), isG g → pF (mkH d) g 0 3 (.int (J v)) = some (mkH (up d g 3 v)) := fun d g v h => q_pI h.1 rfl
theorem SG10 : ∀ (d : Mem) (g : Nat) (i : Int), isG g → 0 ≤ i → i < 16 → aI (mkH d) (g + 1) (J i) = some (J (cw d g i)) := fun d g i h h0 h1 => by rw [cw_at h0 h1]; exact q_aI (len := 16) h.2 (by decide) h0 h1
theorem SG11 : ∀ (d : Mem) (g : Nat) (i v : Int), isG g → 0 ≤ i → i < 16 → sI (mkH d) (g + 1) (J i) (J v) = some (mkH (up d (g + 1) i v)) := fun d g i v h h0 h1 => q_sI (len := 16) h.2 (by decide) h0 h1
theorem SG12 : ∀ (d : Mem) (g : Nat), isG g → aN (mkH d) (g + 1) = some (J 16) := fun d g h => q_aN (len := 16) h.2 (by decide)
theorem isG_1 {i : Int} (h0 : 0 ≤ i) (h1 : i < 12) : isG (gA 1 i) := by
  have key : ∀ n : Nat, n < 12 → isG (1 + 5 + 2 * n) := by
    intro n hn
    match n, hn with
    | 0, _ | 1, _ | 2, _ | 3, _ | 4, _ | 5, _ | 6, _ | 7, _ | 8, _ | 9, _ | 10, _ | 11, _ => exact ⟨rfl, rfl⟩
    | k + 12, h => omega
  exact key _ (by omega)
theorem isG_30 {i : Int} (h0 : 0 ≤ i) (h1 : i < 12) : isG (gA 30 i) := by
  have key : ∀ n : Nat, n < 12 → isG (30 + 5 + 2 * n) := by
    intro n hn
    match n, hn with
    | 0, _ | 1, _ | 2, _ | 3, _ | 4, _ | 5, _ | 6, _ | 7, _ | 8, _ | 9, _ | 10, _ | 11, _ => exact ⟨rfl, rfl⟩
    | k + 12, h => omega
  exact key _ (by omega)
theorem isG_77 {i : Int} (h0 : 0 ≤ i) (h1 : i < 12) : isG (gA 77 i) := by
  have key : ∀ n : Nat, n < 12 → isG (77 + 5 + 2 * n) := by
    intro n hn
    match n, hn with
    | 0, _ | 1, _ | 2, _ | 3, _ | 4, _ | 5, _ | 6, _ | 7, _ | 8, _ | 9, _ | 10, _ | 11, _ => exact ⟨rfl, rfl⟩
    | k + 12, h => omega
  exact key _ (by omega)
theorem isG_S {i : Int} (h0 : 0 ≤ i) (h1 : i < 8) : isG (sA i + 1) := by
  have key : ∀ n : Nat, n < 8 → isG (151 + 4 * n + 1) := by
    intro n hn
    match n, hn with
    | 0, _ | 1, _ | 2, _ | 3, _ | 4, _ | 5, _ | 6, _ | 7, _ => exact ⟨rfl, rfl⟩
    | k + 8, h => omega
  exact key _ (by omega)
theorem isG_136 : isG 136 := ⟨rfl, rfl⟩
theorem isG_138 : isG 138 := ⟨rfl, rfl⟩
/-- shelves -/
def isS (a : Nat) : Prop := shO a = some (7, [0, 101 + a, 0, 0, 103 + a]) ∧ shR (a + 3) = some (0, 120)
theorem isS_A {i : Int} (h0 : 0 ≤ i) (h1 : i < 8) : isS (sA i) := by
  have key : ∀ n : Nat, n < 8 → isS (151 + 4 * n) := by
    intro n hn
    match n, hn with
    | 0, _ | 1, _ | 2, _ | 3, _ | 4, _ | 5, _ | 6, _ | 7, _ => exact ⟨rfl, rfl⟩
    | k + 8, h => omega
  exact key _ (by omega)
theorem SS0 : ∀ (d : Mem) (g : Nat), isS g → isO (mkH d) g 7 = some () := fun d g h => q_isO h.1
theorem SS1 : ∀ (d : Mem) (g : Nat), isS g → gI (mkH d) g 7 0 = some (J (d g 0)) := fun d g h => q_gI h.1 rfl
theorem SS2 : ∀ (d : Mem) (g : Nat), isS g → gR (mkH d) g 7 1 = some (g + 1) := fun d g h => q_gR (r := g + 1) h.1 (by simp; omega)
theorem SS3 : ∀ (d : Mem) (g : Nat), isS g → gI (mkH d) g 7 2 = some (J (d g 2)) := fun d g h => q_gI h.1 rfl
theorem SS4 : ∀ (d : Mem) (g : Nat), isS g → gI (mkH d) g 7 3 = some (J (d g 3)) := fun d g h => q_gI h.1 rfl
theorem SS5 : ∀ (d : Mem) (g : Nat), isS g → gR (mkH d) g 7 4 = some (g + 3) := fun d g h => q_gR (r := g + 3) h.1 (by simp; omega)
theorem SS6 : ∀ (d : Mem) (g : Nat) (v : Int), isS g → pF (mkH d) g 7 0 (.int (J v)) = some (mkH (up d g 0 v)) := fun d g v h => q_pI h.1 rfl
theorem SS7 : ∀ (d : Mem) (g : Nat) (v : Int), isS g → pF (mkH d) g 7 2 (.int (J v)) = some (mkH (up d g 2 v)) := fun d g v h => q_pI h.1 rfl
theorem SS8 : ∀ (d : Mem) (g : Nat) (v : Int), isS g → pF (mkH d) g 7 3 (.int (J v)) = some (mkH (up d g 3 v)) := fun d g v h => q_pI h.1 rfl
theorem SS9 : ∀ (d : Mem) (g : Nat) (i : Int), isS g → 0 ≤ i → i < 120 → aI (mkH d) (g + 3) (J i) = some (J (d (g + 3) i)) := fun d g i h h0 h1 => q_aI (len := 120) h.2 (by decide) h0 h1
theorem SS10 : ∀ (d : Mem) (g : Nat) (i v : Int), isS g → 0 ≤ i → i < 120 → sI (mkH d) (g + 3) (J i) (J v) = some (mkH (up d (g + 3) i v)) := fun d g i v h h0 h1 => q_sI (len := 120) h.2 (by decide) h0 h1
theorem SS11 : ∀ (d : Mem) (g : Nat), isS g → aN (mkH d) (g + 3) = some (J 120) := fun d g h => q_aN (len := 120) h.2 (by decide)
/-! truths -/
def B (p : Prop) [Decidable p] : Int := if p then 1 else 0
theorem B_t {p : Prop} [Decidable p] (h : p) : B p = 1 := if_pos h
theorem B_f {p : Prop} [Decidable p] (h : ¬ p) : B p = 0 := if_neg h
theorem J10 : ¬ (J 1 = J 0) := by decide
theorem JB_0 {p : Prop} [Decidable p] : (J (B p) = J 0) ↔ ¬ p := by
  unfold B
  by_cases h : p
  · simp [h, J10]
  · simp [h]
theorem JB_1 {p : Prop} [Decidable p] : (J (B p) = J 1) ↔ p := by
  unfold B
  by_cases h : p
  · simp [h]
  · simp [h]
    exact fun e => J10 e.symm
theorem B_cong {p q : Prop} [Decidable p] [Decidable q] (h : p ↔ q) : B p = B q := by
  unfold B
  by_cases hp : p
  · rw [if_pos hp, if_pos (h.mp hp)]
  · rw [if_neg hp, if_neg (fun e => hp (h.mpr e))]
theorem ite10 {p : Prop} [Decidable p] : (if p then some (J 1) else some (J 0)) = some (J (B p)) := by
  unfold B
  split <;> rfl
theorem ite01 {p : Prop} [Decidable p] : (if p then some (J 0) else some (J 1)) = some (J (B (¬ p))) := by
  unfold B
  by_cases h : p
  · simp [h]
  · simp [h]
theorem bz_B {p : Prop} [Decidable p] : bz (J (B p)) = some () := by
  unfold B
  split <;> rfl
theorem B_01 {p : Prop} [Decidable p] : B p = 0 ∨ B p = 1 := by
  unfold B
  split
  · exact Or.inr rfl
  · exact Or.inl rfl
theorem iteS {α : Type} {p : Prop} [Decidable p] (a b : α) : (if p then some a else some b) = some (if p then a else b) := by split <;> rfl
theorem iteJ {p : Prop} [Decidable p] (a b : Int) : (if p then J a else J b) = J (if p then a else b) := by split <;> rfl
theorem iteK {p : Prop} [Decidable p] (a b : Int) : (if p then K a else K b) = K (if p then a else b) := by split <;> rfl
theorem lg_lt {a b : Int} (a1 : -9223372036854775808 ≤ a) (a2 : a < 9223372036854775808) (b1 : -9223372036854775808 ≤ b) (b2 : b < 9223372036854775808) : lg_cmp (K a) (K b) < J 0 ↔ a < b := by
  unfold lg_cmp
  have h1 := K_lt b1 b2 a1 a2
  have h2 := K_eq a1 a2 b1 b2
  by_cases c1 : K b < K a
  · rw [if_pos c1]
    have := h1.mp c1
    exact ⟨fun h => absurd h (by decide), fun h => by omega⟩
  · rw [if_neg c1]
    by_cases c2 : K a = K b
    · rw [if_pos c2]
      have := h2.mp c2
      exact ⟨fun h => absurd h (by decide), fun h => by omega⟩
    · rw [if_neg c2]
      have q1 : ¬ b < a := fun h => c1 (h1.mpr h)
      have q2 : ¬ a = b := fun h => c2 (h2.mpr h)
      exact ⟨fun _ => by omega, fun _ => by decide⟩
theorem lg_gt {a b : Int} (a1 : -9223372036854775808 ≤ a) (a2 : a < 9223372036854775808) (b1 : -9223372036854775808 ≤ b) (b2 : b < 9223372036854775808) : J 0 < lg_cmp (K a) (K b) ↔ b < a := by
  unfold lg_cmp
  have h1 := K_lt b1 b2 a1 a2
  by_cases c1 : K b < K a
  · rw [if_pos c1]
    exact ⟨fun _ => h1.mp c1, fun _ => by decide⟩
  · rw [if_neg c1]
    have q1 : ¬ b < a := fun h => c1 (h1.mpr h)
    split
    · exact ⟨fun h => absurd h (by decide), fun h => absurd h q1⟩
    · exact ⟨fun h => absurd h (by decide), fun h => absurd h q1⟩
theorem lg_eq (x y : Int64) : lg_cmp x y = J 0 ↔ x = y := by
  unfold lg_cmp
  by_cases c1 : x > y
  · rw [if_pos c1]
    refine ⟨fun h => absurd h (by decide), fun h => ?_⟩
    subst h
    exact absurd c1 (Int64.lt_irrefl)
  · rw [if_neg c1]
    by_cases c2 : x = y
    · rw [if_pos c2]
      exact ⟨fun _ => c2, fun _ => rfl⟩
    · rw [if_neg c2]
      exact ⟨fun h => absurd h (by decide), fun h => absurd h c2⟩
theorem lg_rng (x y : Int64) : lg_cmp x y = J (-1) ∨ lg_cmp x y = J 0 ∨ lg_cmp x y = J 1 := by
  unfold lg_cmp
  split
  · exact Or.inr (Or.inr rfl)
  · split
    · exact Or.inr (Or.inl rfl)
    · exact Or.inl rfl
theorem lg_le {a b : Int} (a1 : -9223372036854775808 ≤ a) (a2 : a < 9223372036854775808) (b1 : -9223372036854775808 ≤ b) (b2 : b < 9223372036854775808) : lg_cmp (K a) (K b) ≤ J 0 ↔ a ≤ b := by
  have h := lg_gt a1 a2 b1 b2
  have e : lg_cmp (K a) (K b) ≤ J 0 ↔ ¬ (J 0 < lg_cmp (K a) (K b)) := by
    rcases lg_rng (K a) (K b) with q | q | q <;> rw [q] <;> decide
  rw [e, h]
  omega
theorem lg_ge {a b : Int} (a1 : -9223372036854775808 ≤ a) (a2 : a < 9223372036854775808) (b1 : -9223372036854775808 ≤ b) (b2 : b < 9223372036854775808) : J 0 ≤ lg_cmp (K a) (K b) ↔ b ≤ a := by
  have h := lg_lt a1 a2 b1 b2
  have e : J 0 ≤ lg_cmp (K a) (K b) ↔ ¬ (lg_cmp (K a) (K b) < J 0) := by
    rcases lg_rng (K a) (K b) with q | q | q <;> rw [q] <;> decide
  rw [e, h]
  omega
theorem SN0 : ∀ a b : Int, J a + J b = J (a + b) := J_add
theorem SN1 : ∀ a b : Int, J a - J b = J (a - b) := J_sub
theorem SN2 : ∀ a b : Int, J a * J b = J (a * b) := J_mul
theorem SN3 : ∀ a : Int, -J a = J (-a) := J_neg
theorem SN4 : ∀ a b : Int, K a + K b = K (a + b) := K_add
theorem SN5 : ∀ a b : Int, K a - K b = K (a - b) := K_sub
theorem SN6 : ∀ a b : Int, K a * K b = K (a * b) := K_mul
theorem SN7 : ∀ a : Int, -K a = K (-a) := K_neg
theorem SN8 : (0 : Int32) = J 0 := rfl
theorem SN9 : (0 : Int64) = K 0 := rfl
theorem SN10 : bz (J 0) = some () := rfl
theorem SN11 : bz (J 1) = some () := rfl
theorem SN12 : nz (J 16) = some () := rfl
theorem SN13 : nz (J 10) = some () := rfl
theorem SN14 : nz (J 2) = some () := rfl
theorem SN15 : nz (J 8) = some () := rfl
theorem SN16 : nz (J 100) = some () := rfl
theorem SN17 : nzL (K 1000000) = some () := rfl
theorem SN18 : J 1 = J 0 ↔ False := ⟨J10, False.elim⟩
theorem emod_fold (a b : Int) : a - a / b * b = a % b := by rw [Int.emod_def, Int.mul_comm]
theorem SJ0 : ∀ a b : Int, -2147483648 ≤ a → a < 2147483648 → -2147483648 ≤ b → b < 2147483648 → (J a < J b ↔ a < b) := fun _ _ => J_lt
theorem SJ1 : ∀ a b : Int, -2147483648 ≤ a → a < 2147483648 → -2147483648 ≤ b → b < 2147483648 → (J a ≤ J b ↔ a ≤ b) := fun _ _ => J_le
theorem SJ2 : ∀ a b : Int, -2147483648 ≤ a → a < 2147483648 → -2147483648 ≤ b → b < 2147483648 → (J a = J b ↔ a = b) := fun _ _ => J_eq
theorem SJ3 : ∀ a b : Int, 0 ≤ a → a < 2147483648 → 0 < b → b < 2147483648 → (J a / J b = J (a / b)) := fun _ _ => J_div
theorem SJ4 : ∀ a : Int, -2147483648 ≤ a → a < 2147483648 → (J a).toInt64 = K a := fun _ => J_64
theorem SJ5 : ∀ a b : Int, a - a / b * b = a % b := emod_fold
theorem cs1 (i : Nat) : ((i + 1 : Nat) : Int) = (i : Int) + 1 := rfl
/-- no `rfl` for simp: the kernel shall not compare a bind's first part with a loop -/
theorem bindS {α β : Type} (a : α) (f : α → Option β) : (some a).bind f = f a := congrArg (fun x => x) (rfl : (some a).bind f = f a)
theorem csN0 : ((0 : Nat) : Int) = 0 := rfl
theorem csN1 : ((1 : Nat) : Int) = 1 := rfl
theorem csN16 : ((16 : Nat) : Int) = 16 := rfl
theorem cs0 : ((0 : Nat) : Int) = 0 := rfl
theorem w_isWithin {a l u : Int} (a1 : -2147483648 ≤ a) (a2 : a < 2147483648) (l1 : -2147483648 ≤ l) (l2 : l < 2147483648) (u1 : -2147483648 ≤ u) (u2 : u < 2147483648) : f_X11_isWithin (J a) (J l) (J u) = some (J (B (l ≤ a ∧ a ≤ u))) := by
  unfold f_X11_isWithin
  simp only [J_lt a1 a2 l1 l2, J_lt u1 u2 a1 a2]
  by_cases c1 : a < l
  · rw [if_pos c1, B_f (by omega)]
    rfl
  · rw [if_neg c1]
    by_cases c2 : u < a
    · rw [if_pos c2, B_f (by omega)]
      rfl
    · rw [if_neg c2, B_t (by omega)]
      rfl
theorem w_isIn {a l u : Int} (a1 : -9223372036854775808 ≤ a) (a2 : a < 9223372036854775808) (l1 : -9223372036854775808 ≤ l) (l2 : l < 9223372036854775808) (u1 : -9223372036854775808 ≤ u) (u2 : u < 9223372036854775808) : f_X12_isIn (K a) (K l) (K u) = some (J (B (l ≤ a ∧ a ≤ u))) := by
  unfold f_X12_isIn
  have e1 : lg_cmp (K a) (K l) < 0 ↔ a < l := lg_lt a1 a2 l1 l2
  have e2 : 0 < lg_cmp (K a) (K u) ↔ u < a := lg_gt a1 a2 u1 u2
  simp only [e1, e2]
  by_cases c1 : a < l
  · rw [if_pos c1, B_f (by omega)]
    rfl
  · rw [if_neg c1]
    by_cases c2 : u < a
    · rw [if_pos c2, B_f (by omega)]
      rfl
    · rw [if_neg c2, B_t (by omega)]
      rfl
/-! loops -/
theorem iter_at {σ ε : Type} {b : σ → Option (σ ⊕ ε)} (S : Nat → σ) (N : Nat) {s0 : σ} {e : ε} (h0 : s0 = S 0) (hN : N < 100000000) (hs : ∀ i : Nat, i < N → b (S i) = some (.inl (S (i + 1)))) (he : b (S N) = some (.inr e)) : iter b FU s0 = some e := by
  rw [h0]
  exact iter_fn S N hN hs he
def srch (c : Nat → Bool) : Nat → Option Nat
  | 0 => none
  | n + 1 => match srch c n with
    | some i => some i
    | none => if c n = true then some n else none
theorem srch_lt {c : Nat → Bool} : ∀ {n i : Nat}, srch c n = some i → i < n ∧ c i = true ∧ ∀ j, j < i → c j = false
  | 0, _, h => by cases h
  | n + 1, i, h => by
    unfold srch at h
    split at h
    · rename_i k hk
      cases h
      have q := srch_lt hk
      exact ⟨by omega, q.2⟩
    · rename_i hk
      split at h
      · rename_i hc
        cases h
        refine ⟨by omega, hc, fun j hj => ?_⟩
        cases hcj : c j with
        | false => rfl
        | true =>
          exfalso
          have : ∀ m, j < m → srch c m ≠ none := by
            intro m
            induction m with
            | zero => omega
            | succ m ih =>
              intro hm
              unfold srch
              split
              · simp
              · rename_i hz
                by_cases e : j < m
                · exact absurd hz (ih e)
                · have : j = m := by omega
                  subst this
                  simp [hcj]
          exact this _ hj hk
      · cases h
theorem srch_none {c : Nat → Bool} : ∀ {n : Nat}, srch c n = none → ∀ j, j < n → c j = false
  | 0, _, _, h => by omega
  | n + 1, h, j, hj => by
    unfold srch at h
    split at h
    · cases h
    · rename_i hk
      split at h
      · cases h
      · rename_i hc
        by_cases e : j < n
        · exact srch_none hk j e
        · have : j = n := by omega
          subst this
          simpa using hc
theorem srch_cong {c c' : Nat → Bool} : ∀ {n : Nat}, (∀ i, i < n → c i = c' i) → srch c n = srch c' n
  | 0, _ => rfl
  | n + 1, h => by
    unfold srch
    rw [srch_cong (c := c) (c' := c') (n := n) (fun i hi => h i (by omega)), h n (by omega)]
theorem iter_srch {σ ε : Type} {b : σ → Option (σ ⊕ ε)} (S : Nat → σ) (c : Nat → Bool) (N : Nat) {s0 : σ} {e0 : ε} (e1 : Nat → ε) (h0 : s0 = S 0) (hN : N < 100000000) (hs : ∀ i : Nat, i < N → c i = false → b (S i) = some (.inl (S (i + 1)))) (hc : ∀ i : Nat, i < N → c i = true → b (S i) = some (.inr (e1 i))) (he : b (S N) = some (.inr e0)) : iter b FU s0 = some (match srch c N with
    | some i => e1 i
    | none => e0) := by
  rw [h0]
  have key : ∀ (d i m : Nat), i + d = N → d < m → (∀ j, j < i → c j = false) → iter b m (S i) = some (match srch c N with
    | some i => e1 i
    | none => e0) := by
    intro d
    induction d with
    | zero =>
      intro i m hi hm hj
      obtain ⟨m', rfl⟩ : ∃ m', m = m' + 1 := ⟨m - 1, by omega⟩
      have : i = N := by omega
      subst this
      have hn : srch c i = none := by
        cases hq : srch c i with
        | none => rfl
        | some k =>
          have q := srch_lt hq
          rw [hj k q.1] at q
          exact absurd q.2.1 (by simp)
      rw [hn]
      exact iter_E he
    | succ d ih =>
      intro i m hi hm hj
      obtain ⟨m', rfl⟩ : ∃ m', m = m' + 1 := ⟨m - 1, by omega⟩
      cases hci : c i with
      | false =>
        rw [iter_S (hs i (by omega) hci)]
        refine ih (i + 1) m' (by omega) (by omega) (fun j h => ?_)
        by_cases e : j < i
        · exact hj j e
        · rw [show j = i by omega]
          exact hci
      | true =>
        have hn : srch c N = some i := by
          cases hq : srch c N with
          | none => exact absurd (srch_none hq i (by omega)) (by simp [hci])
          | some k =>
            have q := srch_lt hq
            by_cases e1 : k < i
            · rw [hj k e1] at q
              exact absurd q.2.1 (by simp)
            · by_cases e2 : i < k
              · exact absurd (q.2.2 i e2) (by simp [hci])
              · rw [show k = i by omega]
        rw [hn]
        exact iter_E (hc i (by omega) hci)
  exact key N 0 FU (by omega) (by unfold FU; omega) (fun j h => by omega)
