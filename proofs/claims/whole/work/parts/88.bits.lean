/-! EARS. Bits of longs and ints -/
def tb (x : Int64) (t : Nat) : Bool := x.toBitVec.getLsbD t
def ti (x : Int32) (t : Nat) : Bool := x.toBitVec.getLsbD t
theorem tb_ext {x y : Int64} (h : ∀ t, t < 64 → tb x t = tb y t) : x = y := Int64.toBitVec_inj.mp (BitVec.eq_of_getLsbD_eq (fun i hi => h i hi))
theorem ti_ext {x y : Int32} (h : ∀ t, t < 32 → ti x t = ti y t) : x = y := Int32.toBitVec_inj.mp (BitVec.eq_of_getLsbD_eq (fun i hi => h i hi))
theorem tb_or (x y : Int64) (t : Nat) : tb (x ||| y) t = (tb x t || tb y t) := by
  show (x.toBitVec ||| y.toBitVec).getLsbD t = _
  rw [BitVec.getLsbD_or]
  rfl
theorem tb_and (x y : Int64) (t : Nat) : tb (x &&& y) t = (tb x t && tb y t) := by
  show (x.toBitVec &&& y.toBitVec).getLsbD t = _
  rw [BitVec.getLsbD_and]
  rfl
theorem tb_not (x : Int64) {t : Nat} (h : t < 64) : tb (x ^^^ K (-1)) t = !tb x t := by
  show (x.toBitVec ^^^ (K (-1)).toBitVec).getLsbD t = _
  have e : (K (-1)).toBitVec = BitVec.allOnes 64 := rfl
  rw [BitVec.getLsbD_xor, e, BitVec.getLsbD_allOnes, decide_eq_true h]
  unfold tb
  cases x.toBitVec.getLsbD t <;> rfl
theorem tb_K0 (t : Nat) : tb (K 0) t = false := by
  show (0#64).getLsbD t = false
  exact BitVec.getLsbD_zero
theorem ti_or (x y : Int32) (t : Nat) : ti (x ||| y) t = (ti x t || ti y t) := by
  show (x.toBitVec ||| y.toBitVec).getLsbD t = _
  rw [BitVec.getLsbD_or]
  rfl
theorem ti_and (x y : Int32) (t : Nat) : ti (x &&& y) t = (ti x t && ti y t) := by
  show (x.toBitVec &&& y.toBitVec).getLsbD t = _
  rw [BitVec.getLsbD_and]
  rfl
theorem ti_J0 (t : Nat) : ti (J 0) t = false := by
  show (0#32).getLsbD t = false
  exact BitVec.getLsbD_zero
theorem ti_Jm {t : Nat} (h : t < 32) : ti (J (-1)) t = true := by
  have e : (J (-1)).toBitVec = BitVec.allOnes 32 := rfl
  unfold ti
  rw [e, BitVec.getLsbD_allOnes, decide_eq_true h]
theorem sh64 : ∀ t : Fin 64, (((J (t.val : Int)).toInt64 &&& 63).toBitVec.smod 64) = BitVec.ofNat 64 t.val := by decide +kernel
theorem sh32 : ∀ t : Fin 32, (((J (t.val : Int)) &&& 31).toBitVec.smod 32) = BitVec.ofNat 32 t.val := by decide +kernel
theorem tb_bit {t : Nat} (h : t < 64) (s : Nat) : tb (K 1 <<< ((J (t : Int)).toInt64 &&& 63)) s = decide (s = t) := by
  show ((1#64) <<< (((J (t : Int)).toInt64 &&& 63).toBitVec.smod 64)).getLsbD s = _
  have e := sh64 ⟨t, h⟩
  have e : (((J (t : Int)).toInt64 &&& 63).toBitVec.smod 64) = BitVec.ofNat 64 t := e
  rw [e]
  show ((1#64) <<< (BitVec.ofNat 64 t).toNat).getLsbD s = _
  rw [BitVec.toNat_ofNat, Nat.mod_eq_of_lt (by omega), BitVec.getLsbD_shiftLeft, BitVec.getLsbD_one]
  by_cases c : s = t
  · subst c
    simp [h]
  · by_cases c2 : s < t
    · simp [c, c2]
    · have : ¬ (s - t = 0) := by omega
      simp [c, this]
theorem ti_bit {t : Nat} (h : t < 32) (s : Nat) : ti (J 1 <<< (J (t : Int) &&& 31)) s = decide (s = t) := by
  show ((1#32) <<< ((J (t : Int) &&& 31).toBitVec.smod 32)).getLsbD s = _
  have e := sh32 ⟨t, h⟩
  have e : ((J (t : Int) &&& 31).toBitVec.smod 32) = BitVec.ofNat 32 t := e
  rw [e]
  show ((1#32) <<< (BitVec.ofNat 32 t).toNat).getLsbD s = _
  rw [BitVec.toNat_ofNat, Nat.mod_eq_of_lt (by omega), BitVec.getLsbD_shiftLeft, BitVec.getLsbD_one]
  by_cases c : s = t
  · subst c
    simp [h]
  · by_cases c2 : s < t
    · simp [c, c2]
    · have : ¬ (s - t = 0) := by omega
      simp [c, this]
theorem shr_bit {t : Nat} (h : t < 64) (x : Int64) : lg_cmp ((x >>> ((J (t : Int)).toInt64 &&& 63)) &&& K 1) (K 0) = 0 ↔ tb x t = false := by
  have l := lg_eq ((x >>> ((J (t : Int)).toInt64 &&& 63)) &&& K 1) (K 0)
  have q : tb (x >>> ((J (t : Int)).toInt64 &&& 63)) 0 = tb x t := by
    show (x.toBitVec.sshiftRight' (((J (t : Int)).toInt64 &&& 63).toBitVec.smod 64)).getLsbD 0 = _
    have e := sh64 ⟨t, h⟩
    have e : (((J (t : Int)).toInt64 &&& 63).toBitVec.smod 64) = BitVec.ofNat 64 t := e
    rw [e, BitVec.sshiftRight_eq', BitVec.toNat_ofNat, Nat.mod_eq_of_lt (by omega), BitVec.getLsbD_sshiftRight]
    rw [if_pos (by omega), Nat.add_zero]
    rfl
  have one : ∀ s, tb (K 1) s = decide (s = 0) := fun s => by
    show (1#64).getLsbD s = _
    rw [BitVec.getLsbD_one]
    simp
  refine l.trans ⟨fun e => ?_, fun e => tb_ext (fun s _ => ?_)⟩
  · have := congrArg (fun z => tb z 0) e
    simp only [tb_and, one, tb_K0, q] at this
    simpa using this
  · rw [tb_and, one, tb_K0]
    by_cases c : s = 0
    · subst c
      rw [q, e]
      rfl
    · rw [decide_eq_false c, Bool.and_false]
/-- the long of a set of ticks below n -/
def mkB (P : Nat → Bool) : Nat → Int64
  | 0 => K 0
  | n + 1 => if P n = true then mkB P n ||| (K 1 <<< ((J (n : Int)).toInt64 &&& 63)) else mkB P n
theorem tb_mkB (P : Nat → Bool) : ∀ n : Nat, n ≤ 64 → ∀ t, tb (mkB P n) t = (decide (t < n) && P t)
  | 0, _, t => by
    show tb (K 0) t = _
    rw [tb_K0]
    simp
  | n + 1, h, t => by
    have ih := tb_mkB P n (by omega) t
    unfold mkB
    by_cases c : P n = true
    · rw [if_pos c, tb_or, ih, tb_bit (by omega)]
      by_cases e : t = n
      · subst e
        simp [c]
      · by_cases e2 : t < n
        · have : t < n + 1 := by omega
          simp [e, e2, this]
        · have : ¬ t < n + 1 := by omega
          simp [e, e2, this]
    · rw [if_neg c, ih]
      by_cases e : t = n
      · subst e
        simp [c]
      · by_cases e2 : t < n
        · have : t < n + 1 := by omega
          simp [e2, this]
        · have : ¬ t < n + 1 := by omega
          simp [e2, this]
/-- the int of a set of gears below n -/
def mkI (P : Nat → Bool) : Nat → Int32
  | 0 => J 0
  | n + 1 => if P n = true then mkI P n ||| (J 1 <<< (J (n : Int) &&& 31)) else mkI P n
theorem ti_mkI (P : Nat → Bool) : ∀ n : Nat, n ≤ 32 → ∀ t, ti (mkI P n) t = (decide (t < n) && P t)
  | 0, _, t => by
    show ti (J 0) t = _
    rw [ti_J0]
    simp
  | n + 1, h, t => by
    have ih := ti_mkI P n (by omega) t
    unfold mkI
    by_cases c : P n = true
    · rw [if_pos c, ti_or, ih, ti_bit (by omega)]
      by_cases e : t = n
      · subst e
        simp [c]
      · by_cases e2 : t < n
        · have : t < n + 1 := by omega
          simp [e, e2, this]
        · have : ¬ t < n + 1 := by omega
          simp [e, e2, this]
    · rw [if_neg c, ih]
      by_cases e : t = n
      · subst e
        simp [c]
      · by_cases e2 : t < n
        · have : t < n + 1 := by omega
          simp [e2, this]
        · have : ¬ t < n + 1 := by omega
          simp [e2, this]
/-- the ticks below N where the phase p of te teeth sounds -/
def sdB (N te p : Nat) : Nat → Bool := fun t => decide (t < N ∧ t % te = p)
def sdL (N te p : Nat) : Int64 := mkB (sdB N te p) 60
theorem tb_sdL {N te p : Nat} (hN : N ≤ 60) (t : Nat) : tb (sdL N te p) t = decide (t < N ∧ t % te = p) := by
  unfold sdL sdB
  rw [tb_mkB _ 60 (by decide) t]
  by_cases c : t < N
  · have : t < 60 := by omega
    simp [c, this]
  · simp [c]
theorem step_mod {te t s : Nat} (h1 : 1 ≤ te) : (t ≤ s ∧ (s - t) % te = 0) ↔ (s = t ∨ (t + te ≤ s ∧ (s - (t + te)) % te = 0)) := by
  constructor
  · rintro ⟨a, b⟩
    by_cases c : s = t
    · exact Or.inl c
    · refine Or.inr ?_
      by_cases c2 : te ≤ s - t
      · refine ⟨by omega, ?_⟩
        rw [Nat.mod_eq_sub_mod c2] at b
        rw [show s - (t + te) = s - t - te by omega]
        exact b
      · rw [Nat.mod_eq_of_lt (by omega)] at b
        omega
  · rintro (a | ⟨a, b⟩)
    · subst a
      exact ⟨Nat.le_refl _, by rw [Nat.sub_self]; exact Nat.zero_mod te⟩
    · refine ⟨by omega, ?_⟩
      rw [Nat.mod_eq_sub_mod (show te ≤ s - t by omega), show s - t - te = s - (t + te) by omega]
      exact b
theorem ph_mod {te p s : Nat} (h1 : 1 ≤ te) (hp : p < te) : (p ≤ s ∧ (s - p) % te = 0) ↔ s % te = p := by
  have e := Nat.mod_add_div s te
  constructor
  · rintro ⟨a, b⟩
    have f := Nat.mod_add_div (s - p) te
    rw [b, Nat.zero_add] at f
    have g : s = p + te * ((s - p) / te) := by omega
    rw [g, Nat.add_mul_mod_self_left, Nat.mod_eq_of_lt hp]
  · intro b
    refine ⟨by rw [← b]; exact Nat.mod_le s te, ?_⟩
    have g : s - p = te * (s / te) := by omega
    rw [g]
    exact Nat.mul_mod_right _ _
