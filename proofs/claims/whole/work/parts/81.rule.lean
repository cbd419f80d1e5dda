/-! rule -/
section
variable {d : Mem}
/-- the model's copy of a rule into its state -/
theorem m_ruleL {i q n : Int} {D : Mem} (i0 : 0 ≤ i) (i1 : i < 8) (q0 : 0 ≤ q) (q1 : q < 12) (hn : D 190 i = n) (n0 : 0 ≤ n) (n1 : n ≤ 120) : ∃ E, iter (b_X12_rule_100 183 (J i) (J q)) FU (J 0, mkH D) = some (mkH E) ∧ (∀ k, 0 ≤ k → k < n → E 185 (276 + 121 * q + 1 + k) = D 191 (120 * i + k)) ∧ ∀ x k, ¬ (x = 185 ∧ 276 + 121 * q + 1 ≤ k ∧ k < 276 + 121 * q + 1 + n) → E x k = D x k := by
  obtain ⟨N, hN⟩ : ∃ N : Nat, (N : Int) = n := ⟨n.toNat, by omega⟩
  have hN2 : N ≤ 120 := by omega
  obtain ⟨X, hX⟩ : ∃ X : Nat → Mem, ∀ j, X j = fun x k => if x = 185 ∧ 276 + 121 * q + 1 ≤ k ∧ k < 276 + 121 * q + 1 + j then D 191 (120 * i + (k - (276 + 121 * q + 1))) else D x k := ⟨_, fun j => rfl⟩
  have x0 : X 0 = D := by
    rw [hX]
    funext x k
    rw [if_neg (by omega)]
  have xn : ∀ j x k, ¬ (x = 185) → X j x k = D x k := fun j x k h => by
    rw [hX]
    exact if_neg (by omega)
  have xs : ∀ j, up (X j) 185 (276 + 121 * q + 1 + j) (D 191 (120 * i + j)) = X (j + 1) := fun j => by
    rw [hX, hX]
    funext x k
    unfold up
    by_cases c : x = 185 ∧ k = 276 + 121 * q + 1 + j
    · rw [if_pos c, if_pos (by omega)]
      congr 1
      omega
    · rw [if_neg c]
      show (if _ then _ else _) = _
      by_cases c2 : x = 185 ∧ 276 + 121 * q + 1 ≤ k ∧ k < 276 + 121 * q + 1 + j
      · rw [if_pos c2, if_pos (by omega)]
      · rw [if_neg c2, if_neg (by omega)]
  refine ⟨X N, ?_, fun k k0 k1 => ?_, fun x k h => ?_⟩
  · refine iter_at (fun k => (J (k : Int), mkH (X k))) N (by rw [x0] <;> rfl) (by omega) (fun k hk => ?_) ?_
    · have a : aI (mkH (X k)) 190 (J i) = some (J n) := by
        rw [q_aI (len := 8) rfl (by decide) i0 (by omega), xn _ _ _ (by decide), hn]
      have a2 : aI (mkH (X k)) 191 (J (120 * i + k)) = some (J (D 191 (120 * i + k))) := by
        rw [q_aI (len := 960) rfl (by decide) (by omega) (by omega), xn _ _ _ (by decide)]
      have a3 : sI (mkH (X k)) 185 (J (276 + 121 * q + 1 + k)) (J (D 191 (120 * i + k))) = some (mkH (X (k + 1))) := by
        rw [q_sI (len := 1744) rfl (by decide) (by omega) (by omega), xs]
      simp (disch := first | omega | assumption | decide) only [b_X12_rule_100, a, a2, a3, z183_0, z183_1, z183_2, z183_3, z183_4, z183_5, z183_6, z183_7, z183_8, z183_9, z183_10, z183_11, z183_12, z183_13, z183_14, z183_15, z183_16, z183_17, z183_18, z183_19, z183_20, z183_21, z183_22, z183_23, z183_24, z183_25, z183_26, z183_27, z183_28, z183_29, z183_30, z183_31, z183_32, z183_33, z183_34, z183_35, z183_36, z183_37, z183_38, z183_39, z183_40, z183_41, z183_42, z184_0, z184_1, z185_0, z185_1, z186_0, z186_1, z187_0, z187_1, z188_0, z188_1, z189_0, z189_1, z190_0, z190_1, z191_0, z191_1, z192_0, z192_1, z193_0, z193_1, z194_0, z194_1, z195_0, z195_1, z196_0, z196_1, z197_0, z197_1, z198_0, z198_1, z198_2, z199_0, z199_1, z200_0, z200_1, z201_0, z201_1, z202_0, z202_1, SN0, SN1, SN2, SN3, SN4, SN5, SN6, SN7, SN8, SN9, SN10, SN11, SN12, SN13, SN14, SN15, SN16, SN17, SN18, SJ0, SJ1, SJ2, SJ3, SJ4, SJ5, bindS, if_pos, if_neg, w_isWithin, w_isIn, JB_0, JB_1, bz_B, ite10, ite01, Int.natCast_add, csN0, csN1, csN16, Int.toNat_natCast, ite_not, not_true_eq_false, not_false_eq_true]
    · have a : aI (mkH (X N)) 190 (J i) = some (J n) := by
        rw [q_aI (len := 8) rfl (by decide) i0 (by omega), xn _ _ _ (by decide), hn]
      simp (disch := first | omega | assumption | decide) only [b_X12_rule_100, a, z183_0, z183_1, z183_2, z183_3, z183_4, z183_5, z183_6, z183_7, z183_8, z183_9, z183_10, z183_11, z183_12, z183_13, z183_14, z183_15, z183_16, z183_17, z183_18, z183_19, z183_20, z183_21, z183_22, z183_23, z183_24, z183_25, z183_26, z183_27, z183_28, z183_29, z183_30, z183_31, z183_32, z183_33, z183_34, z183_35, z183_36, z183_37, z183_38, z183_39, z183_40, z183_41, z183_42, z184_0, z184_1, z185_0, z185_1, z186_0, z186_1, z187_0, z187_1, z188_0, z188_1, z189_0, z189_1, z190_0, z190_1, z191_0, z191_1, z192_0, z192_1, z193_0, z193_1, z194_0, z194_1, z195_0, z195_1, z196_0, z196_1, z197_0, z197_1, z198_0, z198_1, z198_2, z199_0, z199_1, z200_0, z200_1, z201_0, z201_1, z202_0, z202_1, SN0, SN1, SN2, SN3, SN4, SN5, SN6, SN7, SN8, SN9, SN10, SN11, SN12, SN13, SN14, SN15, SN16, SN17, SN18, SJ0, SJ1, SJ2, SJ3, SJ4, SJ5, bindS, if_pos, if_neg, w_isWithin, w_isIn, JB_0, JB_1, bz_B, ite10, ite01, Int.natCast_add, csN0, csN1, csN16, Int.toNat_natCast, ite_not, not_true_eq_false, not_false_eq_true]
  · rw [hX]
    show (if _ then _ else _) = _
    rw [if_pos (by omega)]
    congr 1
    omega
  · rw [hX]
    exact if_neg (by omega)
end
