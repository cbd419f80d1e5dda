section
variable {d : Mem}
/-- another row that tells the same -/
theorem PL_r {p pf ps pr r r' : Nat} (h : ∀ k, 0 ≤ k → k < 1744 → d r' k = d r k) (P : PL d p pf ps pr r) : PL d p pf ps pr r' := by
  obtain ⟨p1, p2, p3, p4, p5, p6, p7, p8⟩ := P
  unfold PL
  rw [h 1740 (by decide) (by decide), h 1741 (by decide) (by decide)]
  refine ⟨p1, p2, p3, p4, p5, p6, fun i i0 i1 => ?_, fun m m0 m1 => ?_⟩
  · have q := p7 i i0 i1
    have ev : vw d r' i = vw d r i := tr_cong (fun y y0 y1 => h _ (by omega) (by omega))
    unfold GE at q ⊢
    rw [ev, h (19 * i) (by omega) (by omega), h (19 * i + 1) (by omega) (by omega), h (19 * i + 2) (by omega) (by omega)]
    exact q
  · have q := p8 m m0 m1
    unfold ME at q ⊢
    rw [h (228 + 3 * m + 0) (by omega) (by omega), h (228 + 3 * m + 1) (by omega) (by omega), h (228 + 3 * m + 2) (by omega) (by omega), h 1740 (by decide) (by decide)]
    exact q
theorem LD_r {l lg ls r r' : Nat} (h : ∀ k, 0 ≤ k → k < 1744 → d r' k = d r k) (L : LD d l lg ls r) : LD d l lg ls r' := by
  obtain ⟨l1, l2, l3, l4⟩ := L
  unfold LD
  rw [h 1743 (by decide) (by decide)]
  refine ⟨l1, l2, l3, fun k k0 k1 => ?_⟩
  rw [h (1728 + 2 * k) (by omega) (by omega), h (1728 + 2 * k + 1) (by omega) (by omega)]
  exact l4 k k0 k1
theorem RB_r {b sz r r' : Nat} (h : ∀ k, 0 ≤ k → k < 1744 → d r' k = d r k) (R : RB d b sz r) : RB d b sz r' := by
  obtain ⟨l1, l2, l3, l4⟩ := R
  unfold RB
  rw [h 1742 (by decide) (by decide)]
  refine ⟨l1, l2, l3, fun q q0 q1 => ?_⟩
  obtain ⟨z1, z2, z3, z4, z5⟩ := l4 q q0 q1
  unfold RU
  rw [h (276 + 121 * q) (by omega) (by omega)]
  refine ⟨z1, z2, z3, fun k k0 k1 => ?_, fun fld => ?_⟩
  · rw [h (276 + 121 * q + 1 + k) (by omega) (by omega)]
    exact z4 k k0 k1
  · have e : chS (fun k => d r' (276 + 121 * q + 1 + k)) (d r (276 + 121 * q)) = chS (fun k => d r (276 + 121 * q + 1 + k)) (d r (276 + 121 * q)) := by
      funext p
      unfold chS
      split
      · exact h _ (by omega) (by omega)
      · rfl
    rw [e]
    exact z5 fld
def isL (l : Nat) : Prop := shO l = some (2, [101 + l, 102 + l, 0]) ∧ shR (l + 1) = some (0, 6) ∧ shR (l + 2) = some (0, 6)
theorem c_loadsTake {l l' r : Nat} (hl : isL l) (hl' : isL l') (hd : l + 2 < l' ∨ l' + 2 < l) (hr : l + 2 < r) (L : LD d l' (l' + 1) (l' + 2) r) : ∃ d', f_X2_takeFrom (mkH d) l l' = some (mkH d') ∧ LD d' l (l + 1) (l + 2) r ∧ ∀ x, (x < l ∨ l + 2 < x) → d' x = d x := by
  obtain ⟨h1, h2, h3⟩ := hl
  obtain ⟨g1, g2, g3⟩ := hl'
  obtain ⟨l1, l2, l3, l4⟩ := L
  obtain ⟨d2, hd2⟩ : ∃ d2, d2 = up d l 2 (d l' 2) := ⟨_, rfl⟩
  have c1 : cpI (mkH d2) (l' + 1) (J 0) (l + 1) (J 0) (J 6) = some (mkH (cpy d2 (l' + 1) 0 (l + 1) 0 6)) := q_cp g2 h2 (by decide) (by decide) (by decide) (by decide) (by decide) (by decide) (by decide)
  obtain ⟨d3, hd3⟩ : ∃ d3, d3 = cpy d2 (l' + 1) 0 (l + 1) 0 6 := ⟨_, rfl⟩
  rw [← hd3] at c1
  have c2 : cpI (mkH d3) (l' + 2) (J 0) (l + 2) (J 0) (J 6) = some (mkH (cpy d3 (l' + 2) 0 (l + 2) 0 6)) := q_cp g3 h3 (by decide) (by decide) (by decide) (by decide) (by decide) (by decide) (by decide)
  obtain ⟨d4, hd4⟩ : ∃ d4, d4 = cpy d3 (l' + 2) 0 (l + 2) 0 6 := ⟨_, rfl⟩
  rw [← hd4] at c2
  have cpn : ∀ (D : Mem) (a b x : Nat) (k : Int), x ≠ b → cpy D a 0 b 0 6 x k = D x k := fun D a b x k h => if_neg (fun e => h e.1)
  have cpi : ∀ (D : Mem) (a b : Nat) (k : Int), 0 ≤ k → k < 6 → cpy D a 0 b 0 6 b k = D a k := fun D a b k k0 k1 => by
    unfold cpy
    rw [if_pos ⟨rfl, k0, by omega⟩, show (0 : Int) + (k - 0) = k by omega]
  have x2 : ∀ x k, x ≠ l → d2 x k = d x k := fun x k h => by rw [hd2, up_na h]
  have fr : ∀ x, (x < l ∨ l + 2 < x) → d4 x = d x := fun x hx => funext fun k => by rw [hd4, cpn _ _ _ _ _ (by omega), hd3, cpn _ _ _ _ _ (by omega), x2 x k (by omega)]
  refine ⟨d4, ?_, ?_, fr⟩
  · refine bind_eq (q_gI g1 rfl) (bind_eq (q_pI h1 rfl) ?_)
    rw [show ((2 : Nat) : Int) = 2 from rfl, ← hd2]
    exact bind_eq (q_gR (r := l' + 1) g1 (by simp; omega)) (bind_eq (q_gR (r := l + 1) h1 (by simp; omega)) (bind_eq c1 (bind_eq (q_gR (r := l' + 2) g1 (by simp; omega)) (bind_eq (q_gR (r := l + 2) h1 (by simp; omega)) (bind_eq c2 rfl)))))
  · unfold LD
    rw [fr r (by omega)]
    refine ⟨?_, l2, l3, fun k k0 k1 => ?_⟩
    · rw [hd4, cpn _ _ _ _ _ (by omega), hd3, cpn _ _ _ _ _ (by omega), hd2, up_same, l1]
    · have e1 : d4 (l + 1) k = d (l' + 1) k := by rw [hd4, cpn _ _ _ _ _ (by omega), hd3, cpi _ _ _ k k0 (by omega), x2 _ _ (by omega)]
      have e2 : d4 (l + 2) k = d (l' + 2) k := by rw [hd4, cpi _ _ _ k k0 (by omega), hd3, cpn _ _ _ _ _ (by omega), x2 _ _ (by omega)]
      rw [e1, e2]
      exact l4 k k0 k1
def isB (b : Nat) : Prop := shO b = some (5, [101 + b, 114 + b, 0]) ∧ shR (b + 1) = some (5, 12) ∧ cR (b + 1) = some (b + 2, 1) ∧ shR (b + 14) = some (0, 12) ∧ ∀ i : Int, 0 ≤ i → i < 12 → shR (rA b i) = some (0, 120)
theorem isB_62 : isB 62 := ⟨rfl, rfl, rfl, rfl, fun i i0 i1 => by
  have key : ∀ n : Nat, n < 12 → shR (62 + 2 + n) = some (0, 120) := by
    intro n hn
    match n, hn with
    | 0, _ | 1, _ | 2, _ | 3, _ | 4, _ | 5, _ | 6, _ | 7, _ | 8, _ | 9, _ | 10, _ | 11, _ => rfl
    | k + 12, h => omega
  exact key _ (by omega)⟩
theorem isB_109 : isB 109 := ⟨rfl, rfl, rfl, rfl, fun i i0 i1 => by
  have key : ∀ n : Nat, n < 12 → shR (109 + 2 + n) = some (0, 120) := by
    intro n hn
    match n, hn with
    | 0, _ | 1, _ | 2, _ | 3, _ | 4, _ | 5, _ | 6, _ | 7, _ | 8, _ | 9, _ | 10, _ | 11, _ => rfl
    | k + 12, h => omega
  exact key _ (by omega)⟩
theorem SBp {b : Nat} (h : isB b) : (∀ d : Mem, isO (mkH d) b 5 = some ()) ∧ (∀ d : Mem, gR (mkH d) b 5 0 = some (b + 1)) ∧ (∀ d : Mem, gR (mkH d) b 5 1 = some (b + 14)) ∧ (∀ d : Mem, gI (mkH d) b 5 2 = some (J (d b 2))) ∧ (∀ (d : Mem) (v : Int), pF (mkH d) b 5 2 (.int (J v)) = some (mkH (up d b 2 v))) ∧ (∀ (d : Mem) (i : Int), 0 ≤ i → i < 12 → aR (mkH d) (b + 1) 5 (J i) = some (rA b i)) ∧ (∀ (d : Mem) (i : Int), 0 ≤ i → i < 12 → aI (mkH d) (b + 14) (J i) = some (J (d (b + 14) i))) ∧ (∀ (d : Mem) (i v : Int), 0 ≤ i → i < 12 → sI (mkH d) (b + 14) (J i) (J v) = some (mkH (up d (b + 14) i v))) := by
  obtain ⟨h1, h2, h3, h4, h5⟩ := h
  refine ⟨fun d => q_isO h1, fun d => q_gR (r := b + 1) h1 (by simp; omega), fun d => q_gR (r := b + 14) h1 (by simp; omega), fun d => q_gI h1 rfl, fun d v => q_pI h1 rfl, fun d i i0 i1 => ?_, fun d i i0 i1 => q_aI h4 (by decide) i0 i1, fun d i v i0 i1 => q_sI h4 (by decide) i0 i1⟩
  rw [q_aR h2 h3 (by decide) (by decide) i0 i1]
  unfold rA
  rw [Nat.one_mul]
theorem c_addRule {b a : Nat} (hb : isB b) (ha : shR a = some (0, 120)) (hab : a < b ∨ b + 14 < a) {q n : Int} (hq : d b 2 = q) (q0 : 0 ≤ q) (q1 : q < 12) (n0 : 0 ≤ n) (n1 : n ≤ 120) : ∃ d', f_X6_addRule (mkH d) b a (J n) = some (mkH d') ∧ d' b 2 = q + 1 ∧ d' (b + 14) q = n ∧ (∀ k, k ≠ q → d' (b + 14) k = d (b + 14) k) ∧ (∀ k, 0 ≤ k → k < n → d' (rA b q) k = d a k) ∧ ∀ x, x ≠ b → x ≠ b + 14 → x ≠ rA b q → d' x = d x := by
  obtain ⟨s1, s2, s3, s4, s5, s6, s7, s8⟩ := SBp hb
  have rl := rA_le (b := b) q0 q1
  have c := q_cp (d := d) (sp := 0) (dp := 0) (n := n) ha (hb.2.2.2.2 q q0 q1) (by decide) (by decide) (by decide) (by decide) n0 (by omega) (by omega)
  obtain ⟨d1, hd1⟩ : ∃ d1, d1 = cpy d a 0 (rA b q) 0 n := ⟨_, rfl⟩
  rw [← hd1] at c
  have x1 : ∀ x k, x ≠ rA b q → d1 x k = d x k := fun x k h => by
    rw [hd1]
    exact if_neg (fun e => h e.1)
  have e1 : d1 b 2 = q := by rw [x1 _ _ (by omega), hq]
  obtain ⟨d2, hd2⟩ : ∃ d2, d2 = up d1 (b + 14) q n := ⟨_, rfl⟩
  have e2 : d2 b 2 = q := by rw [hd2, up_na (by omega), e1]
  refine ⟨up d2 b 2 (q + 1), ?_, up_same _ _ _ _, ?_, fun k hk => ?_, fun k k0 k1 => ?_, fun x h1 h2 h3 => ?_⟩
  · refine bind_eq (s2 d) (bind_eq (s4 d) ?_)
    rw [hq]
    refine bind_eq (s6 d q q0 q1) (bind_eq c (bind_eq (s3 d1) (bind_eq (s4 d1) ?_)))
    rw [e1]
    refine bind_eq (s8 d1 q n q0 q1) ?_
    rw [← hd2]
    refine bind_eq (s4 d2) ?_
    rw [e2, J_add]
    exact bind_eq (s5 d2 (q + 1)) rfl
  · rw [up_na (by omega), hd2, up_same]
  · rw [up_na (by omega), hd2, up_nk hk, x1 _ _ (by omega)]
  · rw [up_na (by omega), hd2, up_na (by omega), hd1]
    unfold cpy
    rw [if_pos ⟨rfl, k0, by omega⟩, show (0 : Int) + (k - 0) = k by omega]
  · rw [up_row h1, hd2, up_row h2]
    exact funext fun k => x1 x k h3
theorem c_bookTake {b b' r : Nat} (hb : isB b) (hb' : isB b') (hd : b + 14 < b' ∨ b' + 14 < b) (hr : b + 14 < r) (R : RB d b' (b' + 14) r) : ∃ d', f_X6_takeFrom (mkH d) b b' = some (mkH d') ∧ RB d' b (b + 14) r ∧ ∀ x, (x < b ∨ b + 14 < x) → d' x = d x := by
  obtain ⟨s1, s2, s3, s4, s5, s6, s7, s8⟩ := SBp hb
  obtain ⟨t1, t2, t3, t4, t5, t6, t7, t8⟩ := SBp hb'
  obtain ⟨l1, l2, l3, l4⟩ := id R
  obtain ⟨N, hN⟩ : ∃ N : Nat, d r 1742 = N := ⟨(d r 1742).toNat, by omega⟩
  obtain ⟨d0, hd0⟩ : ∃ d0, d0 = up d b 2 0 := ⟨_, rfl⟩
  have L : ∃ e, iter (b_X6_takeFrom_7 b b') FU (J 0, mkH d0) = some e ∧ ∃ d' : Mem, e = mkH d' ∧ (∀ x, (x < b ∨ b + 14 < x) → d' x = d x) ∧ d' b 2 = N ∧ ∀ j : Int, 0 ≤ j → j < N → d' (b + 14) j = d (b' + 14) j ∧ ∀ k, 0 ≤ k → k < d (b' + 14) j → d' (rA b j) k = d (rA b' j) k := by
    refine iter_for (fun i s => ∃ d' : Mem, s = (J (i : Int), mkH d') ∧ (∀ x, (x < b ∨ b + 14 < x) → d' x = d x) ∧ d' b 2 = i ∧ ∀ j : Int, 0 ≤ j → j < i → d' (b + 14) j = d (b' + 14) j ∧ ∀ k, 0 ≤ k → k < d (b' + 14) j → d' (rA b j) k = d (rA b' j) k) _ N (by omega) ⟨d0, rfl, fun x hx => by rw [hd0, up_row (by omega)], by rw [hd0, up_same]; rfl, fun j j0 j1 => by omega⟩ ?_ ?_
    · rintro i s hi ⟨d', rfl, h1, h2, h3⟩
      have i0 : (0 : Int) ≤ i := by omega
      have i1 : (i : Int) < 12 := by omega
      obtain ⟨z1, z2, z3, -⟩ := l4 i i0 (by omega)
      have rl := rA_le (b := b) i0 i1
      have rl' := rA_le (b := b') i0 i1
      obtain ⟨d'', g1, g2, g3, g4, g5, g6⟩ := c_addRule (d := d') hb (hb'.2.2.2.2 i i0 i1) (by omega) h2 i0 i1 (n := d (b' + 14) i) (by omega) (by omega)
      refine ⟨(J ((i : Int) + 1), mkH d''), ?_, d'', rfl, fun x hx => by rw [g6 x (by omega) (by omega) (by omega), h1 x hx], by rw [g2]; rfl, fun j j0 j1 => ?_⟩
      · refine bind_eq (t4 d') ?_
        rw [h1 b' (by omega), l1, hN, if_neg (by rw [J_le (by omega) (by omega) (by omega) (by omega)]; omega)]
        refine bind_eq (t2 d') (bind_eq (t6 d' i i0 i1) (bind_eq (t3 d') (bind_eq (t7 d' i i0 i1) ?_)))
        rw [h1 (b' + 14) (by omega)]
        refine bind_eq (s1 d') (bind_eq g1 (bind_eq rfl ?_))
        rw [J_add]
      · by_cases e : j = i
        · subst e
          exact ⟨g3, fun k k0 k1 => by rw [g5 k k0 k1, h1 _ (by omega)]⟩
        · obtain ⟨q1, q2⟩ := h3 j j0 (by omega)
          have rj := rA_le (b := b) j0 (by omega : j < 12)
          have ne : rA b j ≠ rA b i := by unfold rA; omega
          refine ⟨by rw [g4 j e, q1], fun k k0 k1 => ?_⟩
          rw [g6 _ (by omega) (by omega) ne]
          exact q2 k k0 k1
    · rintro s ⟨d', rfl, h1, h2, h3⟩
      refine ⟨mkH d', bind_eq (t4 d') ?_, d', rfl, h1, h2, h3⟩
      rw [h1 b' (by omega), l1, hN, if_pos (by rw [J_le (by omega) (by omega) (by omega) (by omega)]; exact Int.le_refl _)]
  obtain ⟨e, L1, d1, rfl, h1, h2, h3⟩ := L
  refine ⟨d1, ?_, ?_, h1⟩
  · refine bind_eq (s5 d 0) ?_
    rw [← hd0]
    exact bind_eq rfl (bind_eq L1 rfl)
  · have er := h1 r (by omega)
    unfold RB
    rw [er, h2, hN]
    refine ⟨rfl, by omega, by omega, fun q q0 q1 => ?_⟩
    obtain ⟨z1, z2, z3, z4, z5⟩ := l4 q q0 (by omega)
    obtain ⟨y1, y2⟩ := h3 q q0 q1
    unfold RU
    rw [y1, er]
    refine ⟨z1, z2, z3, fun k k0 k1 => ?_, z5⟩
    rw [y2 k k0 (by omega)]
    exact z4 k k0 k1
end
