/-! plants, loads and rule books taken over; image, restore -/
def isP (p : Nat) : Prop := shO p = some (3, [101 + p, 0, 102 + p, 103 + p, 104 + p, 0]) ∧ shR (p + 1) = some (3, 12) ∧ cR (p + 1) = some (p + 5, 2) ∧ shR (p + 2) = some (0, 16) ∧ shR (p + 3) = some (0, 16) ∧ shR (p + 4) = some (0, 16) ∧ ∀ i : Int, 0 ≤ i → i < 12 → isG (gA p i)
theorem isP_1 : isP 1 := ⟨rfl, rfl, rfl, rfl, rfl, rfl, fun _ h0 h1 => isG_1 h0 h1⟩
theorem isP_30 : isP 30 := ⟨rfl, rfl, rfl, rfl, rfl, rfl, fun _ h0 h1 => isG_30 h0 h1⟩
theorem isP_77 : isP 77 := ⟨rfl, rfl, rfl, rfl, rfl, rfl, fun _ h0 h1 => isG_77 h0 h1⟩
section
variable {d : Mem}
theorem SPp {p : Nat} (h : isP p) : (∀ d : Mem, isO (mkH d) p 3 = some ()) ∧ (∀ d : Mem, gR (mkH d) p 3 0 = some (p + 1)) ∧ (∀ d : Mem, gI (mkH d) p 3 1 = some (J (d p 1))) ∧ (∀ d : Mem, gR (mkH d) p 3 2 = some (p + 2)) ∧ (∀ d : Mem, gR (mkH d) p 3 3 = some (p + 3)) ∧ (∀ d : Mem, gR (mkH d) p 3 4 = some (p + 4)) ∧ (∀ d : Mem, gI (mkH d) p 3 5 = some (J (d p 5))) ∧ (∀ (d : Mem) (v : Int), pF (mkH d) p 3 1 (.int (J v)) = some (mkH (up d p 1 v))) ∧ (∀ (d : Mem) (v : Int), pF (mkH d) p 3 5 (.int (J v)) = some (mkH (up d p 5 v))) ∧ (∀ (d : Mem) (i : Int), 0 ≤ i → i < 12 → aR (mkH d) (p + 1) 3 (J i) = some (gA p i)) := by
  obtain ⟨h1, h2, h3, h4, h5, h6, h7⟩ := h
  exact ⟨fun d => q_isO h1, fun d => q_gR (r := p + 1) h1 (by simp; omega), fun d => q_gI h1 rfl, fun d => q_gR (r := p + 2) h1 (by simp; omega), fun d => q_gR (r := p + 3) h1 (by simp; omega), fun d => q_gR (r := p + 4) h1 (by simp; omega), fun d => q_gI h1 rfl, fun d v => q_pI h1 rfl, fun d v => q_pI h1 rfl, fun d i i0 i1 => q_aR h2 h3 (by decide) (by decide) i0 i1⟩
theorem c_plantTake {p p' r : Nat} (hp : isP p) (hp' : isP p') (hd : p + 28 < p' ∨ p' + 28 < p) (hr : p + 28 < r) (P : PL d p' (p' + 2) (p' + 3) (p' + 4) r) : ∃ d', f_X3_takeFrom (mkH d) p p' = some (mkH d') ∧ PL d' p (p + 2) (p + 3) (p + 4) r ∧ ∀ x, (x < p ∨ p + 28 < x) → d' x = d x := by
  obtain ⟨a1, a2, a3, a4, a5, a6, a7, a8, a9, a10⟩ := SPp hp
  obtain ⟨b1, b2, b3, b4, b5, b6, b7, b8, b9, b10⟩ := SPp hp'
  obtain ⟨p1, p2, p3, p4, p5, p6, p7, p8⟩ := id P
  have hG := hp.2.2.2.2.2.2
  have hG' := hp'.2.2.2.2.2.2
  have gl : ∀ i : Int, 0 ≤ i → i < 12 → p + 5 ≤ gA p i ∧ gA p i + 1 ≤ p + 28 := fun i i0 i1 => gA_le i0 i1
  have gl' : ∀ i : Int, 0 ≤ i → i < 12 → p' + 5 ≤ gA p' i ∧ gA p' i + 1 ≤ p' + 28 := fun i i0 i1 => gA_le i0 i1
  obtain ⟨N, hN⟩ : ∃ N : Nat, d r 1740 = N := ⟨(d r 1740).toNat, by omega⟩
  have N12 : N ≤ 12 := by omega
  obtain ⟨d0, hd0⟩ : ∃ d0, d0 = up d p 1 N := ⟨_, rfl⟩
  have L : ∃ e, iter (b_X3_takeFrom_10 p p') FU (J 0, mkH d0) = some e ∧ ∃ d' : Mem, e = mkH d' ∧ (∀ x, (x < p ∨ p + 28 < x) → d' x = d x) ∧ d' p 1 = N ∧ ∀ j : Int, 0 ≤ j → j < N → (∀ k, 0 ≤ k → k < 4 → d' (gA p j) k = d (gA p' j) k) ∧ cw d' (gA p j) = cw d (gA p' j) := by
    refine iter_for (fun i s => ∃ d' : Mem, s = (J (i : Int), mkH d') ∧ (∀ x, (x < p ∨ p + 28 < x) → d' x = d x) ∧ d' p 1 = N ∧ ∀ j : Int, 0 ≤ j → j < i → (∀ k, 0 ≤ k → k < 4 → d' (gA p j) k = d (gA p' j) k) ∧ cw d' (gA p j) = cw d (gA p' j)) _ N (by omega) ⟨d0, rfl, fun x hx => by rw [hd0, up_row (by omega)], by rw [hd0, up_same], fun j j0 j1 => by omega⟩ ?_ ?_
    · rintro i s hi ⟨d', rfl, h1, h2, h3⟩
      have i0 : (0 : Int) ≤ i := by omega
      have i1 : (i : Int) < 12 := by omega
      have l1 := gl i i0 i1
      have l2 := gl' i i0 i1
      have t := c_gearTake (d := d') (hG i i0 i1) (hG' i i0 i1) (by omega)
      refine ⟨(J ((i : Int) + 1), mkH (cpG d' (gA p i) (gA p' i))), ?_, _, rfl, fun x hx => ?_, ?_, fun j j0 j1 => ?_⟩
      · refine bind_eq (a3 d') ?_
        rw [h2, if_neg (by rw [J_le (by omega) (by omega) (by omega) (by omega)]; omega)]
        refine bind_eq (a2 d') (bind_eq (a10 d' i i0 i1) (bind_eq (b2 d') (bind_eq (b10 d' i i0 i1) (bind_eq (q_isO (hG i i0 i1).1) (bind_eq t (bind_eq rfl ?_))))))
        rw [J_add]
      · funext k
        rw [cpG_na (by omega) (by omega), h1 x hx]
      · rw [cpG_na (by omega) (by omega), h2]
      · by_cases e : j = i
        · subst e
          refine ⟨fun k k0 k1 => ?_, ?_⟩
          · rw [cpG_f k0 k1, h1 _ (by omega)]
          · rw [cpG_w, cw_row (h1 _ (by omega))]
        · obtain ⟨q1, q2⟩ := h3 j j0 (by omega)
          have lj := gl j j0 (by omega)
          have ne : gA p j ≠ gA p i ∧ gA p j ≠ gA p i + 1 ∧ gA p j + 1 ≠ gA p i := by unfold gA; omega
          refine ⟨fun k k0 k1 => ?_, ?_⟩
          · rw [cpG_na ne.1 ne.2.1]
            exact q1 k k0 k1
          · rw [← q2]
            exact cw_na (fun y _ _ => cpG_na ne.2.2 (by omega))
    · rintro s ⟨d', rfl, h1, h2, h3⟩
      refine ⟨mkH d', bind_eq (a3 d') ?_, d', rfl, h1, h2, h3⟩
      rw [h2, if_pos (by rw [J_le (by omega) (by omega) (by omega) (by omega)]; exact Int.le_refl _)]
  obtain ⟨e, L1, d1, rfl, h1, h2, h3⟩ := L
  obtain ⟨hO, hR, hc, hf, hs, ht, -⟩ := hp
  obtain ⟨hO', hR', hc', hf', hs', ht', -⟩ := hp'
  obtain ⟨d2, hd2⟩ : ∃ d2, d2 = up d1 p 5 (d1 p' 5) := ⟨_, rfl⟩
  have c1 : cpI (mkH d2) (p' + 2) (J 0) (p + 2) (J 0) (J 16) = some (mkH (cpy d2 (p' + 2) 0 (p + 2) 0 16)) := q_cp hf' hf (by decide) (by decide) (by decide) (by decide) (by decide) (by decide) (by decide)
  obtain ⟨d3, hd3⟩ : ∃ d3, d3 = cpy d2 (p' + 2) 0 (p + 2) 0 16 := ⟨_, rfl⟩
  rw [← hd3] at c1
  have c2 : cpI (mkH d3) (p' + 3) (J 0) (p + 3) (J 0) (J 16) = some (mkH (cpy d3 (p' + 3) 0 (p + 3) 0 16)) := q_cp hs' hs (by decide) (by decide) (by decide) (by decide) (by decide) (by decide) (by decide)
  obtain ⟨d4, hd4⟩ : ∃ d4, d4 = cpy d3 (p' + 3) 0 (p + 3) 0 16 := ⟨_, rfl⟩
  rw [← hd4] at c2
  have c3 : cpI (mkH d4) (p' + 4) (J 0) (p + 4) (J 0) (J 16) = some (mkH (cpy d4 (p' + 4) 0 (p + 4) 0 16)) := q_cp ht' ht (by decide) (by decide) (by decide) (by decide) (by decide) (by decide) (by decide)
  obtain ⟨d5, hd5⟩ : ∃ d5, d5 = cpy d4 (p' + 4) 0 (p + 4) 0 16 := ⟨_, rfl⟩
  rw [← hd5] at c3
  have cpn : ∀ (D : Mem) (a b x : Nat) (k : Int), x ≠ b → cpy D a 0 b 0 16 x k = D x k := fun D a b x k h => if_neg (fun e => h e.1)
  have cpi : ∀ (D : Mem) (a b : Nat) (k : Int), 0 ≤ k → k < 16 → cpy D a 0 b 0 16 b k = D a k := fun D a b k k0 k1 => by
    unfold cpy
    rw [if_pos ⟨rfl, k0, by omega⟩, show (0 : Int) + (k - 0) = k by omega]
  have x5 : ∀ x k, x ≠ p + 2 → x ≠ p + 3 → x ≠ p + 4 → d5 x k = d2 x k := fun x k n2 n3 n4 => by rw [hd5, cpn _ _ _ _ _ n4, hd4, cpn _ _ _ _ _ n3, hd3, cpn _ _ _ _ _ n2]
  have x2 : ∀ x k, ¬ (x = p ∧ k = 5) → d2 x k = d1 x k := fun x k h => by
    rw [hd2]
    unfold up
    rw [if_neg h]
  have y2 : ∀ k, 0 ≤ k → k < 16 → d5 (p + 2) k = d (p' + 2) k := fun k k0 k1 => by
    rw [hd5, cpn _ _ _ _ _ (by omega), hd4, cpn _ _ _ _ _ (by omega), hd3, cpi _ _ _ k k0 k1, x2 _ _ (by omega), h1 _ (by omega)]
  have y3 : ∀ k, 0 ≤ k → k < 16 → d5 (p + 3) k = d (p' + 3) k := fun k k0 k1 => by
    rw [hd5, cpn _ _ _ _ _ (by omega), hd4, cpi _ _ _ k k0 k1, hd3, cpn _ _ _ _ _ (by omega), x2 _ _ (by omega), h1 _ (by omega)]
  have y4 : ∀ k, 0 ≤ k → k < 16 → d5 (p + 4) k = d (p' + 4) k := fun k k0 k1 => by
    rw [hd5, cpi _ _ _ k k0 k1, hd4, cpn _ _ _ _ _ (by omega), hd3, cpn _ _ _ _ _ (by omega), x2 _ _ (by omega), h1 _ (by omega)]
  have fr : ∀ x, (x < p ∨ p + 28 < x) → d5 x = d x := fun x hx => funext fun k => by rw [x5 x k (by omega) (by omega) (by omega), x2 x k (by omega), h1 x hx]
  have er : d5 r = d r := fr r (by omega)
  refine ⟨d5, ?_, ?_, fr⟩
  · refine bind_eq (b3 d) ?_
    rw [p1, hN]
    refine bind_eq (a8 d N) ?_
    rw [← hd0]
    refine bind_eq rfl (bind_eq L1 (bind_eq (b7 d1) (bind_eq (a9 d1 _) ?_)))
    rw [← hd2]
    exact bind_eq (b4 d2) (bind_eq (a4 d2) (bind_eq c1 (bind_eq (b5 d3) (bind_eq (a5 d3) (bind_eq c2 (bind_eq (b6 d4) (bind_eq (a6 d4) (bind_eq c3 rfl))))))))
  · unfold PL
    rw [er]
    refine ⟨?_, ?_, p3, p4, p5, p6, fun i i0 i1 => ?_, fun m m0 m1 => ?_⟩
    · rw [x5 p 1 (by omega) (by omega) (by omega), x2 p 1 (by omega), h2, hN]
    · rw [x5 p 5 (by omega) (by omega) (by omega), hd2, up_same, h1 p' (by omega), p2]
    · obtain ⟨g0, g1, g2, g3, gw, rest⟩ := p7 i i0 i1
      obtain ⟨q1, q2⟩ := h3 i i0 (by omega)
      have li := gl i i0 (by omega)
      have f : ∀ k, 0 ≤ k → k < 4 → d5 (gA p i) k = d (gA p' i) k := fun k k0 k1 => by rw [x5 _ _ (by omega) (by omega) (by omega), x2 _ _ (by omega), q1 k k0 k1]
      have ec : cw d5 (gA p i) = cw d1 (gA p i) := cw_na (fun y _ _ => by rw [x5 _ _ (by omega) (by omega) (by omega), x2 _ _ (by omega)])
      have ev : vw d5 r i = vw d r i := vw_row er
      unfold GE
      rw [f 0 (by decide) (by decide), f 1 (by decide) (by decide), f 2 (by decide) (by decide), f 3 (by decide) (by decide), ec, q2, ev, er]
      exact ⟨g0, g1, g2, g3, gw, rest⟩
    · have q := p8 m m0 m1
      unfold ME at q ⊢
      rw [y2 m m0 (by omega), y3 m m0 (by omega), y4 m m0 (by omega), er]
      exact q
end
