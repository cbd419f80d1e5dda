/-! turning by the class (131: roots 132, above 133, below 134, stands 135) -/
theorem ev_of {d : Mem} (P : PL d 1 3 4 5 185) : EV (d 185) (d 185 1741) := fun m s m0 m1 hs => by
  obtain ⟨p1, p2, p3, p4, p5, p6, p7, p8⟩ := P
  obtain ⟨-, -, -, a0, a1, b0, b1, -⟩ := p8 m m0 m1
  unfold eS eT
  rcases hs with rfl | rfl
  · obtain ⟨-, -, -, -, -, -, -, t0, t1, s0, s1, -⟩ := p7 _ a0 a1
    exact ⟨s0, by omega, t0, t1⟩
  · obtain ⟨-, -, -, -, -, -, -, t0, t1, s0, s1, -⟩ := p7 _ b0 b1
    exact ⟨s0, by omega, t0, t1⟩
/-- the gear of the mesh m at the side s -/
abbrev gM (w : Int → Int) (m s : Int) : Nat := gA 1 (w (228 + 3 * m + s))
theorem ge_of {d : Mem} (P : PL d 1 3 4 5 185) {m s : Int} (m0 : 0 ≤ m) (m1 : m < d 185 1741) (hs : s = 0 ∨ s = 1) : isG (gM (d 185) m s) ∧ d (gM (d 185) m s) 1 = d 185 (19 * d 185 (228 + 3 * m + s)) ∧ d (gM (d 185) m s) 2 = eT (d 185) m s ∧ d (gM (d 185) m s) 3 = eS (d 185) m s ∧ 0 ≤ d 185 (19 * d 185 (228 + 3 * m + s)) ∧ d 185 (19 * d 185 (228 + 3 * m + s)) ≤ 4 ∧ 6 ≤ gM (d 185) m s ∧ gM (d 185) m s ≤ 28 ∧ 0 ≤ d 185 (228 + 3 * m + s) ∧ d 185 (228 + 3 * m + s) < 12 := by
  obtain ⟨p1, p2, p3, p4, p5, p6, p7, p8⟩ := P
  obtain ⟨-, -, -, a0, a1, b0, b1, -⟩ := p8 m m0 m1
  have key : ∀ i : Int, 0 ≤ i → i < d 185 1740 → isG (gA 1 i) ∧ d (gA 1 i) 1 = d 185 (19 * i) ∧ d (gA 1 i) 2 = d 185 (19 * i + 1) ∧ d (gA 1 i) 3 = d 185 (19 * i + 2) ∧ 0 ≤ d 185 (19 * i) ∧ d 185 (19 * i) ≤ 4 ∧ 6 ≤ gA 1 i ∧ gA 1 i ≤ 28 ∧ 0 ≤ i ∧ i < 12 := fun i i0 i1 => by
    obtain ⟨g0, g1, g2, g3, gw, k0, k1, -⟩ := p7 i i0 i1
    have gl := gA_le (p := 1) i0 (by omega : i < 12)
    exact ⟨isG_1 i0 (by omega), g1, g2, g3, k0, k1, by omega, by omega, i0, by omega⟩
  rcases hs with rfl | rfl
  · exact key _ a0 a1
  · exact key _ b0 b1
theorem K_ddiv {a b : Int} (h : b ∣ a) (a1 : -9223372036854775808 < a) (a2 : a < 9223372036854775808) (b1 : 0 < b) (b2 : b < 9223372036854775808) : K a / K b = K (a / b) := by
  have e : a = b * (a / b) := (Int.mul_ediv_cancel' h).symm
  have l : (a / b).natAbs ≤ a.natAbs := by
    have := congrArg Int.natAbs e
    rw [Int.natAbs_mul] at this
    rw [this]
    exact Nat.le_mul_of_pos_left _ (by omega)
  rw [← Int64.toInt_inj, Int64.toInt_div, K_toI (by omega) a2, K_toI (by omega) b2, K_toI (by omega) (by omega), Int.tdiv_eq_ediv_of_dvd h]
  exact Int.bmod_eq_of_le (by omega) (by omega)
theorem b99 {n x : Nat} (hn : n ≤ 8) (h : x ≤ 99 ^ n) : x ≤ 99 ^ 8 := Nat.le_trans h (Nat.pow_le_pow_right (by decide) hn)
theorem v98 : 99 ^ 8 = 9227446944279201 := by decide
theorem eG_sd {w : Int → Int} {m s : Int} (hs : s = 0 ∨ s = 1) : eG w m = if w (19 * w (228 + 3 * m + s)) = 4 ∨ w (19 * w (228 + 3 * m + (1 - s))) = 4 then 1 else -1 := by
  unfold eG
  rcases hs with rfl | rfl
  · rfl
  · rw [show (1 : Int) - 1 = 0 from rfl]
    by_cases c : w (19 * w (228 + 3 * m + 0)) = 4 ∨ w (19 * w (228 + 3 * m + 1)) = 4
    · rw [if_pos c, if_pos c.symm]
    · rw [if_neg c, if_neg (fun h => c h.symm)]
theorem c_findNext {D : Mem} (P : PL D 1 3 4 5 185) {m s : Int} (m0 : 0 ≤ m) (m1 : m < D 185 1741) (hs : s = 0 ∨ s = 1) {e : Int × Int × Int} (v4 : 0 < e.2.2) (v5 : e.2.2.natAbs ≤ 99 ^ 8) (v6 : e.2.1.natAbs ≤ 99 ^ 8) (h3 : D 133 (eS (D 185) m s) = e.2.1) (h4 : D 134 (eS (D 185) m s) = e.2.2) : ∃ D', f_X10_findNext (mkH D) 131 (gM (D 185) m s) (gM (D 185) m (1 - s)) = some (mkH D') ∧ D' 131 4 = (nxt (D 185) m s e).2.1 ∧ D' 131 5 = (nxt (D 185) m s e).2.2 ∧ ∀ x, x ≠ 131 → D' x = D x := by
  have E := ev_of P
  obtain ⟨Ga, a1, a2, a3, ka0, ka1, la0, la1, -, -⟩ := ge_of P m0 m1 hs
  obtain ⟨Gb, b1, b2, b3, kb0, kb1, lb0, lb1, -, -⟩ := ge_of P (s := 1 - s) m0 m1 (by omega)
  obtain ⟨sa0, sa1, ta0, ta1⟩ := E m s m0 m1 hs
  obtain ⟨sb0, sb1, tb0, tb1⟩ := E m (1 - s) m0 m1 (by omega)
  obtain ⟨q0, q1, q2, q3, q4, q5, q6⟩ := nx_rng E m0 m1 hs v4 v5 v6
  have ra := c_isRing (d := D) Ga (by rw [a1]; exact ⟨ka0, ka1⟩)
  have rb := c_isRing (d := D) Gb (by rw [b1]; exact ⟨kb0, kb1⟩)
  rw [a1] at ra
  rw [b1] at rb
  have esg := eG_sd (w := D 185) (m := m) hs
  have hv := v98
  obtain ⟨p, hp⟩ : ∃ p, p = nxP (D 185) m s e.2.1 := ⟨_, rfl⟩
  obtain ⟨q, hq⟩ : ∃ q, q = nxQ (D 185) m s e.2.2 := ⟨_, rfl⟩
  have n1 : (nxt (D 185) m s e).2.1 = p / (Nat.gcd p.natAbs q.natAbs : Int) := by rw [hp, hq]; rfl
  have n2 : (nxt (D 185) m s e).2.2 = q / (Nat.gcd p.natAbs q.natAbs : Int) := by rw [hp, hq]; rfl
  have ep : e.2.1 * eT (D 185) m s * eG (D 185) m = p := hp.symm
  have eq : e.2.2 * eT (D 185) m (1 - s) = q := hq.symm
  rw [n1, n2]
  rw [← hp] at q2
  rw [← hq] at q0 q1
  generalize eT (D 185) m s = Ta at *
  generalize eT (D 185) m (1 - s) = Tb at *
  generalize eS (D 185) m s = Sa at *
  generalize eG (D 185) m = sg at *
  have g4 : gI (mkH D) (gM (D 185) m s) 0 3 = some (J Sa) := by rw [SG4 D _ Ga, a3]
  have g5 : gI (mkH D) (gM (D 185) m s) 0 2 = some (J Ta) := by rw [SG3 D _ Ga, a2]
  have l3 : aL (mkH D) 133 (J Sa) = some (K e.2.1) := by rw [q_aL (len := 8) rfl (by decide) sa0 (by omega), h3]
  obtain ⟨D1, hD1⟩ : ∃ D1, D1 = up D 131 4 p := ⟨_, rfl⟩
  have x1 : ∀ x, x ≠ 131 → D1 x = D x := fun x h => by rw [hD1, up_row h]
  have g6 : gI (mkH D1) (gM (D 185) m s) 0 3 = some (J Sa) := by rw [SG4 D1 _ Ga, x1 _ (by omega), a3]
  have g7 : gI (mkH D1) (gM (D 185) m (1 - s)) 0 2 = some (J Tb) := by rw [SG3 D1 _ Gb, x1 _ (by omega), b2]
  have l4 : aL (mkH D1) 134 (J Sa) = some (K e.2.2) := by rw [q_aL (len := 8) rfl (by decide) sa0 (by omega), x1 134 (by decide), h4]
  obtain ⟨D2, hD2⟩ : ∃ D2, D2 = up D1 131 5 q := ⟨_, rfl⟩
  have x2 : ∀ x, x ≠ 131 → D2 x = D x := fun x h => by rw [hD2, up_row h, x1 x h]
  have e4 : D2 131 4 = p := by rw [hD2, up_nk (by decide), hD1, up_same]
  have e5 : D2 131 5 = q := by rw [hD2, up_same]
  have G := c_gcd (a := p.natAbs) (b := q.natAbs) (by omega) (by omega)
  have ab : (if 0 < K p then K p else -K p) = K (p.natAbs : Int) := by
    by_cases c : 0 < p
    · rw [if_pos (by rw [K_zero, K_lt (by omega) (by omega) (by omega) (by omega)]; exact c)]
      congr 1
      omega
    · rw [if_neg (by rw [K_zero, K_lt (by omega) (by omega) (by omega) (by omega)]; exact c), K_neg]
      congr 1
      omega
  have qn : ((q.natAbs : Nat) : Int) = q := by omega
  rw [qn] at G
  obtain ⟨g, P', Q', g0, eg, fp, fq, -, -, Q0, -⟩ := nx_fac (p := p) q0
  have gq : g ≤ q := by
    have k := Int.mul_le_mul_of_nonneg_left (show (1 : Int) ≤ Q' by omega) (show (0 : Int) ≤ g by omega)
    rw [Int.mul_one] at k
    omega
  rw [← eg] at G ⊢
  have dp : g ∣ p := ⟨P', fp⟩
  have dq : g ∣ q := ⟨Q', fq⟩
  have j3 : (if J (B (D 185 (19 * D 185 (228 + 3 * m + s)) = 4)) = 0 then
      (isO (mkH D) (gM (D 185) m (1 - s)) 0).bind fun _ =>
      (f_X0_isRing (mkH D) (gM (D 185) m (1 - s))).bind fun r5 =>
      (if r5 = 0 then
        some (J 0)
      else
        some (J 1))
    else
      some (J 1)) = some (J (if sg = 1 then 1 else 0)) := by
    by_cases c1 : D 185 (19 * D 185 (228 + 3 * m + s)) = 4
    · rw [if_pos (Or.inl c1)] at esg
      rw [B_t c1, if_neg n1J, if_pos esg]
    · rw [B_f c1, if_pos (by rfl)]
      refine bind_eq (q_isO Gb.1) (bind_eq rb ?_)
      by_cases c2 : D 185 (19 * D 185 (228 + 3 * m + (1 - s))) = 4
      · rw [if_pos (Or.inr c2)] at esg
        rw [B_t c2, if_neg n1J, if_pos esg]
      · rw [if_neg (fun h => by rcases h with h | h; exact c1 h; exact c2 h)] at esg
        rw [B_f c2, if_pos (by rfl), if_neg (by rw [esg]; decide)]
  have j12 : (if J (if sg = 1 then 1 else 0) = 0 then some (J (-1)) else some (J 1)) = some (J sg) := by
    by_cases c : sg = 1
    · rw [if_pos c, if_neg n1J, c]
    · rw [if_neg c, if_pos (by rfl)]
      have : sg = -1 := by
        rw [esg] at c ⊢
        split at c
        · exact absurd rfl c
        · rename_i h
          rw [if_neg h]
      rw [this]
  have sgb : sg = 1 ∨ sg = -1 := by
    rw [esg]
    split
    · exact Or.inl rfl
    · exact Or.inr rfl
  have pre : ∀ {X : Option Hp}, ((f_X11_greatestDivisor (K (p.natAbs : Int)) (K q)).bind fun r22 =>
  ((if (lg_cmp r22 (K 1)) ≤ 0 then
    some (mkH D2)
  else
    (gL (mkH D2) 131 9 4).bind fun x24 =>
    (nzL r22).bind fun u25 =>
    (pF (mkH D2) 131 9 4 (.long (x24 / r22))).bind fun h26 =>
    (gL h26 131 9 5).bind fun x27 =>
    (nzL r22).bind fun u28 =>
    (pF h26 131 9 5 (.long (x27 / r22))).bind fun h29 =>
    some h29)).bind fun (j23 : Hp) =>
  some j23) = X → f_X10_findNext (mkH D) 131 (gM (D 185) m s) (gM (D 185) m (1 - s)) = X := by
    intro X hX
    unfold f_X10_findNext
    refine bind_eq (q_isO Ga.1) (bind_eq ra (bind_eq j3 (bind_eq (q_gR rfl rfl) (bind_eq g4 (bind_eq l3 (bind_eq g5 (bind_eq j12 ?_)))))))
    rw [J_64 (by omega) (by omega), J_64 (by omega) (by omega), K_mul, K_mul, ep]
    refine bind_eq (q_pL rfl rfl) ?_
    rw [show ((4 : Nat) : Int) = 4 from rfl, ← hD1]
    refine bind_eq (q_gR rfl rfl) (bind_eq g6 (bind_eq l4 (bind_eq g7 ?_)))
    rw [J_64 (by omega) (by omega), K_mul, eq]
    refine bind_eq (q_pL rfl rfl) ?_
    rw [show ((5 : Nat) : Int) = 5 from rfl, ← hD2]
    refine bind_eq (q_gL rfl rfl) (bind_eq (q_gL rfl rfl) ?_)
    rw [show ((4 : Nat) : Int) = 4 from rfl, show ((5 : Nat) : Int) = 5 from rfl, e4, e5, ab]
    exact hX
  have lg : lg_cmp (K g) (K 1) ≤ 0 ↔ g ≤ 1 := lg_le (by omega) (by omega) (by omega) (by omega)
  by_cases c : g ≤ 1
  · have g1 : g = 1 := by omega
    refine ⟨D2, pre (bind_eq G (bind_eq (a := mkH D2) ?_ rfl)), ?_, ?_, x2⟩
    · rw [if_pos (lg.mpr c)]
    · rw [e4, g1, Int.ediv_one]
    · rw [e5, g1, Int.ediv_one]
  · obtain ⟨D3, hD3⟩ : ∃ D3, D3 = up D2 131 4 (p / g) := ⟨_, rfl⟩
    have e6 : D3 131 5 = q := by rw [hD3, up_nk (by decide), e5]
    refine ⟨up D3 131 5 (q / g), pre (bind_eq G (bind_eq (a := mkH (up D3 131 5 (q / g))) ?_ rfl)), ?_, up_same _ _ _ _, fun x h => by rw [up_row h, hD3, up_row h, x2 x h]⟩
    · rw [if_neg (fun h => c (lg.mp h))]
      refine bind_eq (q_gL rfl rfl) ?_
      rw [show ((4 : Nat) : Int) = 4 from rfl, e4]
      refine bind_eq (nzL_K (by omega) (by omega) (by omega)) ?_
      rw [K_ddiv dp (by omega) (by omega) g0 (by omega)]
      refine bind_eq (q_pL rfl rfl) ?_
      rw [show ((4 : Nat) : Int) = 4 from rfl, ← hD3]
      refine bind_eq (q_gL rfl rfl) ?_
      rw [show ((5 : Nat) : Int) = 5 from rfl, e6]
      refine bind_eq (nzL_K (by omega) (by omega) (by omega)) ?_
      rw [K_ddiv dq (by omega) (by omega) g0 (by omega)]
      exact bind_eq (q_pL rfl rfl) rfl
    · rw [up_nk (by decide), hD3, up_same]
