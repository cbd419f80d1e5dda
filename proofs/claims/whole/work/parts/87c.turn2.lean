/-! the class's drive, passes and solve -/
/-- the rows r, u, v tell the shafts -/
def TRw (D : Mem) (r u v : Nat) (σ : TS) : Prop := ∀ j : Int, 0 ≤ j → j < 8 → (σ j = none → D r j = -1) ∧ ∀ e, σ j = some e → D r j = e.1 ∧ D u j = e.2.1 ∧ D v j = e.2.2
theorem TRw_row {D D' : Mem} {r u v : Nat} {σ : TS} (h1 : D' r = D r) (h2 : D' u = D u) (h3 : D' v = D v) (T : TRw D r u v σ) : TRw D' r u v σ := fun j j0 j1 => by
  rw [h1, h2, h3]
  exact T j j0 j1
theorem TRw_up {D D' : Mem} {r u v : Nat} {σ : TS} {k : Int} {e : Int × Int × Int} (h1 : D' r = up D r k e.1 r) (h2 : D' u = up D u k e.2.1 u) (h3 : D' v = up D v k e.2.2 v) (T : TRw D r u v σ) : TRw D' r u v (upT σ k e) := fun j j0 j1 => by
  rw [h1, h2, h3]
  unfold upT
  by_cases c : j = k
  · rw [if_pos c, c, up_same, up_same, up_same]
    refine ⟨fun h => (by cases h), fun e' h => ?_⟩
    have h := (Option.some.inj h)
    rw [← h]
    exact ⟨rfl, rfl, rfl⟩
  · rw [if_neg c, up_nk c, up_nk c, up_nk c]
    exact T j j0 j1
theorem PL_fr {d D : Mem} (h : ∀ x, (x < 131 ∨ 135 < x) → D x = d x) (P : PL d 1 3 4 5 185) : PL D 1 3 4 5 185 := PL_rows (h _ (by omega)) (h _ (by omega)) (h _ (by omega)) (h _ (by omega)) (h _ (by omega)) (fun i i0 i1 => by
  have := gA_le (p := 1) i0 i1
  exact ⟨h _ (by omega), h _ (by omega)⟩) P
theorem val_b {σ : TS} {r : Int} (V : VAL σ r) {j : Int} {e : Int × Int × Int} (j0 : 0 ≤ j) (j1 : j < 8) (h : σ j = some e) : 0 ≤ e.1 ∧ e.1 < 8 ∧ 0 < e.2.2 ∧ e.2.2.natAbs ≤ 99 ^ 8 ∧ e.2.1.natAbs ≤ 99 ^ 8 := by
  obtain ⟨u1, u2, u3, u4, u5, u6, u7⟩ := V j e j0 j1 h
  exact ⟨u1, u3, u4, b99 (cnT_le σ 8) u5, b99 (cnT_le σ 8) u6⟩
theorem c_drive {D : Mem} (P : PL D 1 3 4 5 185) {m s r : Int} (m0 : 0 ≤ m) (m1 : m < D 185 1741) (hs : s = 0 ∨ s = 1) {σ : TS} (V : VAL σ r) (T : TRw D 132 133 134 σ) : ∃ D', f_X10_drive (mkH D) 131 (gM (D 185) m s) (gM (D 185) m (1 - s)) = some (mkH D') ∧ TRw D' 132 133 134 (drvS (D 185) m s σ) ∧ ∀ x, (x < 131 ∨ 134 < x) → D' x = D x := by
  have E := ev_of P
  obtain ⟨Ga, -, -, a3, -, -, la0, la1, -, -⟩ := ge_of P m0 m1 hs
  obtain ⟨Gb, -, -, b3, -, -, lb0, lb1, -, -⟩ := ge_of P (s := 1 - s) m0 m1 (by omega)
  obtain ⟨sa0, sa1, -⟩ := E m s m0 m1 hs
  obtain ⟨sb0, sb1, -⟩ := E m (1 - s) m0 m1 (by omega)
  have ga : ∀ X : Mem, X (gM (D 185) m s) = D (gM (D 185) m s) → gI (mkH X) (gM (D 185) m s) 0 3 = some (J (eS (D 185) m s)) := fun X h => by rw [SG4 X _ Ga, h, a3]
  have gb : ∀ X : Mem, X (gM (D 185) m (1 - s)) = D (gM (D 185) m (1 - s)) → gI (mkH X) (gM (D 185) m (1 - s)) 0 3 = some (J (eS (D 185) m (1 - s))) := fun X h => by rw [SG4 X _ Gb, h, b3]
  have r1 := z132_0 D _ sa0 (by omega)
  have r2 := z132_0 D _ sb0 (by omega)
  obtain ⟨Ta0, Ta⟩ := T _ sa0 sa1
  obtain ⟨Tb0, Tb⟩ := T _ sb0 sb1
  rcases drv_cases (D 185) m s σ with ⟨h, hcl⟩ | ⟨e, h1, h2, h⟩
  · rw [h]
    refine ⟨D, ?_, T, fun _ _ => rfl⟩
    unfold f_X10_drive
    refine bind_eq (z131_1 D) (bind_eq (ga D rfl) (bind_eq r1 ?_))
    cases ha : σ (eS (D 185) m s) with
    | none =>
      rw [Ta0 ha, if_pos (by decide)]
    | some e =>
      obtain ⟨e1, -⟩ := val_b V sa0 sa1 ha
      obtain ⟨t1, -⟩ := Ta e ha
      rw [t1, if_neg (by rw [J_zero, J_lt (by omega) (by have := (val_b V sa0 sa1 ha).2.1; omega) (by omega) (by omega)]; omega)]
      refine bind_eq (z131_1 D) (bind_eq (gb D rfl) (bind_eq r2 ?_))
      cases hb : σ (eS (D 185) m (1 - s)) with
      | none => exact absurd hb (hcl (fun c => by rw [ha] at c; cases c))
      | some e' =>
        obtain ⟨e1', e2', -⟩ := val_b V sb0 sb1 hb
        obtain ⟨t1', -⟩ := Tb e' hb
        rw [t1', if_neg (by rw [J_zero, J_lt (by omega) (by omega) (by omega) (by omega)]; omega)]
  · obtain ⟨v1, v2, v3, v4, v5⟩ := val_b V sa0 sa1 h1
    obtain ⟨t1, t2, t3⟩ := Ta e h1
    obtain ⟨D1, q1, q2, q3, q4⟩ := c_findNext P m0 m1 hs v3 v4 v5 t2 t3
    obtain ⟨D2, hD2⟩ : ∃ D2, D2 = up D1 132 (eS (D 185) m (1 - s)) e.1 := ⟨_, rfl⟩
    obtain ⟨D3, hD3⟩ : ∃ D3, D3 = up D2 133 (eS (D 185) m (1 - s)) (nxt (D 185) m s e).2.1 := ⟨_, rfl⟩
    obtain ⟨D4, hD4⟩ : ∃ D4, D4 = up D3 134 (eS (D 185) m (1 - s)) (nxt (D 185) m s e).2.2 := ⟨_, rfl⟩
    have s1 : sI (mkH D1) 132 (J (eS (D 185) m (1 - s))) (J e.1) = some (mkH D2) := by rw [z132_1 D1 _ _ sb0 (by omega), hD2]
    have s2 : sL (mkH D2) 133 (J (eS (D 185) m (1 - s))) (K (nxt (D 185) m s e).2.1) = some (mkH D3) := by rw [z133_1 D2 _ _ sb0 (by omega), hD3]
    have s3 : sL (mkH D3) 134 (J (eS (D 185) m (1 - s))) (K (nxt (D 185) m s e).2.2) = some (mkH D4) := by rw [z134_1 D3 _ _ sb0 (by omega), hD4]
    have x2 : ∀ x, x ≠ 131 → x ≠ 132 → D2 x = D x := fun x a b => by rw [hD2, up_row b, q4 x a]
    have x3 : ∀ x, x ≠ 131 → x ≠ 132 → x ≠ 133 → D3 x = D x := fun x a b c => by rw [hD3, up_row c, x2 x a b]
    have k4 : D2 131 4 = (nxt (D 185) m s e).2.1 := by rw [hD2, up_na (by decide), q2]
    have k5 : D3 131 5 = (nxt (D 185) m s e).2.2 := by rw [hD3, up_na (by decide), hD2, up_na (by decide), q3]
    have r3 : aI (mkH D1) 132 (J (eS (D 185) m s)) = some (J e.1) := by rw [z132_0 D1 _ sa0 (by omega), q4 132 (by decide), t1]
    rw [h]
    refine ⟨D4, ?_, TRw_up (D := D) ?_ ?_ ?_ T, fun x hx => by rw [hD4, up_row (by omega), x3 x (by omega) (by omega) (by omega)]⟩
    · unfold f_X10_drive
      refine bind_eq (z131_1 D) (bind_eq (ga D rfl) (bind_eq r1 ?_))
      rw [t1, if_neg (by rw [J_zero, J_lt (by omega) (by omega) (by omega) (by omega)]; omega)]
      refine bind_eq (z131_1 D) (bind_eq (gb D rfl) (bind_eq r2 ?_))
      rw [Tb0 h2, if_pos (by decide)]
      refine bind_eq (z131_0 D) (bind_eq q1 (bind_eq (z131_1 D1) (bind_eq (gb D1 (q4 _ (by omega))) (bind_eq (z131_1 D1) (bind_eq (ga D1 (q4 _ (by omega))) (bind_eq r3 (bind_eq s1 ?_)))))))
      refine bind_eq (z131_2 D2) (bind_eq (gb D2 (x2 _ (by omega) (by omega))) (bind_eq (z131_5 D2) ?_))
      rw [k4]
      refine bind_eq s2 (bind_eq (z131_3 D3) (bind_eq (gb D3 (x3 _ (by omega) (by omega) (by omega))) (bind_eq (z131_7 D3) ?_)))
      rw [k5]
      exact bind_eq s3 rfl
    · rw [hD4, up_row (by decide), hD3, up_row (by decide), hD2]
      funext k
      unfold up
      split
      · rfl
      · rw [q4 132 (by decide)]
    · rw [hD4, up_row (by decide), hD3]
      funext k
      unfold up
      split
      · rfl
      · rw [x2 133 (by decide) (by decide)]
    · rw [hD4]
      funext k
      unfold up
      split
      · rfl
      · rw [x3 134 (by decide) (by decide) (by decide)]
section
variable {d : Mem}
/-- one pass of the class -/
theorem c_pass (P : PL d 1 3 4 5 185) {M : Nat} (hM : d 185 1741 = M) {D : Mem} (hD : ∀ x, (x < 131 ∨ 135 < x) → D x = d x) {r : Int} {σ : TS} (O : OKT (d 185) M σ r) (T : TRw D 132 133 134 σ) (p3 : Int32) : ∃ D', iter (b_X10_turnAllFrom_32 131 1 p3) FU (J 0, mkH D) = some (mkH D') ∧ TRw D' 132 133 134 (qsS (d 185) σ M) ∧ ∀ x, (x < 131 ∨ 134 < x) → D' x = D x := by
  have E : EV (d 185) M := by
    have := ev_of P
    rw [hM] at this
    exact this
  obtain ⟨p1, p2, p3', p4, p5, p6, -⟩ := id P
  obtain ⟨e, h1, D', rfl, h2, h3⟩ : ∃ e, iter (b_X10_turnAllFrom_32 131 1 p3) FU (J 0, mkH D) = some e ∧ ∃ D' : Mem, e = mkH D' ∧ TRw D' 132 133 134 (qsS (d 185) σ M) ∧ ∀ x, (x < 131 ∨ 134 < x) → D' x = D x := by
    refine iter_for (fun k st => ∃ D' : Mem, st = (J (k : Int), mkH D') ∧ TRw D' 132 133 134 (qsS (d 185) σ k) ∧ ∀ x, (x < 131 ∨ 134 < x) → D' x = D x) _ M (by omega) ⟨D, rfl, T, fun _ _ => rfl⟩ ?_ ?_
    · rintro k st hk ⟨D1, rfl, T1, f1⟩
      have k0 : (0 : Int) ≤ k := by omega
      have k1 : (k : Int) < d 185 1741 := by omega
      have g1 : ∀ x, (x < 131 ∨ 135 < x) → D1 x = d x := fun x h => by rw [f1 x (by omega), hD x h]
      have P1 := PL_fr g1 P
      have e185 : D1 185 = d 185 := g1 185 (by omega)
      have O1 := ps_ok E O k (by omega)
      obtain ⟨D2, q1, T2, f2⟩ := c_drive P1 k0 (by rw [e185]; exact k1) (Or.inl rfl) O1.1 T1
      rw [e185] at q1 T2
      have g2 : ∀ x, (x < 131 ∨ 135 < x) → D2 x = d x := fun x h => by rw [f2 x (by omega), g1 x h]
      have P2 := PL_fr g2 P
      have e185' : D2 185 = d 185 := g2 185 (by omega)
      have O2 := drv_ok E (m := k) k0 (by omega) (Or.inl rfl) O1
      obtain ⟨D3, q2, T3, f3⟩ := c_drive P2 k0 (by rw [e185']; exact k1) (Or.inr rfl) O2.1 T2
      rw [e185'] at q2 T3
      refine ⟨(J ((k : Int) + 1), mkH D3), ?_, D3, rfl, T3, fun x h => by rw [f3 x h, f2 x h, f1 x h]⟩
      have m3 : D1 3 k = d 185 (228 + 3 * (k : Int) + 0) := by rw [g1 3 (by omega)]; exact (P.2.2.2.2.2.2.2 k k0 k1).1
      have m4 : D1 4 k = d 185 (228 + 3 * (k : Int) + 1) := by rw [g1 4 (by omega)]; exact (P.2.2.2.2.2.2.2 k k0 k1).2.1
      obtain ⟨-, -, -, -, -, -, -, -, ia0, ia1⟩ := ge_of P k0 k1 (Or.inl rfl)
      obtain ⟨-, -, -, -, -, -, -, -, ib0, ib1⟩ := ge_of P k0 k1 (Or.inr rfl)
      have qa : ∀ (X : Mem) (i : Int), 0 ≤ i → i < 12 → aR (mkH X) 2 3 (J i) = some (gA 1 i) := fun X i i0 i1 => q_aR (d := X) (a := 2) (i := i) (t := 3) (b := 6) (m := 2) (len := 12) rfl rfl (by decide) (by decide) i0 (by omega)
      unfold b_X10_turnAllFrom_32
      refine bind_eq (z1_7 D1) ?_
      rw [g1 1 (by omega), p2, hM, if_neg (by rw [J_le (by omega) (by omega) (by omega) (by omega)]; omega)]
      refine bind_eq (z1_1 D1) (bind_eq (z1_4 D1) (bind_eq (q_aI (len := 16) rfl (by decide) k0 (by omega)) ?_))
      rw [m3]
      refine bind_eq (qa D1 _ ia0 ia1) (bind_eq (z1_1 D1) (bind_eq (z1_5 D1) (bind_eq (q_aI (len := 16) rfl (by decide) k0 (by omega)) ?_)))
      rw [m4]
      refine bind_eq (qa D1 _ ib0 ib1) (bind_eq (z131_0 D1) (bind_eq q1 (bind_eq (z131_0 D2) (bind_eq q2 (bind_eq rfl ?_)))))
      rw [J_add]
    · rintro st ⟨D1, rfl, T1, f1⟩
      refine ⟨mkH D1, ?_, D1, rfl, T1, f1⟩
      unfold b_X10_turnAllFrom_32
      refine bind_eq (z1_7 D1) ?_
      rw [f1 1 (by omega), hD 1 (by omega), p2, hM, if_pos (by rw [J_le (by omega) (by omega) (by omega) (by omega)]; omega)]
  exact ⟨D', h1, h2, h3⟩
theorem c_turnAll (P : PL d 1 3 4 5 185) {M : Nat} (hM : d 185 1741 = M) {D : Mem} (hD : ∀ x, (x < 131 ∨ 135 < x) → D x = d x) {k : Int} (k0 : 0 ≤ k) (k1 : k < 8) {σ : TS} (O : OKS (d 185) M σ k) (h : σ k = none) (T : TRw D 132 133 134 σ) : ∃ D', f_X10_turnAllFrom (mkH D) 131 (J k) 1 = some (mkH D') ∧ TRw D' 132 133 134 (itS (d 185) M (upT σ k (k, 1, 1)) 7) ∧ ∀ x, (x < 131 ∨ 134 < x) → D' x = D x := by
  have E : EV (d 185) M := by
    have := ev_of P
    rw [hM] at this
    exact this
  obtain ⟨O1, -⟩ := start_ok k0 k1 O h
  obtain ⟨D1, hD1⟩ : ∃ D1, D1 = up (up (up D 132 k k) 133 k 1) 134 k 1 := ⟨_, rfl⟩
  have T1 : TRw D1 132 133 134 (upT σ k (k, 1, 1)) := by
    refine TRw_up (D := D) ?_ ?_ ?_ T
    · rw [hD1, up_row (by decide), up_row (by decide)]
    · rw [hD1, up_row (by decide)]
      funext j
      unfold up
      split
      · rfl
      · rw [if_neg (by omega)]
    · rw [hD1]
      funext j
      unfold up
      split
      · rfl
      · rw [if_neg (by omega), if_neg (by omega)]
  have f1 : ∀ x, (x < 131 ∨ 134 < x) → D1 x = D x := fun x hx => by rw [hD1, up_row (by omega), up_row (by omega), up_row (by omega)]
  generalize upT σ k (k, 1, 1) = τ at *
  obtain ⟨N, hN⟩ : ∃ N : Nat, N = 7 := ⟨_, rfl⟩
  obtain ⟨e, h1, D', rfl, h2, h3⟩ : ∃ e, iter (b_X10_turnAllFrom_23 131 1) FU (J 1, mkH D1) = some e ∧ ∃ D' : Mem, e = mkH D' ∧ TRw D' 132 133 134 (itS (d 185) M τ N) ∧ ∀ x, (x < 131 ∨ 134 < x) → D' x = D x := by
    refine iter_for (fun i st => ∃ D' : Mem, st = (J ((i : Int) + 1), mkH D') ∧ TRw D' 132 133 134 (itS (d 185) M τ i) ∧ ∀ x, (x < 131 ∨ 134 < x) → D' x = D x) _ N (by omega) ⟨D1, rfl, T1, f1⟩ ?_ ?_
    · rintro i st hi ⟨D2, rfl, T2, f2⟩
      obtain ⟨D3, q1, T3, f3⟩ := c_pass P hM (D := D2) (fun x hx => by rw [f2 x (by omega), hD x hx]) (it_ok E O1 i) T2 (J ((i : Int) + 1))
      refine ⟨(J ((i : Int) + 1 + 1), mkH D3), ?_, D3, rfl, T3, fun x hx => by rw [f3 x hx, f2 x hx]⟩
      unfold b_X10_turnAllFrom_23
      rw [if_neg (by rw [J_le (by omega) (by omega) (by omega) (by omega)]; omega)]
      refine bind_eq rfl (bind_eq q1 (bind_eq rfl ?_))
      rw [J_add]
    · rintro st ⟨D2, rfl, T2, f2⟩
      refine ⟨mkH D2, ?_, D2, rfl, T2, f2⟩
      unfold b_X10_turnAllFrom_23
      rw [if_pos (by rw [J_le (by omega) (by omega) (by omega) (by omega)]; omega)]
  rw [hN] at h2
  refine ⟨D', ?_, h2, h3⟩
  unfold f_X10_turnAllFrom
  refine bind_eq (z131_1 D) (bind_eq (z132_1 D _ _ k0 k1) (bind_eq (z131_2 _) (bind_eq (z133_1 _ _ 1 k0 k1) (bind_eq (z131_3 _) (bind_eq (z134_1 _ _ 1 k0 k1) (bind_eq rfl ?_))))))
  rw [← hD1]
  exact bind_eq h1 rfl
def sdS (w : Int → Int) (σ : TS) : Nat → Int → Bool
  | 0, _ => false
  | m + 1, j => sdS w σ m j || (misD w σ m 0 && decide (rtS σ (eS w m 1) = j))
theorem c_check {D : Mem} (P : PL D 1 3 4 5 185) {m r : Int} (m0 : 0 ≤ m) (m1 : m < D 185 1741) {σ : TS} (V : VAL σ r) (T : TRw D 132 133 134 σ) {e e' : Int × Int × Int} (h1 : σ (eS (D 185) m 0) = some e) (h2 : σ (eS (D 185) m 1) = some e') : ∃ D', f_X10_checkMesh (mkH D) 131 (gM (D 185) m 0) (gM (D 185) m 1) = some (mkH D') ∧ D' 135 = (if misD (D 185) σ m 0 = true then up D 135 e'.1 1 else D) 135 ∧ ∀ x, x ≠ 131 → x ≠ 135 → D' x = D x := by
  have E := ev_of P
  obtain ⟨Gb, -, -, b3, -, -, lb0, lb1, -, -⟩ := ge_of P (s := 1) m0 m1 (Or.inr rfl)
  obtain ⟨sa0, sa1, -⟩ := E m 0 m0 m1 (Or.inl rfl)
  obtain ⟨sb0, sb1, -⟩ := E m 1 m0 m1 (Or.inr rfl)
  obtain ⟨v1, v2, v3, v4, v5⟩ := val_b V sa0 sa1 h1
  obtain ⟨u1, u2, u3, u4, u5⟩ := val_b V sb0 sb1 h2
  obtain ⟨t1, t2, t3⟩ := (T _ sa0 sa1).2 e h1
  obtain ⟨w1, w2, w3⟩ := (T _ sb0 sb1).2 e' h2
  obtain ⟨D1, q1, q2, q3, q4⟩ := c_findNext P m0 m1 (Or.inl rfl) v3 v4 v5 t2 t3
  rw [show (1 : Int) - 0 = 1 from rfl] at q1
  obtain ⟨-, -, -, n1, n2, n3, -⟩ := nx_rng E m0 m1 (Or.inl rfl) v3 v4 v5
  have hv := v98
  have em : misD (D 185) σ m 0 = !(decide (e'.2.1 = (nxt (D 185) m 0 e).2.1 ∧ e'.2.2 = (nxt (D 185) m 0 e).2.2)) := by
    unfold misD
    rw [show (1 : Int) - 0 = 1 from rfl, h1, h2]
  rw [em]
  generalize nxt (D 185) m 0 e = N at *
  have gb : gI (mkH D1) (gM (D 185) m 1) 0 3 = some (J (eS (D 185) m 1)) := by rw [SG4 D1 _ Gb, q4 _ (by omega), b3]
  have l3 : aL (mkH D1) 133 (J (eS (D 185) m 1)) = some (K e'.2.1) := by rw [z133_0 D1 _ sb0 sb1, q4 133 (by decide), w2]
  have l4 : aL (mkH D1) 134 (J (eS (D 185) m 1)) = some (K e'.2.2) := by rw [z134_0 D1 _ sb0 sb1, q4 134 (by decide), w3]
  have l2 : aI (mkH D1) 132 (J (eS (D 185) m 1)) = some (J e'.1) := by rw [z132_0 D1 _ sb0 sb1, q4 132 (by decide), w1]
  have k1 : lg_cmp (K e'.2.1) (K N.2.1) = 0 ↔ e'.2.1 = N.2.1 := by
    have := lg_eq (K e'.2.1) (K N.2.1)
    rw [K_eq (by omega) (by omega) (by omega) (by omega)] at this
    exact this
  have k2 : lg_cmp (K e'.2.2) (K N.2.2) = 0 ↔ e'.2.2 = N.2.2 := by
    have := lg_eq (K e'.2.2) (K N.2.2)
    rw [K_eq (by omega) (by omega) (by omega) (by omega)] at this
    exact this
  have x135 : D1 135 = D 135 := q4 135 (by decide)
  have y135 : up D1 135 e'.1 1 135 = up D 135 e'.1 1 135 := by
    funext k
    unfold up
    split
    · rfl
    · rw [x135]
  by_cases c1 : e'.2.1 = N.2.1
  · by_cases c2 : e'.2.2 = N.2.2
    · rw [if_neg (by simp [c1, c2])]
      refine ⟨D1, ?_, x135, fun x a _ => q4 x a⟩
      unfold f_X10_checkMesh
      refine bind_eq (z131_0 D) (bind_eq q1 (bind_eq (z131_2 D1) (bind_eq gb (bind_eq l3 (bind_eq (z131_5 D1) ?_)))))
      rw [q2, if_pos (k1.mpr c1)]
      refine bind_eq (a := mkH D1) (bind_eq (z131_3 D1) (bind_eq gb (bind_eq l4 (bind_eq (z131_7 D1) ?_)))) rfl
      rw [q3, if_pos (k2.mpr c2)]
    · rw [if_pos (by simp [c2])]
      refine ⟨up D1 135 e'.1 1, ?_, y135, fun x a b => by rw [up_row b, q4 x a]⟩
      unfold f_X10_checkMesh
      refine bind_eq (z131_0 D) (bind_eq q1 (bind_eq (z131_2 D1) (bind_eq gb (bind_eq l3 (bind_eq (z131_5 D1) ?_)))))
      rw [q2, if_pos (k1.mpr c1)]
      refine bind_eq (a := mkH (up D1 135 e'.1 1)) (bind_eq (z131_3 D1) (bind_eq gb (bind_eq l4 (bind_eq (z131_7 D1) ?_)))) rfl
      rw [q3, if_neg (fun h => c2 (k2.mp h))]
      exact bind_eq (z131_4 D1) (bind_eq (z131_1 D1) (bind_eq gb (bind_eq l2 (bind_eq (z135_2 D1 _ u1 u2) rfl))))
  · rw [if_pos (by simp [c1])]
    refine ⟨up D1 135 e'.1 1, ?_, y135, fun x a b => by rw [up_row b, q4 x a]⟩
    unfold f_X10_checkMesh
    refine bind_eq (z131_0 D) (bind_eq q1 (bind_eq (z131_2 D1) (bind_eq gb (bind_eq l3 (bind_eq (z131_5 D1) ?_)))))
    rw [q2, if_neg (fun h => c1 (k1.mp h))]
    exact bind_eq (bind_eq (z131_4 D1) (bind_eq (z131_1 D1) (bind_eq gb (bind_eq l2 (bind_eq (z135_2 D1 _ u1 u2) rfl))))) rfl
theorem c_solve (P : PL d 1 3 4 5 185) {M : Nat} (hM : d 185 1741 = M) : ∃ D, f_X10_solve (mkH d) 131 1 = some (mkH D) ∧ TRw D 132 133 134 (slS (d 185) M 8) ∧ (∀ j, 0 ≤ j → j < 8 → D 135 j = if sdS (d 185) (slS (d 185) M 8) M j = true then 1 else 0) ∧ ∀ x, (x < 131 ∨ 135 < x) → D x = d x := by
  have E : EV (d 185) M := by
    have := ev_of P
    rw [hM] at this
    exact this
  obtain ⟨p1, p2, p3', p4, p5, p6, -⟩ := id P
  obtain ⟨D0, hD0⟩ : ∃ D0, D0 = fl d 132 0 8 (fun _ => -1) := ⟨_, rfl⟩
  have q0 : f_J7_fill_53178 (mkH d) 132 (J (-1)) = some (mkH D0) := by
    rw [hD0]
    exact c_fill (d := d) (a := 132) (v := -1) (len := 8) rfl (by decide)
  have f0 : ∀ x, x ≠ 132 → D0 x = d x := fun x h => by rw [hD0, fl_row h]
  obtain ⟨N, hN⟩ : ∃ N : Nat, N = 8 := ⟨_, rfl⟩
  obtain ⟨e, h1, D1, rfl, T1, s1, f1⟩ : ∃ e, iter (b_X10_solve_10 131 1) FU (J 0, mkH D0) = some e ∧ ∃ D' : Mem, e = mkH D' ∧ TRw D' 132 133 134 (slS (d 185) M N) ∧ (∀ j, 0 ≤ j → j < (N : Int) → D' 135 j = 0) ∧ ∀ x, (x < 131 ∨ 135 < x) → D' x = d x := by
    refine iter_for (fun k st => ∃ D' : Mem, st = (J (k : Int), mkH D') ∧ TRw D' 132 133 134 (slS (d 185) M k) ∧ (∀ j, 0 ≤ j → j < (k : Int) → D' 135 j = 0) ∧ ∀ x, (x < 131 ∨ 135 < x) → D' x = d x) _ N (by omega) ⟨D0, rfl, fun j j0 j1 => ⟨fun _ => by rw [hD0, fl_in j0 (by omega)], fun e h => (by cases h)⟩, fun j j0 j1 => by omega, fun x hx => f0 x (by omega)⟩ ?_ ?_
    · rintro k st hk ⟨D2, rfl, T2, s2, f2⟩
      have k0 : (0 : Int) ≤ k := by omega
      have k1 : (k : Int) < 8 := by omega
      have O := sl_ok E k (by omega)
      obtain ⟨D3, hD3⟩ : ∃ D3, D3 = up D2 135 k 0 := ⟨_, rfl⟩
      have f3 : ∀ x, x ≠ 135 → D3 x = D2 x := fun x h => by rw [hD3, up_row h]
      have s3 : ∀ j, 0 ≤ j → j < (k : Int) + 1 → D3 135 j = 0 := fun j j0 j1 => by
        rw [hD3]
        by_cases c : j = (k : Int)
        · rw [c, up_same]
        · rw [up_nk c]
          exact s2 j j0 (by omega)
      have T3 : TRw D3 132 133 134 (slS (d 185) M k) := TRw_row (f3 _ (by decide)) (f3 _ (by decide)) (f3 _ (by decide)) T2
      have pre : ∀ {Y : Option ((Int32 × Hp) ⊕ Hp)} , ((if 0 ≤ J (D3 132 k) then
      some (mkH D3)
    else
      (isO (mkH D3) 131 9).bind fun _ =>
      (f_X10_turnAllFrom (mkH D3) 131 (J (k : Int)) 1).bind fun r7 =>
      some r7)).bind (fun (j5 : Hp) =>
    (some (J (k : Int) + (J 1))).bind fun x9 =>
    some (.inl (x9, j5))) = Y → b_X10_solve_10 131 1 (J (k : Int), mkH D2) = Y := by
        intro Y hY
        unfold b_X10_solve_10
        rw [if_neg (by rw [J_le (by omega) (by omega) (by omega) (by omega)]; omega)]
        refine bind_eq (z131_4 D2) (bind_eq (z135_1 D2 _ k0 k1) ?_)
        rw [← hD3]
        exact bind_eq (z131_1 D3) (bind_eq (z132_0 D3 _ k0 k1) hY)
      unfold slS
      by_cases c : slS (d 185) M k k = none
      · rw [if_pos c]
        obtain ⟨D4, q4, T4, f4⟩ := c_turnAll P hM (D := D3) (fun x hx => by rw [f3 x (by omega), f2 x hx]) k0 k1 O c T3
        refine ⟨(J ((k : Int) + 1), mkH D4), pre ?_, D4, rfl, T4, fun j j0 j1 => by rw [f4 135 (by omega)]; exact s3 j j0 (by omega), fun x hx => by rw [f4 x (by omega), f3 x (by omega), f2 x hx]⟩
        rw [(T3 k k0 k1).1 c, if_neg (by decide)]
        refine bind_eq (a := mkH D4) (bind_eq (z131_0 D3) (bind_eq q4 rfl)) (bind_eq rfl ?_)
        rw [J_add]
      · rw [if_neg c]
        cases hq : slS (d 185) M k k with
        | none => exact absurd hq c
        | some x =>
          obtain ⟨v1, v2, -⟩ := val_b O.1 k0 k1 hq
          obtain ⟨t1, -⟩ := (T3 k k0 k1).2 x hq
          refine ⟨(J ((k : Int) + 1), mkH D3), pre ?_, D3, rfl, T3, fun j j0 j1 => s3 j j0 (by omega), fun x hx => by rw [f3 x (by omega), f2 x hx]⟩
          rw [t1, if_pos (by rw [J_zero, J_le (by omega) (by omega) (by omega) (by omega)]; omega)]
          refine bind_eq rfl (bind_eq rfl ?_)
          rw [J_add]
    · rintro st ⟨D2, rfl, T2, s2, f2⟩
      refine ⟨mkH D2, ?_, D2, rfl, T2, s2, f2⟩
      unfold b_X10_solve_10
      rw [if_pos (by rw [J_le (by omega) (by omega) (by omega) (by omega)]; omega)]
  rw [hN] at T1 s1
  have O := sl_ok E 8 (by omega)
  have kn := sl_known (w := d 185) (M := M) 8
  generalize slS (d 185) M 8 = σ at *
  obtain ⟨e, h2, D2, rfl, T2, s2, f2⟩ : ∃ e, iter (b_X10_solve_46 131 1) FU (J 0, mkH D1) = some e ∧ ∃ D' : Mem, e = mkH D' ∧ TRw D' 132 133 134 σ ∧ (∀ j, 0 ≤ j → j < 8 → D' 135 j = if sdS (d 185) σ M j = true then 1 else 0) ∧ ∀ x, (x < 131 ∨ 135 < x) → D' x = d x := by
    refine iter_for (fun k st => ∃ D' : Mem, st = (J (k : Int), mkH D') ∧ TRw D' 132 133 134 σ ∧ (∀ j, 0 ≤ j → j < 8 → D' 135 j = if sdS (d 185) σ k j = true then 1 else 0) ∧ ∀ x, (x < 131 ∨ 135 < x) → D' x = d x) _ M (by omega) ⟨D1, rfl, T1, fun j j0 j1 => s1 j j0 j1, f1⟩ ?_ ?_
    · rintro k st hk ⟨D3, rfl, T3, s3, f3⟩
      have k0 : (0 : Int) ≤ k := by omega
      have k1 : (k : Int) < d 185 1741 := by omega
      have P3 := PL_fr f3 P
      have e185 : D3 185 = d 185 := f3 185 (by omega)
      obtain ⟨sa0, sa1, -⟩ := E k 0 k0 (by omega) (Or.inl rfl)
      obtain ⟨sb0, sb1, -⟩ := E k 1 k0 (by omega) (Or.inr rfl)
      cases hx : σ (eS (d 185) k 0) with
      | none => exact absurd hx (kn _ sa0 sa1)
      | some x =>
        cases hy : σ (eS (d 185) k 1) with
        | none => exact absurd hy (kn _ sb0 sb1)
        | some y =>
          obtain ⟨D4, q1, q2, q3⟩ := c_check P3 k0 (by rw [e185]; exact k1) O.1 T3 (e := x) (e' := y) (by rw [e185]; exact hx) (by rw [e185]; exact hy)
          rw [e185] at q1 q2
          have m3 : D3 3 k = d 185 (228 + 3 * (k : Int) + 0) := by rw [f3 3 (by omega)]; exact (P.2.2.2.2.2.2.2 k k0 k1).1
          have m4 : D3 4 k = d 185 (228 + 3 * (k : Int) + 1) := by rw [f3 4 (by omega)]; exact (P.2.2.2.2.2.2.2 k k0 k1).2.1
          obtain ⟨-, -, -, -, -, -, -, -, ia0, ia1⟩ := ge_of P k0 k1 (Or.inl rfl)
          obtain ⟨-, -, -, -, -, -, -, -, ib0, ib1⟩ := ge_of P k0 k1 (Or.inr rfl)
          have qa : ∀ (X : Mem) (i : Int), 0 ≤ i → i < 12 → aR (mkH X) 2 3 (J i) = some (gA 1 i) := fun X i i0 i1 => q_aR (d := X) (a := 2) (i := i) (t := 3) (b := 6) (m := 2) (len := 12) rfl rfl (by decide) (by decide) i0 (by omega)
          refine ⟨(J ((k : Int) + 1), mkH D4), ?_, D4, rfl, TRw_row (q3 _ (by decide) (by decide)) (q3 _ (by decide) (by decide)) (q3 _ (by decide) (by decide)) T3, fun j j0 j1 => ?_, fun x hx => by rw [q3 x (by omega) (by omega), f3 x hx]⟩
          · unfold b_X10_solve_46
            refine bind_eq (z1_7 D3) ?_
            rw [f3 1 (by omega), p2, hM, if_neg (by rw [J_le (by omega) (by omega) (by omega) (by omega)]; omega)]
            refine bind_eq (z1_1 D3) (bind_eq (z1_4 D3) (bind_eq (q_aI (len := 16) rfl (by decide) k0 (by omega)) ?_))
            rw [m3]
            refine bind_eq (qa D3 _ ia0 ia1) (bind_eq (z1_1 D3) (bind_eq (z1_5 D3) (bind_eq (q_aI (len := 16) rfl (by decide) k0 (by omega)) ?_)))
            rw [m4]
            refine bind_eq (qa D3 _ ib0 ib1) (bind_eq (z131_0 D3) (bind_eq q1 (bind_eq rfl ?_)))
            rw [J_add]
          · have er : rtS σ (eS (d 185) k 1) = y.1 := by
              unfold rtS
              rw [hy]
            show D4 135 j = if (sdS (d 185) σ k j || (misD (d 185) σ k 0 && decide (rtS σ (eS (d 185) k 1) = j))) = true then 1 else 0
            rw [q2, er]
            have s3j := s3 j j0 j1
            by_cases c : misD (d 185) σ k 0 = true
            · rw [if_pos c, c]
              by_cases cj : j = y.1
              · rw [cj, up_same]
                simp
              · rw [up_nk cj, s3j, decide_eq_false (fun h => cj h.symm)]
                simp
            · rw [if_neg c, s3j]
              have c' : misD (d 185) σ k 0 = false := by cases hq : misD (d 185) σ k 0 <;> simp_all
              rw [c']
              simp
    · rintro st ⟨D3, rfl, T3, s3, f3⟩
      refine ⟨mkH D3, ?_, D3, rfl, T3, s3, f3⟩
      unfold b_X10_solve_46
      refine bind_eq (z1_7 D3) ?_
      rw [f3 1 (by omega), p2, hM, if_pos (by rw [J_le (by omega) (by omega) (by omega) (by omega)]; omega)]
  refine ⟨D2, ?_, T2, s2, f2⟩
  unfold f_X10_solve
  exact bind_eq (z131_1 d) (bind_eq q0 (bind_eq rfl (bind_eq h1 (bind_eq rfl (bind_eq h2 rfl)))))
end
