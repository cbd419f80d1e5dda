/-! the class listens -/
theorem pL146 (D : Mem) (x : Int64) : pF (mkH D) 146 1 3 (.long x) = some (mkH (up D 146 3 x.toInt)) := by
  have h := z146_7 D x.toInt
  rw [K_self] at h
  exact h
theorem sL148 (D : Mem) {i : Int} (x : Int64) (h0 : 0 ≤ i) (h1 : i < 12) : sL (mkH D) 148 (J i) x = some (mkH (up D 148 i x.toInt)) := by
  have h := z148_1 D i x.toInt h0 h1
  rw [K_self] at h
  exact h
/-- teeth by gears -/
def teF (d : Mem) (g : Nat) : Nat := if (g : Int) < d 185 1740 then (d 185 (19 * (g : Int) + 1)).toNat else 4
theorem teF_rng {d : Mem} (P : PL d 1 3 4 5 185) (g : Nat) : 4 ≤ teF d g ∧ teF d g ≤ 99 := by
  obtain ⟨p1, p2, p3, p4, p5, p6, p7, p8⟩ := P
  unfold teF
  by_cases c : (g : Int) < d 185 1740
  · rw [if_pos c]
    obtain ⟨-, -, -, -, -, -, -, t0, t1, -⟩ := p7 g (by omega) c
    omega
  · rw [if_neg c]
    omega
/-- the long that was heard -/
def hdL (w : Int → Int) (N : Nat) : Int64 := mkB (fun t => decide (w t = 1)) N
theorem hd_H (w : Int → Int) {N : Nat} (hN : N ≤ 60) : HRD N (hdL w N) := fun t _ h => by
  unfold hdL at h
  rw [tb_mkB _ N (by omega), Bool.and_eq_true, decide_eq_true_iff] at h
  exact h.1
theorem c_hear {d : Mem} {e N : Nat} (he : shR e = some (0, 120)) (hN : N ≤ 60) (hr : ∀ t : Int, 0 ≤ t → t < N → d e t = 0 ∨ d e t = 1) : ∃ (D : Mem) (f : Nat), f_X1_hear (mkH d) 146 e (J (N : Int)) = some (mkH D) ∧ LS0 D N (fun _ => 0) (hdL (d e) N) f ∧ f < 60 ∧ (hdL (d e) N ≠ K 0 → tb (hdL (d e) N) f = true) ∧ ∀ x, x ≠ 146 → D x = d x := by
  have ne : e ≠ 146 := by
    intro q
    rw [q] at he
    exact absurd he (by decide)
  obtain ⟨D1, hD1⟩ : ∃ D1, D1 = up d 146 2 (N : Int) := ⟨_, rfl⟩
  have z0 : (mkB (fun t => decide (d e t = 1)) 0).toInt = 0 := K_toI (by decide) (by decide)
  have L : iter (b_X1_hear_17 146 e) FU (J 0, mkH (up D1 146 3 0)) = some (mkH (up D1 146 3 (hdL (d e) N).toInt)) := by
    refine iter_at (fun k => (J (k : Int), mkH (up D1 146 3 (mkB (fun t => decide (d e t = 1)) k).toInt))) N (by rw [z0]; rfl) (by omega) (fun k hk => ?_) ?_
    · have r := hr k (by omega) (by omega)
      have n2 : ∀ v, up D1 146 3 v 146 2 = N := fun v => by rw [up_nk (by decide), hD1, up_same]
      have ne' : ∀ v k, up D1 146 3 v e k = d e k := fun v k => by rw [up_na ne, hD1, up_na ne]
      have ae : ∀ v, aI (mkH (up D1 146 3 v)) e (J (k : Int)) = some (J (d e k)) := fun v => by rw [q_aI (len := 120) he (by decide) (by omega) (by omega), ne']
      unfold b_X1_hear_17
      refine bind_eq (z146_4 _) ?_
      rw [n2, if_neg (by rw [J_le (by omega) (by omega) (by omega) (by omega)]; omega)]
      refine bind_eq (ae _) (bind_eq (a := mkH (up D1 146 3 (mkB (fun t => decide (d e t = 1)) (k + 1)).toInt)) ?_ (bind_eq rfl ?_))
      · show _ = some (mkH (up D1 146 3 (if decide (d e k = 1) = true then mkB (fun t => decide (d e t = 1)) k ||| (K 1 <<< ((J (k : Int)).toInt64 &&& 63)) else mkB (fun t => decide (d e t = 1)) k).toInt))
        rcases r with r | r
        · rw [r, if_neg (by decide), if_neg (by decide)]
        · rw [r, if_pos rfl, if_pos (by decide)]
          refine bind_eq (z146_6 _) ?_
          rw [up_same, K_self]
          refine bind_eq (pL146 _ _) ?_
          rw [up_up]
      · rw [J_add]
        rfl
    · have n2 : ∀ v, up D1 146 3 v 146 2 = N := fun v => by rw [up_nk (by decide), hD1, up_same]
      unfold b_X1_hear_17
      refine bind_eq (z146_4 _) ?_
      rw [n2, if_pos (by rw [J_le (by omega) (by omega) (by omega) (by omega)]; omega)]
      rfl
  obtain ⟨D2, hD2⟩ : ∃ D2, D2 = up D1 146 3 (hdL (d e) N).toInt := ⟨_, rfl⟩
  rw [← hD2] at L
  have e3 : K (D2 146 3) = hdL (d e) N := by rw [hD2, up_same, K_self]
  obtain ⟨f, f1, f2, f3⟩ : ∃ f : Nat, ftS (hdL (d e) N) = f ∧ f < 60 ∧ (hdL (d e) N ≠ K 0 → tb (hdL (d e) N) f = true) := by
    by_cases c : hdL (d e) N = K 0
    · refine ⟨0, ?_, by decide, fun h => absurd c h⟩
      unfold ftS
      cases hs : srch (fun t => tb (hdL (d e) N) t) 60 with
      | none => rfl
      | some t =>
        have := (srch_lt hs).2.1
        rw [c, tb_K0] at this
        exact Bool.noConfusion this
    · obtain ⟨f, f1, f2, f3⟩ := ft_some (x := hdL (d e) N) (fun t ht h => by have := hd_H (d e) hN t ht h; omega) c
      exact ⟨f, f1, f2, fun _ => f3⟩
  refine ⟨up D2 146 4 f, f, ?_, ⟨?_, ?_, up_same _ _ _ _⟩, f2, f3, fun x h => by rw [up_row h, hD2, up_row h, hD1, up_row h]⟩
  · unfold f_X1_hear
    have mn : (if J 60 < J (N : Int) then J 60 else J (N : Int)) = J (N : Int) := if_neg (by rw [J_lt (by omega) (by omega) (by omega) (by omega)]; omega)
    rw [mn]
    refine bind_eq (z146_5 d _) ?_
    rw [← hD1]
    refine bind_eq (z146_7 D1 0) (bind_eq rfl (bind_eq L (bind_eq (z146_6 D2) ?_)))
    rw [e3, c_firstTick, f1]
    exact bind_eq rfl (bind_eq (z146_9 D2 _) rfl)
  · rw [up_nk (by decide), hD2, up_nk (by decide), hD1, up_same]
  · rw [up_nk (by decide), e3]
section
variable {d : Mem} {N : Nat} {H : Int64}
/-- counts added: the sums w of sets and uses -/
def WS (D : Mem) (G : Nat) (b : Int) (w : Nat → Nat) : Prop := D 146 8 = b + w 0 ∧ ∀ j : Nat, j < G → D 150 j = w (j + 1)
theorem c_addSets {D : Mem} {G i j c : Nat} {b : Int} {w : Nat → Nat} (hG : G ≤ 12) (hi : i < G) (hj : j < G) (W : WS D G b w) : ∃ D', f_X1_addSets (mkH D) 146 (J (c : Int)) (J (i : Int)) (J (j : Int)) = some (mkH D') ∧ WS D' G b (fun k => w k + c * wtS k i j) ∧ (∀ x k, x ≠ 150 → ¬ (x = 146 ∧ k = 8) → D' x k = D x k) := by
  obtain ⟨w0, w1⟩ := W
  obtain ⟨D1, hD1⟩ : ∃ D1, D1 = up D 146 8 (D 146 8 + c) := ⟨_, rfl⟩
  obtain ⟨D2, hD2⟩ : ∃ D2, D2 = up D1 150 i (D1 150 i + c) := ⟨_, rfl⟩
  have pre : ∀ {Y : Option Hp}, ((if J (j : Int) = J (i : Int) then
    some (mkH D2)
  else
    (gR (mkH D2) 146 1 7).bind fun x7 =>
    (aI (mkH D2) x7 (J (j : Int))).bind fun x8 =>
    (sI (mkH D2) x7 (J (j : Int)) (x8 + J (c : Int))).bind fun h9 =>
    some h9)).bind (fun (j6 : Hp) => some j6) = Y → f_X1_addSets (mkH D) 146 (J (c : Int)) (J (i : Int)) (J (j : Int)) = Y := by
    intro Y hY
    unfold f_X1_addSets
    refine bind_eq (z146_13 D) ?_
    rw [J_add]
    refine bind_eq (z146_14 D _) ?_
    rw [← hD1]
    refine bind_eq (z146_12 D1) (bind_eq (z150_0 D1 _ (by omega) (by omega)) ?_)
    rw [J_add]
    refine bind_eq (z150_1 D1 _ _ (by omega) (by omega)) ?_
    rw [← hD2]
    exact hY
  have e150 : ∀ k, D1 150 k = D 150 k := fun k => by rw [hD1, up_na (by decide)]
  have wt0 : ∀ a b : Nat, wtS 0 a b = 1 := wt_0
  by_cases cj : j = i
  · refine ⟨D2, pre ?_, ⟨?_, fun x hx => ?_⟩, fun x k h1 h2 => ?_⟩
    · rw [if_pos (by rw [cj])]
      rfl
    · rw [hD2, up_na (by decide), hD1, up_same, w0]
      show b + (w 0 : Int) + c = b + ((w 0 + c * wtS 0 i j : Nat) : Int)
      rw [wt0, Nat.mul_one]
      omega
    · show D2 150 x = ((w (x + 1) + c * wtS (x + 1) i j : Nat) : Int)
      rw [hD2]
      by_cases c1 : x = i
      · have : wtS (x + 1) i j = 1 := by
          unfold wtS
          rw [if_neg (by omega), if_pos (by omega)]
        rw [this, c1, up_same, e150, w1 i hi, Nat.mul_one]
        omega
      · have : wtS (x + 1) i j = 0 := by
          unfold wtS
          rw [if_neg (by omega), if_neg (by omega)]
        rw [this, up_nk (by omega), e150, w1 x hx, Nat.mul_zero]
        omega
    · rw [hD2, up_na h1, hD1]
      unfold up
      rw [if_neg h2]
  · refine ⟨up D2 150 j (D2 150 j + c), pre ?_, ⟨?_, fun x hx => ?_⟩, fun x k h1 h2 => ?_⟩
    · rw [if_neg (by rw [J_eq (by omega) (by omega) (by omega) (by omega)]; omega)]
      refine bind_eq (bind_eq (z146_12 D2) (bind_eq (z150_0 D2 _ (by omega) (by omega)) ?_)) rfl
      rw [J_add]
      exact bind_eq (z150_1 D2 _ _ (by omega) (by omega)) rfl
    · rw [up_na (by decide), hD2, up_na (by decide), hD1, up_same, w0]
      show b + (w 0 : Int) + c = b + ((w 0 + c * wtS 0 i j : Nat) : Int)
      rw [wt0, Nat.mul_one]
      omega
    · show up D2 150 j (D2 150 j + c) 150 x = ((w (x + 1) + c * wtS (x + 1) i j : Nat) : Int)
      by_cases c2 : x = j
      · have : wtS (x + 1) i j = 1 := by
          unfold wtS
          rw [if_neg (by omega), if_pos (by omega)]
        rw [this, c2, up_same, hD2, up_nk (by omega), e150, w1 j hj, Nat.mul_one]
        omega
      · rw [up_nk (by omega), hD2]
        by_cases c1 : x = i
        · have : wtS (x + 1) i j = 1 := by
            unfold wtS
            rw [if_neg (by omega), if_pos (by omega)]
          rw [this, c1, up_same, e150, w1 i hi, Nat.mul_one]
          omega
        · have : wtS (x + 1) i j = 0 := by
            unfold wtS
            rw [if_neg (by omega), if_neg (by omega)]
          rw [this, up_nk (by omega), e150, w1 x hx, Nat.mul_zero]
          omega
    · rw [up_na h1, hD2, up_na h1, hD1]
      unfold up
      rw [if_neg h2]
/-- what the listener knows, while sets are counted -/
def LSt (D : Mem) (N : Nat) (te : Nat → Nat) (H : Int64) (f G : Nat) : Prop := LS0 D N te H f ∧ D 146 1 = G ∧ ∀ j : Nat, j < G → LSa D N te H f j
theorem LSt_fr {D D' : Mem} {te : Nat → Nat} {f G : Nat} (hG : G ≤ 12) (h : ∀ x k, x ≠ 150 → ¬ (x = 146 ∧ k = 8) → D' x k = D x k) (L : LSt D N te H f G) : LSt D' N te H f G := by
  obtain ⟨⟨l1, l2, l3⟩, l4, l5⟩ := L
  refine ⟨⟨by rw [h _ _ (by decide) (by omega)]; exact l1, by rw [h _ _ (by decide) (by omega)]; exact l2, by rw [h _ _ (by decide) (by omega)]; exact l3⟩, by rw [h _ _ (by decide) (by omega)]; exact l4, fun j hj => ?_⟩
  obtain ⟨⟨a, b⟩, c, e⟩ := l5 j hj
  have gl := gA_le (p := 1) (i := (j : Int)) (by omega) (by omega)
  exact ⟨⟨by rw [h _ _ (by decide) (by omega)]; exact a, by rw [h _ _ (by omega) (by omega)]; exact b⟩, by rw [h _ _ (by decide) (by omega)]; exact c, by rw [h _ _ (by decide) (by omega)]; exact e⟩
theorem c_listen (P : PL d 1 3 4 5 185) {G : Nat} (hG : d 185 1740 = G) {e : Nat} (he : shR e = some (0, 120)) (h155 : 154 ≤ e) (hN : N ≤ 60) (hr : ∀ t : Int, 0 ≤ t → t < N → d e t = 0 ∨ d e t = 1) : ∃ D, f_X1_listen (mkH d) 146 1 e (J (N : Int)) = some (mkH D) ∧ D 146 1 = G ∧ WS D G (if hdL (d e) N = K 0 then 1 else 0) (fun k => tsW N (teF d) (hdL (d e) N) k G 0) ∧ ∀ x, (x < 146 ∨ 150 < x) → D x = d x := by
  obtain ⟨p1, p2, p3, p4, p5, p6, p7, p8⟩ := id P
  have tr := teF_rng P
  obtain ⟨D0, f, q0, ⟨a1, a2, a3⟩, f60, hf, f0⟩ := c_hear he hN hr
  have HH := hd_H (d e) hN
  generalize hdL (d e) N = H at *
  generalize hte : teF d = te at *
  have te_g : ∀ g : Nat, g < G → d (gA 1 g) 2 = te g := fun g hg => by
    rw [(p7 g (by omega) (by omega)).2.2.1, ← hte]
    unfold teF
    have := (p7 g (by omega) (by omega)).2.2.2.2.2.2.2.1
    rw [if_pos (by omega)]
    omega
  obtain ⟨D1, hD1⟩ : ∃ D1, D1 = up D0 146 1 (G : Int) := ⟨_, rfl⟩
  have L1 : LS0 D1 N te H f := ⟨by rw [hD1, up_nk (by decide)]; exact a1, by rw [hD1, up_nk (by decide)]; exact a2, by rw [hD1, up_nk (by decide)]; exact a3⟩
  have f1 : ∀ x, x ≠ 146 → D1 x = d x := fun x h => by rw [hD1, up_row h, f0 x h]
  obtain ⟨ee, g1, D2, rfl, L2, u2, f2⟩ : ∃ ee, iter (b_X1_listen_17 146 1) FU (J 0, mkH D1) = some ee ∧ ∃ D' : Mem, ee = mkH D' ∧ LSt D' N te H f G ∧ (∀ j : Nat, j < G → D' 150 j = 0) ∧ ∀ x, (x < 146 ∨ 150 < x) → D' x = d x := by
    refine iter_for (fun i st => ∃ D' : Mem, st = (J (i : Int), mkH D') ∧ LS0 D' N te H f ∧ D' 146 1 = G ∧ (∀ j : Nat, j < i → LSa D' N te H f j) ∧ (∀ j : Nat, j < i → D' 150 j = 0) ∧ ∀ x, (x < 146 ∨ 150 < x) → D' x = d x) _ G (by omega) ⟨D1, rfl, L1, by rw [hD1, up_same], fun j hj => by omega, fun j hj => by omega, fun x h => f1 x (by omega)⟩ ?_ ?_
    · rintro i st hi ⟨D2, rfl, L2, n1, A2, u2, f2⟩
      have i12 : i < 12 := by omega
      have gl := gA_le (p := 1) (i := (i : Int)) (by omega) (by omega)
      have Gi := isG_1 (i := (i : Int)) (by omega) (by omega)
      obtain ⟨t1, t2⟩ := tr i
      obtain ⟨l1, l2, l3⟩ := id L2
      have qa : aR (mkH D2) 2 3 (J (i : Int)) = some (gA 1 i) := q_aR (d := D2) (a := 2) (i := i) (t := 3) (b := 6) (m := 2) (len := 12) rfl rfl (by decide) (by decide) (by omega) (by omega)
      obtain ⟨D3, hD3⟩ : ∃ D3, D3 = up D2 147 i ((gA 1 i : Nat) : Int) := ⟨_, rfl⟩
      have s3 : sR (mkH D2) 147 3 0 (J (i : Int)) (gA 1 i) = some (mkH D3) := by
        rw [hD3]
        exact q_sR Gi.1 (by omega) (by omega)
      have L3 : LS0 D3 N te H f := by
        rw [hD3]
        exact ⟨by rw [up_na (by decide)]; exact l1, by rw [up_na (by decide)]; exact l2, by rw [up_na (by decide)]; exact l3⟩
      have te_i : d (gA 1 i) 2 = te i := te_g i hi
      have g3 : LSg D3 te i := ⟨by rw [hD3, up_same], by rw [hD3, up_na (by omega), f2 _ (by omega)]; exact te_i⟩
      have s4 := c_soundAt hN L3 i12 g3 (by omega) t2 (t := f) (by omega)
      obtain ⟨D4, hD4⟩ : ∃ D4, D4 = up D3 148 i (Xs N te i (f % te i)).toInt := ⟨_, rfl⟩
      have L4 : LS0 D4 N te H f := by
        rw [hD4]
        exact ⟨by rw [up_na (by decide)]; exact L3.1, by rw [up_na (by decide)]; exact L3.2.1, by rw [up_na (by decide)]; exact L3.2.2⟩
      have g4 : LSg D4 te i := ⟨by rw [hD4, up_na (by decide)]; exact g3.1, by rw [hD4, up_na (by omega)]; exact g3.2⟩
      have s5 := c_countIn hN L4 i12 g4 (by omega) t2
      obtain ⟨D5, hD5⟩ : ∃ D5, D5 = up D4 149 i (cIS N te H i : Int) := ⟨_, rfl⟩
      obtain ⟨D6, hD6⟩ : ∃ D6, D6 = up D5 150 i 0 := ⟨_, rfl⟩
      have r146 : D6 146 = D2 146 := by rw [hD6, up_row (by decide), hD5, up_row (by decide), hD4, up_row (by decide), hD3, up_row (by decide)]
      have f6 : ∀ x, (x < 146 ∨ 150 < x) → D6 x = d x := fun x hx => by rw [hD6, up_row (by omega), hD5, up_row (by omega), hD4, up_row (by omega), hD3, up_row (by omega), f2 x hx]
      refine ⟨(J ((i : Int) + 1), mkH D6), ?_, D6, rfl, ⟨by rw [r146]; exact l1, by rw [r146]; exact l2, by rw [r146]; exact l3⟩, by rw [r146]; exact n1, fun j hj => ?_, fun j hj => ?_, f6⟩
      · unfold b_X1_listen_17
        refine bind_eq (z146_2 D2) ?_
        rw [n1, if_neg (by rw [J_le (by omega) (by omega) (by omega) (by omega)]; omega)]
        refine bind_eq (z146_1 D2) (bind_eq (z1_1 D2) (bind_eq qa (bind_eq s3 (bind_eq (z146_10 D3) (bind_eq (z146_8 D3) ?_)))))
        rw [L3.2.2]
        refine bind_eq (z146_0 D3) (bind_eq s4 (bind_eq (sL148 D3 _ (by omega) (by omega)) ?_))
        rw [← hD4]
        refine bind_eq (z146_11 D4) (bind_eq (z146_0 D4) (bind_eq s5 (bind_eq (z149_1 D4 _ _ (by omega) (by omega)) ?_)))
        rw [← hD5]
        refine bind_eq (z146_12 D5) (bind_eq (z150_1 D5 _ 0 (by omega) (by omega)) ?_)
        rw [← hD6]
        refine bind_eq rfl ?_
        rw [J_add]
      · by_cases c : j = i
        · subst c
          refine ⟨⟨?_, ?_⟩, ?_, ?_⟩
          · rw [hD6, up_na (by decide), hD5, up_na (by decide), hD4, up_na (by decide)]
            exact g3.1
          · rw [f6 _ (by omega)]
            exact te_i
          · rw [hD6, up_na (by decide), hD5, up_na (by decide), hD4, up_same, K_self]
          · rw [hD6, up_na (by decide), hD5, up_same]
        · obtain ⟨⟨b1, b2⟩, b3, b4⟩ := A2 j (by omega)
          have gl' := gA_le (p := 1) (i := (j : Int)) (by omega) (by omega)
          refine ⟨⟨?_, ?_⟩, ?_, ?_⟩
          · rw [hD6, up_na (by decide), hD5, up_na (by decide), hD4, up_na (by decide), hD3, up_nk (by omega)]
            exact b1
          · rw [f6 _ (by omega)]
            rw [f2 _ (by omega)] at b2
            exact b2
          · rw [hD6, up_na (by decide), hD5, up_na (by decide), hD4, up_nk (by omega), hD3, up_na (by decide)]
            exact b3
          · rw [hD6, up_na (by decide), hD5, up_nk (by omega), hD4, up_na (by decide), hD3, up_na (by decide)]
            exact b4
      · rw [hD6]
        by_cases c : j = i
        · rw [c, up_same]
        · rw [up_nk (by omega), hD5, up_na (by decide), hD4, up_na (by decide), hD3, up_na (by decide)]
          exact u2 j (by omega)
    · rintro st ⟨D2, rfl, L2, n1, A2, u2, f2⟩
      refine ⟨mkH D2, ?_, D2, rfl, ⟨L2, n1, A2⟩, u2, f2⟩
      unfold b_X1_listen_17
      refine bind_eq (z146_2 D2) ?_
      rw [n1, if_pos (by rw [J_le (by omega) (by omega) (by omega) (by omega)]; omega)]
  obtain ⟨b, hb⟩ : ∃ b : Int, b = if H = K 0 then 1 else 0 := ⟨_, rfl⟩
  rw [← hb]
  have jb : (if lg_cmp H (K 0) = 0 then some (J 1) else some (J 0)) = some (J b) := by
    by_cases c : H = K 0
    · rw [if_pos ((lg0 _ _).mpr c), hb, if_pos c]
    · rw [if_neg (fun q => c ((lg0 _ _).mp q)), hb, if_neg c]
  obtain ⟨D3, hD3⟩ : ∃ D3, D3 = up D2 146 8 b := ⟨_, rfl⟩
  have fr3 : ∀ x k, x ≠ 150 → ¬ (x = 146 ∧ k = 8) → D3 x k = D2 x k := fun x k _ h => by
    rw [hD3]
    unfold up
    rw [if_neg h]
  have L3 := LSt_fr (by omega) fr3 L2
  have W3 : WS D3 G b (fun _ => 0) := ⟨by rw [hD3, up_same]; exact (Int.add_zero b).symm, fun j hj => by rw [hD3, up_na (by decide)]; exact u2 j hj⟩
  have f3 : ∀ x, (x < 146 ∨ 150 < x) → D3 x = d x := fun x h => by rw [hD3, up_row (by omega), f2 x h]
  obtain ⟨ee, g4, D4, rfl, L4, W4, f4⟩ : ∃ ee, iter (b_X1_listen_105 146) FU (J 0, mkH D3) = some ee ∧ ∃ D' : Mem, ee = mkH D' ∧ LSt D' N te H f G ∧ WS D' G b (fun k => tsW N te H k G 0) ∧ ∀ x, (x < 146 ∨ 150 < x) → D' x = d x := by
    refine iter_for (fun i st => ∃ (D' : Mem) (w : Nat → Nat), st = (J (i : Int), mkH D') ∧ LSt D' N te H f G ∧ WS D' G b w ∧ (∀ k, w k + tsW N te H k (G - i) i = tsW N te H k G 0) ∧ ∀ x, (x < 146 ∨ 150 < x) → D' x = d x) _ G (by omega) ⟨D3, fun _ => 0, rfl, L3, W3, fun k => by rw [Nat.zero_add]; rfl, f3⟩ ?_ ?_
    · rintro i st hi ⟨D4, w, rfl, L4, W4, s4, f4⟩
      obtain ⟨t1, t2⟩ := tr i
      have q1 := c_singles hN L4.1 hf (by omega) (L4.2.2 i hi) (by omega : 1 ≤ te i)
      obtain ⟨D5, q2, W5, f5⟩ := c_addSets (c := c1S N te H i) (by omega) hi hi W4
      have L5 := LSt_fr (by omega) f5 L4
      have f5' : ∀ x, (x < 146 ∨ 150 < x) → D5 x = d x := fun x hx => by
        rw [← f4 x hx]
        exact funext fun k => f5 x k (by omega) (by omega)
      generalize hw1 : (fun k => w k + c1S N te H i * wtS k i i) = w1 at *
      have s5 : ∀ k, w1 k = w k + c1S N te H i * wtS k i i := fun k => by rw [← hw1]
      obtain ⟨ee, q3, D6, w2, rfl, L6, W6, s6, f6⟩ : ∃ ee, iter (b_X1_listen_134 146 (J (i : Int))) FU (J ((i : Int) + 1), mkH D5) = some ee ∧ ∃ (D' : Mem) (w2 : Nat → Nat), ee = mkH D' ∧ LSt D' N te H f G ∧ WS D' G b w2 ∧ (∀ k, w2 k = w1 k + psW N te H k i (G - (i + 1)) (i + 1)) ∧ ∀ x, (x < 146 ∨ 150 < x) → D' x = d x := by
        refine iter_for (fun y st => ∃ (D' : Mem) (w2 : Nat → Nat), st = (J ((i : Int) + 1 + y), mkH D') ∧ LSt D' N te H f G ∧ WS D' G b w2 ∧ (∀ k, w2 k + psW N te H k i (G - (i + 1) - y) (i + 1 + y) = w1 k + psW N te H k i (G - (i + 1)) (i + 1)) ∧ ∀ x, (x < 146 ∨ 150 < x) → D' x = d x) _ (G - (i + 1)) (by omega) ⟨D5, w1, by rw [csN0, Int.add_zero], L5, W5, fun k => rfl, f5'⟩ ?_ ?_
        · rintro y st hy ⟨D6, w2, rfl, L6, W6, s6, f6⟩
          have hj : i + 1 + y < G := by omega
          obtain ⟨v1, v2⟩ := tr (i + 1 + y)
          have ej : ((i + 1 + y : Nat) : Int) = (i : Int) + 1 + y := by omega
          have r1 := c_pairs hN HH L6.1 hf (g := i) (h := i + 1 + y) (by omega) (by omega) (L6.2.2 i hi) (L6.2.2 (i + 1 + y) hj) (by omega) t2 (by omega) v2
          obtain ⟨D7, r2, W7, f7⟩ := c_addSets (c := c2S N te H i (i + 1 + y)) (by omega) hi hj W6
          rw [ej] at r1 r2
          refine ⟨(J ((i : Int) + 1 + ((y + 1 : Nat) : Int)), mkH D7), ?_, D7, _, rfl, LSt_fr (by omega) f7 L6, W7, fun k => ?_, fun x hx => ?_⟩
          · unfold b_X1_listen_134
            refine bind_eq (z146_2 D6) ?_
            rw [L6.2.1, if_neg (by rw [J_le (by omega) (by omega) (by omega) (by omega)]; omega)]
            refine bind_eq (z146_0 D6) (bind_eq r1 (bind_eq (z146_0 D6) (bind_eq r2 (bind_eq rfl ?_))))
            rw [J_add, Int.add_assoc]
            rfl
          · have q := s6 k
            obtain ⟨z, hz⟩ : ∃ z, G - (i + 1) - y = z + 1 := ⟨G - (i + 1) - y - 1, by omega⟩
            rw [hz] at q
            have q : w2 k + (c2S N te H i (i + 1 + y) * wtS k i (i + 1 + y) + psW N te H k i z (i + 1 + y + 1)) = _ := q
            rw [← q, show G - (i + 1) - (y + 1) = z by omega, show i + 1 + (y + 1) = i + 1 + y + 1 by omega]
            omega
          · rw [← f6 x hx]
            exact funext fun k => f7 x k (by omega) (by omega)
        · rintro st ⟨D6, w2, rfl, L6, W6, s6, f6⟩
          refine ⟨mkH D6, ?_, D6, w2, rfl, L6, W6, fun k => ?_, f6⟩
          · unfold b_X1_listen_134
            refine bind_eq (z146_2 D6) ?_
            rw [L6.2.1, if_pos (by rw [J_le (by omega) (by omega) (by omega) (by omega)]; omega)]
          · have q := s6 k
            rw [show G - (i + 1) - (G - (i + 1)) = 0 by omega] at q
            have q : w2 k + 0 = _ := q
            rw [← q, Nat.add_zero]
      refine ⟨(J ((i : Int) + 1), mkH D6), ?_, D6, w2, rfl, L6, W6, fun k => ?_, f6⟩
      · unfold b_X1_listen_105
        refine bind_eq (z146_2 D4) ?_
        rw [L4.2.1, if_neg (by rw [J_le (by omega) (by omega) (by omega) (by omega)]; omega)]
        refine bind_eq (z146_0 D4) (bind_eq q1 (bind_eq (z146_0 D4) (bind_eq q2 (bind_eq rfl ?_))))
        rw [J_add]
        exact bind_eq q3 (bind_eq rfl rfl)
      · have q := s4 k
        obtain ⟨z, hz⟩ : ∃ z, G - i = z + 1 := ⟨G - i - 1, by omega⟩
        rw [hz] at q
        have q : w k + (c1S N te H i * wtS k i i + psW N te H k i z (i + 1) + tsW N te H k z (i + 1)) = _ := q
        rw [s6 k, s5 k, ← q, show G - (i + 1) = z by omega]
        omega
    · rintro st ⟨D4, w, rfl, L4, W4, s4, f4⟩
      have ew : w = fun k => tsW N te H k G 0 := funext fun k => by
        have q := s4 k
        rw [Nat.sub_self] at q
        have q : w k + 0 = _ := q
        rw [← q, Nat.add_zero]
      refine ⟨mkH D4, ?_, D4, rfl, L4, by rw [← ew]; exact W4, f4⟩
      unfold b_X1_listen_105
      refine bind_eq (z146_2 D4) ?_
      rw [L4.2.1, if_pos (by rw [J_le (by omega) (by omega) (by omega) (by omega)]; omega)]
  refine ⟨D4, ?_, L4.2.1, W4, f4⟩
  unfold f_X1_listen
  refine bind_eq (z146_0 d) (bind_eq q0 (bind_eq (z1_2 D0) ?_))
  rw [f0 1 (by decide), p1, hG]
  refine bind_eq (z146_3 D0 _) ?_
  rw [← hD1]
  refine bind_eq rfl (bind_eq g1 (bind_eq (z146_6 D2) ?_))
  rw [L2.1.2.1]
  refine bind_eq jb (bind_eq (z146_14 D2 _) ?_)
  rw [← hD3]
  exact bind_eq rfl (bind_eq g4 rfl)
theorem c_blamed {D : Mem} {G : Nat} {b : Int} {w : Nat → Nat} (hG : G ≤ 12) (n1 : D 146 1 = G) (W : WS D G b w) (b0 : 0 ≤ b) (b1 : b ≤ 1) (hw : ∀ k, w k < 2000000) : f_X1_blamed (mkH D) 146 = some (mkI (fun i => decide (0 < b + w 0 ∧ (w (i + 1) : Int) = b + w 0)) G) := by
  obtain ⟨w0, w1⟩ := W
  have h0 := hw 0
  unfold f_X1_blamed
  refine bind_eq rfl (bind_eq rfl (bind_eq ?_ rfl))
  refine iter_at (fun i => (mkI (fun i => decide (0 < b + w 0 ∧ (w (i + 1) : Int) = b + w 0)) i, J (i : Int))) G rfl (by omega) (fun i hi => ?_) ?_
  · have hi' := hw (i + 1)
    unfold b_X1_blamed_4
    refine bind_eq (z146_2 D) ?_
    rw [n1, if_neg (by rw [J_le (by omega) (by omega) (by omega) (by omega)]; omega)]
    refine bind_eq (z146_13 D) ?_
    rw [w0]
    refine bind_eq (a := mkI (fun i => decide (0 < b + w 0 ∧ (w (i + 1) : Int) = b + w 0)) (i + 1)) ?_ (bind_eq rfl ?_)
    · show _ = some (if decide (0 < b + w 0 ∧ (w (i + 1) : Int) = b + w 0) = true then mkI (fun i => decide (0 < b + w 0 ∧ (w (i + 1) : Int) = b + w 0)) i ||| (J 1 <<< (J (i : Int) &&& 31)) else mkI (fun i => decide (0 < b + w 0 ∧ (w (i + 1) : Int) = b + w 0)) i)
      by_cases c : 0 < b + (w 0 : Int)
      · rw [if_neg (by rw [J_zero, J_le (by omega) (by omega) (by omega) (by omega)]; omega)]
        refine bind_eq (z146_12 D) (bind_eq (z150_0 D _ (by omega) (by omega)) (bind_eq (z146_13 D) ?_))
        rw [w0, w1 i hi]
        by_cases c2 : (w (i + 1) : Int) = b + w 0
        · rw [if_pos (by rw [c2]), if_pos (decide_eq_true ⟨c, c2⟩)]
          rfl
        · rw [if_neg (by rw [J_eq (by omega) (by omega) (by omega) (by omega)]; exact c2), if_neg (fun h => c2 (of_decide_eq_true h).2)]
      · rw [if_pos (by rw [J_zero, J_le (by omega) (by omega) (by omega) (by omega)]; omega), if_neg (fun h => c (of_decide_eq_true h).1)]
    · rw [J_add]
      rfl
  · unfold b_X1_blamed_4
    refine bind_eq (z146_2 D) ?_
    rw [n1, if_pos (by rw [J_le (by omega) (by omega) (by omega) (by omega)]; omega)]
theorem c_maybe {D : Mem} {G : Nat} {b : Int} {w : Nat → Nat} (hG : G ≤ 12) (n1 : D 146 1 = G) (W : WS D G b w) (hw : ∀ k, w k < 2000000) : f_X1_maybe (mkH D) 146 = some (mkI (fun i => decide (0 < w (i + 1))) G) := by
  obtain ⟨w0, w1⟩ := W
  unfold f_X1_maybe
  refine bind_eq rfl (bind_eq rfl (bind_eq ?_ rfl))
  refine iter_at (fun i => (mkI (fun i => decide (0 < w (i + 1))) i, J (i : Int))) G rfl (by omega) (fun i hi => ?_) ?_
  · have hi' := hw (i + 1)
    unfold b_X1_maybe_4
    refine bind_eq (z146_2 D) ?_
    rw [n1, if_neg (by rw [J_le (by omega) (by omega) (by omega) (by omega)]; omega)]
    refine bind_eq (z146_12 D) (bind_eq (z150_0 D _ (by omega) (by omega)) ?_)
    rw [w1 i hi]
    refine bind_eq (a := mkI (fun i => decide (0 < w (i + 1))) (i + 1)) ?_ (bind_eq rfl ?_)
    · show _ = some (if decide (0 < w (i + 1)) = true then mkI (fun i => decide (0 < w (i + 1))) i ||| (J 1 <<< (J (i : Int) &&& 31)) else mkI (fun i => decide (0 < w (i + 1))) i)
      by_cases c : 0 < w (i + 1)
      · rw [if_neg (by rw [J_zero, J_le (by omega) (by omega) (by omega) (by omega)]; omega), if_pos (decide_eq_true c)]
        rfl
      · rw [if_pos (by rw [J_zero, J_le (by omega) (by omega) (by omega) (by omega)]; omega), if_neg (fun h => c (of_decide_eq_true h))]
    · rw [J_add]
      rfl
  · unfold b_X1_maybe_4
    refine bind_eq (z146_2 D) ?_
    rw [n1, if_pos (by rw [J_le (by omega) (by omega) (by omega) (by omega)]; omega)]
end
