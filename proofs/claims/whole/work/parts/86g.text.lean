/-! text -/
def TX (c : Int → Int) (n : Int) : Nat → Int → Prop
  | 0, p => p = n
  | K + 1, p => p < n ∧ (stS c p zf).2.1 = true ∧ TX c n K (stS c p zf).1
def rnT (c : Int → Int) : Nat → Int → (Int → Int) → Int ⊕ (Int → Int)
  | 0, _, w => .inr w
  | K + 1, p, w => match doS (c p) (stS c p zf).2.2 w with
    | none => .inl p
    | some w' => rnT c K (stS c p zf).1 w'
theorem tx_TX {tx : Int → Int} {n : Int} : ∀ (F : Nat) (p : Int), 0 ≤ p → p ≤ n → (txS (chS tx n) n F p).2.1 = true → TX (chS tx n) n (txS (chS tx n) n F p).2.2 p
  | 0, p, p0, p1, h => Bool.noConfusion (show false = true from h)
  | F + 1, p, p0, p1, h => by
    obtain ⟨g1, g2, g3⟩ := st_rng (tx := tx) (n := n) (p := p) (f := zf) p0 p1
    unfold txS at h ⊢
    by_cases c : (stS (chS tx n) p zf).2.1 = true
    · rw [if_pos c] at h ⊢
      obtain ⟨l1, l2, -⟩ := g3 c
      by_cases c2 : (stS (chS tx n) p zf).1 < n
      · rw [if_pos c2] at h ⊢
        exact ⟨l1, c, tx_TX F _ (by omega) g2 h⟩
      · rw [if_neg c2]
        exact ⟨l1, c, show (stS (chS tx n) p zf).1 = n by omega⟩
    · rw [if_neg c] at h
      exact Bool.noConfusion (show false = true from h)
theorem st_let {c : Int → Int} {p : Int} {f : Int → Int} (h : (stS c p f).2.1 = true) : c p = 103 ∨ c p = 109 ∨ c p = 100 := by
  unfold stS at h
  by_cases k : c p = 103 ∨ c p = 109 ∨ c p = 100
  · exact k
  · rw [if_neg k] at h
    exact Bool.noConfusion (show false = true from h)
theorem do_keep {l : Int} {f w w' : Int → Int} (P : PW w) (h : doS l f w = some w') : ∀ k, (k < 0 ∨ 276 ≤ k ∧ k ≠ 1740 ∧ k ≠ 1741) → w' k = w k := by
  obtain ⟨p1, p2, p3, p4, -⟩ := PW_b P
  intro k hk
  unfold doS at h
  by_cases c : l = 103
  · rw [if_pos c] at h
    by_cases o : okG f w = true
    · rw [if_pos o] at h
      unfold okG at o
      have o := of_decide_eq_true o
      have h := (Option.some.inj h).symm
      rw [h]
      unfold nwG
      rw [if_neg (by omega), if_neg (by omega)]
    · rw [if_neg o] at h
      cases h
  · rw [if_neg c] at h
    by_cases c2 : l = 109
    · rw [if_pos c2] at h
      by_cases o : okM f w = true
      · rw [if_pos o] at h
        have o := (okM_iff.mp o).1.2.2.2.2
        have h := (Option.some.inj h).symm
        rw [h]
        unfold nwM
        rw [if_neg (by omega), if_neg (by omega), if_neg (by omega), if_neg (by omega)]
      · rw [if_neg o] at h
        cases h
    · rw [if_neg c2] at h
      cases hb : btS w (f 0) (f 1) with
      | none =>
        rw [hb] at h
        cases h
      | some m =>
        rw [hb] at h
        have ml := bt_lt hb
        by_cases o : f 2 ≤ 62
        · simp only [if_pos o] at h
          have h := (Option.some.inj h).symm
          rw [h]
          exact if_neg (by omega)
        · simp only [if_neg o] at h
          cases h
theorem PW_do {l : Int} {f w w' : Int → Int} (P : PW w) (hl : l = 103 ∨ l = 109 ∨ l = 100) (hf : ∀ k, 0 ≤ k → k < (wnt l : Int) → 0 ≤ f k ∧ f k ≤ 99) (h : doS l f w = some w') : PW w' := by
  obtain ⟨d, Q, hd⟩ := P
  obtain ⟨e, he⟩ : ∃ e : Mem, e = fun x k => if x = 125 ∧ k = 4 then l else if x = 127 then f k else d x k := ⟨_, rfl⟩
  have e4 : e 125 4 = l := by rw [he]; exact if_pos ⟨rfl, rfl⟩
  have e127 : e 127 = f := by
    rw [he]
    funext k
    show (if (127 : Nat) = 125 ∧ k = 4 then l else if (127 : Nat) = 127 then f k else d 127 k) = f k
    rw [if_neg (by omega), if_pos rfl]
  have ex : ∀ x, x ≠ 125 → x ≠ 127 → e x = d x := fun x h1 h2 => by
    rw [he]
    funext k
    show (if x = 125 ∧ k = 4 then l else if x = 127 then f k else d x k) = d x k
    rw [if_neg (by omega), if_neg h2]
  have Q' : PL e 30 32 33 34 500 := PL_rows (ex _ (by decide) (by decide)) (ex _ (by decide) (by decide)) (ex _ (by decide) (by decide)) (ex _ (by decide) (by decide)) (ex _ (by decide) (by decide)) (fun i i0 i1 => by
    have := gA_le (p := 30) i0 i1
    exact ⟨ex _ (by omega) (by omega), ex _ (by omega) (by omega)⟩) Q
  have k := c_does Q' hl e4 (by rw [e127]; exact hf)
  rw [e127, ex 500 (by decide) (by decide), hd, h] at k
  obtain ⟨d', -, k2, k3, -⟩ := k
  exact ⟨d', k2, k3⟩
theorem ts_id {D : Mem} {p s : Int} (h2 : D 125 2 = p) (h3 : D 125 3 = s) : ts D p s = D := by
  funext a k
  unfold ts
  by_cases c : a = 125 ∧ k = 2
  · rw [if_pos c, c.1, c.2, h2]
  · rw [if_neg c]
    by_cases c2 : a = 125 ∧ k = 3
    · rw [if_pos c2, c2.1, c2.2, h3]
    · rw [if_neg c2]
section
variable {d : Mem} {tx : Int → Int} {n : Int}
theorem PL_same {d d' : Mem} {p pf ps pr r : Nat} (h : ∀ x, x ≠ 125 → x ≠ 127 → d' x = d x) (hp : p + 28 < 125) (h1 : pf < 125) (h2 : ps < 125) (h3 : pr < 125) (hr : 127 < r) (P : PL d p pf ps pr r) : PL d' p pf ps pr r := PL_rows (h _ (by omega) (by omega)) (h _ (by omega) (by omega)) (h _ (by omega) (by omega)) (h _ (by omega) (by omega)) (h _ (by omega) (by omega)) (fun i i0 i1 => by
  have := gA_le (p := p) i0 i1
  exact ⟨h _ (by omega) (by omega), h _ (by omega) (by omega)⟩) P
theorem t_run {b : Nat} (hb : 127 < b ∧ b < 500) : ∀ (K i m : Nat) (E : Mem) (p : Int), TX (chS tx n) n K p → K < m → i + K < 1000 → RT E b tx n → PL E 30 32 33 34 500 → 0 ≤ p → p ≤ n → ∃ E', (∀ x, (x < 30 ∨ 58 < x) → x ≠ 125 → x ≠ 127 → x ≠ 500 → E' x = E x) ∧ match rnT (chS tx n) K p (E 500) with
    | .inr w => iter (b_X11_text_95 0 (J ((i + K : Nat) : Int))) m (J (i : Int), mkH (ts E p 0)) = some (.inl (mkH E')) ∧ PL E' 30 32 33 34 500 ∧ E' 500 = w
    | .inl q => iter (b_X11_text_95 0 (J ((i + K : Nat) : Int))) m (J (i : Int), mkH (ts E p 0)) = some (.inr (mkH E')) ∧ E' 125 5 = q
  | K, i, 0, E, p, T, hm, hi, R, P, p0, p1 => by omega
  | 0, i, m + 1, E, p, T, hm, hi, R, P, p0, p1 => by
    have fr : ∀ x, x ≠ 125 → ts E p 0 x = E x := fun x h => funext fun k => ts_na h
    refine ⟨ts E p 0, fun x _ h _ _ => fr x h, iter_E ?_, PL_same (fun x h1 _ => fr x h1) (by decide) (by decide) (by decide) (by decide) (by decide) P, fr 500 (by decide)⟩
    unfold b_X11_text_95
    rw [if_pos (by rw [J_le (by omega) (by omega) (by omega) (by omega)]; omega)]
  | K + 1, i, m + 1, E, p, T, hm, hi, R, P, p0, p1 => by
    obtain ⟨T1, T2, T3⟩ := T
    obtain ⟨E1, s1, s5, s4, sv, sf⟩ := t_stmt R p0 p1
    obtain ⟨i1, i2, i3⟩ := st_ind (c := chS tx n) (p := p) (E 127) zf
    obtain ⟨g1, g2, g3⟩ := st_rng (tx := tx) (n := n) (p := p) (f := E 127) p0 p1
    have okE : (stS (chS tx n) p (E 127)).2.1 = true := i2.trans T2
    obtain ⟨l1, l2, l3⟩ := g3 okE
    have sv := sv okE
    rw [if_pos okE] at s1
    have hl := st_let T2
    obtain ⟨D, hD⟩ : ∃ D, D = ts E1 (stS (chS tx n) p (E 127)).1 0 := ⟨_, rfl⟩
    rw [← hD] at s1
    have Dx : ∀ x, x ≠ 125 → D x = E1 x := fun x h => by rw [hD]; exact funext fun k => ts_na h
    have DE : ∀ x, x ≠ 125 → x ≠ 127 → D x = E x := fun x h1 h2 => by rw [Dx x h1]; exact funext fun k => sf x k h2 (fun e => h1 e.1)
    have D2 : D 125 2 = (stS (chS tx n) p (E 127)).1 := by rw [hD]; exact ts_at _ _ _
    have D3 : D 125 3 = 0 := by rw [hD]; exact ts_st _ _ _
    have D4 : D 125 4 = chS tx n p := by rw [hD, ts_nk (by decide) (by decide)]; exact s4
    have D5 : D 125 5 = p := by rw [hD, ts_nk (by decide) (by decide)]; exact s5
    have D127 : D 127 = (stS (chS tx n) p (E 127)).2.2 := by rw [Dx 127 (by decide), sv]
    have PD : PL D 30 32 33 34 500 := PL_same DE (by decide) (by decide) (by decide) (by decide) (by decide) P
    have k := c_does PD hl D4 (by rw [D127]; exact l3)
    have ed : doS (chS tx n p) (D 127) (D 500) = doS (chS tx n p) (stS (chS tx n) p zf).2.2 (E 500) := by
      rw [D127, DE 500 (by decide) (by decide)]
      exact do_ind (fun k k0 k1 => i3 okE k k0 k1)
    rw [ed] at k
    have RD : RT D b tx n := by
      have h0 : ∀ x k, x ≠ 127 → ¬ (x = 125 ∧ (k = 2 ∨ k = 3 ∨ k = 4 ∨ k = 5)) → D x k = E x k := fun x k h1 h2 => by
        rw [hD]
        unfold ts
        rw [if_neg (by omega), if_neg (by omega)]
        exact sf x k h1 (by omega)
      obtain ⟨r0, r1, r2, r3, r4, r5⟩ := R
      exact ⟨by rw [h0 _ _ (by decide) (by omega)]; exact r0, by rw [h0 _ _ (by decide) (by omega)]; exact r1, r2, r3, r4, fun k h1 h2 => by rw [h0 b k (by omega) (by omega)]; exact r5 k h1 h2⟩
    have nlt : ¬ (J ((i + (K + 1) : Nat) : Int) ≤ J (i : Int)) := by
      rw [J_le (by omega) (by omega) (by omega) (by omega)]
      omega
    unfold rnT
    cases hdo : doS (chS tx n p) (stS (chS tx n) p zf).2.2 (E 500) with
    | none =>
      rw [hdo] at k
      refine ⟨D, fun x _ h1 h2 _ => DE x h1 h2, iter_E ?_, D5⟩
      unfold b_X11_text_95
      rw [if_neg nlt]
      refine bind_eq (z0_11 _) (bind_eq (z125_0 _) (bind_eq s1 (bind_eq (z0_2 _) (bind_eq (z0_11 _) (bind_eq (z30_0 _) (bind_eq k ?_))))))
      rw [if_pos (by rfl)]
    | some w =>
      rw [hdo] at k
      obtain ⟨D', k1, k2, k3, k4⟩ := k
      have e125 : D' 125 = D 125 := k4 125 (by omega) (by decide)
      have RD' : RT D' b tx n := by
        obtain ⟨r0, r1, r2, r3, r4, r5⟩ := RD
        exact ⟨by rw [e125]; exact r0, by rw [e125]; exact r1, r2, r3, r4, fun k h1 h2 => by rw [k4 b (by omega) (by omega)]; exact r5 k h1 h2⟩
      have T3' : TX (chS tx n) n K (stS (chS tx n) p (E 127)).1 := by rw [i1]; exact T3
      obtain ⟨E', q1, q2⟩ := t_run hb K (i + 1) m D' (stS (chS tx n) p (E 127)).1 T3' (by omega) (by omega) RD' k2 (by omega) g2
      rw [ts_id (by rw [e125]; exact D2) (by rw [e125]; exact D3), k3, show i + 1 + K = i + (K + 1) by omega] at q2
      have st : b_X11_text_95 0 (J ((i + (K + 1) : Nat) : Int)) (J (i : Int), mkH (ts E p 0)) = some (.inl (J ((i + 1 : Nat) : Int), mkH D')) := by
        unfold b_X11_text_95
        rw [if_neg nlt]
        refine bind_eq (z0_11 _) (bind_eq (z125_0 _) (bind_eq s1 (bind_eq (z0_2 _) (bind_eq (z0_11 _) (bind_eq (z30_0 _) (bind_eq k1 ?_))))))
        rw [if_neg (by first | exact n1J | decide)]
        refine bind_eq rfl ?_
        rw [J_add]
        rfl
      rw [iter_S st, ← i1]
      exact ⟨E', fun x h1 h2 h3 h4 => by rw [q1 x h1 h2 h3 h4, k4 x h1 h4, DE x h2 h3], q2⟩
theorem m_run {o s : Int} : ∀ (K j m : Nat) (D : Mem) (p : Int), TX (chS tx n) n K p → K < m → MD D 191 o tx n → PW (D 185) → 0 ≤ p → p ≤ n → ∃ D', (∀ x k, x ≠ 185 → x ≠ 194 → ¬ (x = 183 ∧ k ≠ 10) → D' x k = D x k) ∧ (∀ k, (k < 0 ∨ 276 ≤ k ∧ k ≠ 1740 ∧ k ≠ 1741) → D' 185 k = D 185 k) ∧ match rnT (chS tx n) K p (D 185) with
    | .inr w => iter (b_X12_text_79 183) m (J (j : Int), mkH (ms D p s)) = some (.inl (J ((j + K : Nat) : Int), mkH D')) ∧ D' 185 = w
    | .inl q => iter (b_X12_text_79 183) m (J (j : Int), mkH (ms D p s)) = some (.inr (J q, mkH D'))
  | K, j, 0, D, p, T, hm, M, P, p0, p1 => by omega
  | 0, j, m + 1, D, p, T, hm, M, P, p0, p1 => by
    have hn := M.2.2.2.2.1
    have fr : ∀ x, x ≠ 183 → ms D p s x = D x := fun x h => funext fun k => ms_na h
    refine ⟨ms D p s, fun x k _ _ h => ms_nn (by omega), fun k _ => congrFun (fr 185 (by decide)) k, iter_E ?_, fr 185 (by decide)⟩
    have T : p = n := T
    unfold b_X12_text_79
    refine bind_eq (g12 _ _ _) (bind_eq (z183_19 _) ?_)
    rw [ms_nk (by decide) (by decide), M.2.2.1, if_pos (by rw [J_le (by omega) (by omega) (by omega) (by omega)]; omega)]
    rfl
  | K + 1, j, m + 1, D, p, T, hm, M, P, p0, p1 => by
    have hn := M.2.2.2.2.1
    obtain ⟨T1, T2, T3⟩ := T
    obtain ⟨E1, s1, sv, sf⟩ := m_stmt (s := s) M p0 p1
    obtain ⟨i1, i2, i3⟩ := st_ind (c := chS tx n) (p := p) (D 194) zf
    obtain ⟨g1, g2, g3⟩ := st_rng (tx := tx) (n := n) (p := p) (f := D 194) p0 p1
    have okE : (stS (chS tx n) p (D 194)).2.1 = true := i2.trans T2
    obtain ⟨l1, l2, l3⟩ := g3 okE
    have sv := sv okE
    rw [B_t okE] at s1
    have hl := st_let T2
    have sg := m_sign M (s := s) p0 p1
    have hlt := ch_lt (tx := tx) (n := n) (p := p) (by omega)
    have es : sgn tx n p = chS tx n p := by
      unfold sgn chS
      rw [if_pos hlt.2, if_pos hlt]
    rw [es] at sg
    obtain ⟨G, hG⟩ : ∃ G, G = ms E1 (stS (chS tx n) p (D 194)).1 s := ⟨_, rfl⟩
    rw [← hG] at s1
    have Gx : ∀ x, x ≠ 183 → G x = E1 x := fun x h => by rw [hG]; exact funext fun k => ms_na h
    have GD : ∀ x k, x ≠ 194 → ¬ (x = 183 ∧ (k = 12 ∨ k = 15 ∨ k = 25)) → G x k = D x k := fun x k h1 h2 => by
      rw [hG, ms_nn (by omega)]
      exact sf x k h1 (by omega)
    have G185 : G 185 = D 185 := funext fun k => GD 185 k (by decide) (by omega)
    have G194 : G 194 = (stS (chS tx n) p (D 194)).2.2 := by rw [Gx 194 (by decide), sv]
    have k := m_does (d := G) (by rw [G185]; exact P) hl (by rw [G194]; exact l3)
    have ed : doS (chS tx n p) (G 194) (G 185) = doS (chS tx n p) (stS (chS tx n) p zf).2.2 (D 185) := by
      rw [G194, G185]
      exact do_ind (fun k k0 k1 => i3 okE k k0 k1)
    rw [ed] at k
    have jc : ∀ x : Int, 0 ≤ x → x ≤ 127 → ((J (chS tx n p) = J x) ↔ chS tx n p = x) := fun x x0 x1 => by
      have := M.ch p
      exact J_eq (by omega) (by omega) (by omega) (by omega)
    have sel : ∀ {v : Int32 × Hp}, mkS (chS tx n p) (mkH G) = some v → (if (J (chS tx n p)) = (J 103) then
      (isO (mkH G) 183 11).bind fun _ =>
      (f_X12_makesGear (mkH G) 183).bind fun r15 =>
      some (r15.1, r15.2)
    else
      (if (J (chS tx n p)) = (J 109) then
        (isO (mkH G) 183 11).bind fun _ =>
        (f_X12_makesMesh (mkH G) 183).bind fun r12 =>
        some (r12.1, r12.2)
      else
        (isO (mkH G) 183 11).bind fun _ =>
        (f_X12_makesRoom (mkH G) 183).bind fun r10 =>
        some (r10.1, r10.2))) = some v := by
      intro v hv
      unfold mkS at hv
      by_cases c1 : chS tx n p = 103
      · rw [if_pos c1] at hv
        rw [if_pos ((jc 103 (by decide) (by decide)).mpr c1)]
        exact bind_eq (isO183 _) (bind_eq hv rfl)
      · rw [if_neg c1] at hv
        rw [if_neg (fun h => c1 ((jc 103 (by decide) (by decide)).mp h))]
        by_cases c2 : chS tx n p = 109
        · rw [if_pos c2] at hv
          rw [if_pos ((jc 109 (by decide) (by decide)).mpr c2)]
          exact bind_eq (isO183 _) (bind_eq hv rfl)
        · rw [if_neg c2] at hv
          rw [if_neg (fun h => c2 ((jc 109 (by decide) (by decide)).mp h))]
          exact bind_eq (isO183 _) (bind_eq hv rfl)
    have x14 : gI (mkH (ms D p s)) 183 11 14 = some (J n) := by
      rw [z183_19, ms_nk (by decide) (by decide), M.2.2.1]
    have nle : ¬ (J n ≤ J p) := by
      rw [J_le (by omega) (by omega) (by omega) (by omega)]
      omega
    unfold rnT
    cases hdo : doS (chS tx n p) (stS (chS tx n) p zf).2.2 (D 185) with
    | none =>
      rw [hdo] at k
      refine ⟨G, fun x k h1 h2 h3 => GD x k h2 (by omega), fun k _ => congrFun G185 k, iter_E ?_⟩
      unfold b_X12_text_79
      refine bind_eq (g12 _ _ _) (bind_eq x14 ?_)
      rw [if_neg nle]
      refine bind_eq (g12 _ _ _) (bind_eq (isO183 _) (bind_eq sg (bind_eq (isO183 _) (bind_eq s1 (bind_eq (sel k) (bind_eq rfl ?_))))))
      rw [if_pos (by rfl)]
    | some w =>
      rw [hdo] at k
      obtain ⟨D', k1, k2, k4⟩ := k
      have PW' : PW w := PW_do P hl (fun k k0 k1 => by rw [← i3 okE k k0 k1]; exact l3 k k0 k1) hdo
      have kp := do_keep P hdo
      have D183 : D' 183 = G 183 := k4 183 (by decide)
      have MD' : MD D' 191 o tx n := by
        obtain ⟨r0, r1, r2, r3, r4, r5, r6, r7⟩ := M
        exact ⟨by rw [D183, GD _ _ (by decide) (by omega)]; exact r0, by rw [D183, GD _ _ (by decide) (by omega)]; exact r1, by rw [D183, GD _ _ (by decide) (by omega)]; exact r2, r3, r4, r5, r6, fun k h0 h1 => by rw [k4 191 (by decide), GD _ _ (by decide) (by omega)]; exact r7 k h0 h1⟩
      have T3' : TX (chS tx n) n K (stS (chS tx n) p (D 194)).1 := by rw [i1]; exact T3
      obtain ⟨E', q1, q3, q2⟩ := m_run (o := o) (s := s) K (j + 1) m D' (stS (chS tx n) p (D 194)).1 T3' (by omega) MD' (by rw [k2]; exact PW') (by omega) g2
      have hid : ms D' (stS (chS tx n) p (D 194)).1 s = D' := by
        funext a k
        unfold ms
        by_cases c : a = 183 ∧ k = 12
        · rw [if_pos c, c.1, c.2, D183, hG, ms_at]
        · rw [if_neg c]
          by_cases c2 : a = 183 ∧ k = 25
          · rw [if_pos c2, c2.1, c2.2, D183, hG, ms_st]
          · rw [if_neg c2]
      rw [hid, k2, show j + 1 + K = j + (K + 1) by omega] at q2
      have st : b_X12_text_79 183 (J (j : Int), mkH (ms D p s)) = some (.inl (J ((j + 1 : Nat) : Int), mkH D')) := by
        unfold b_X12_text_79
        refine bind_eq (g12 _ _ _) (bind_eq x14 ?_)
        rw [if_neg nle]
        refine bind_eq (g12 _ _ _) (bind_eq (isO183 _) (bind_eq sg (bind_eq (isO183 _) (bind_eq s1 (bind_eq (sel k1) (bind_eq rfl ?_))))))
        rw [if_neg (by first | exact n1J | decide), J_add]
        rfl
      rw [iter_S st, ← i1]
      refine ⟨E', fun x k h1 h2 h3 => by rw [q1 x k h1 h2 h3, k4 x h1, GD x k h2 (by omega)], fun k hk => by rw [q3 k hk, k2, kp k hk], q2⟩
theorem rn_keep : ∀ (K : Nat) (p : Int) (w : Int → Int), PW w → 0 ≤ p → p ≤ n → TX (chS tx n) n K p → ∀ w', rnT (chS tx n) K p w = .inr w' → ∀ k, (k < 0 ∨ 276 ≤ k ∧ k ≠ 1740 ∧ k ≠ 1741) → w' k = w k
  | 0, p, w, P, p0, p1, T, w', h, k, hk => by
    have h : (Sum.inr w : Int ⊕ (Int → Int)) = .inr w' := h
    cases h
    rfl
  | K + 1, p, w, P, p0, p1, T, w', h, k, hk => by
    obtain ⟨T1, T2, T3⟩ := T
    obtain ⟨g1, g2, g3⟩ := st_rng (tx := tx) (n := n) (p := p) (f := zf) p0 p1
    obtain ⟨l1, l2, l3⟩ := g3 T2
    unfold rnT at h
    cases hdo : doS (chS tx n p) (stS (chS tx n) p zf).2.2 w with
    | none =>
      rw [hdo] at h
      cases h
    | some w2 =>
      rw [hdo] at h
      rw [rn_keep K _ w2 (PW_do P (st_let T2) l3 hdo) (by omega) g2 T3 w' h k hk, do_keep P hdo k hk]
end
