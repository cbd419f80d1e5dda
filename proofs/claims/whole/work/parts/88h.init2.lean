/-! THE START: the plants, the class, the reference -/
theorem d0_G (G : Hp) (n : Nat) (o : Option Ob) (h : G n = o) : va_up G n o = G := by
  funext x
  by_cases c : x = n
  · rw [c, va_up_self, h]
  · exact va_up_ne _ _ c
/-- the gears' array with i of its gears -/
def oG (b m len i : Nat) (t : Nat) : Ob := (t, .inr (len, .inr (.inr (.inr (.inr fun k => if k < i then some (b + m * k) else none)))))
theorem oG_up (b m i : Nat) : va_up (fun k => if k < i then some (b + m * k) else none) ((i : Int)).toNat (some (b + m * i)) = fun k => if k < i + 1 then some (b + m * k) else none := by
  funext k
  have e : ((i : Int)).toNat = i := by omega
  rw [e]
  by_cases c : k = i
  · rw [c, va_up_self, if_pos (by omega)]
  · rw [va_up_ne _ _ c]
    by_cases c2 : k < i
    · rw [if_pos c2, if_pos (by omega)]
    · rw [if_neg c2, if_neg (by omega)]
theorem oG_0 (b m len t : Nat) : oG b m len 0 t = (t, .inr (len, .inr (.inr (.inr (.inr fun _ => none))))) := by
  unfold oG
  rw [show (fun k => if k < 0 then some (b + m * k) else none) = fun _ => none from funext fun k => if_neg (by omega)]
/-- a round of a loop that makes objects into the array at r -/
theorem hx_rnd {h H H1 : Hp} {a r b m len t c i M : Nat} {ci : Nat} {fs ws : List Value} (hm : 0 < m) (har : a < r) (hrb : r < b) (hi : i < len) (hl : len ≤ 1000) (q : Hx (va_up (mkH d0) r (some (oG b m len i t))) h a (b + m * i) ci fs H) (w : Nw H H1 (b + m * i) M) (hM : M = b + m * i + m) (e0 : mkH d0 (b + m * i) = some (c, .inl ws)) : ∃ H2, sR H1 r t c (J (i : Int)) (b + m * i) = some H2 ∧ Hx (va_up (mkH d0) r (some (oG b m len (i + 1) t))) h a M ci fs H2 := by
  have q' := hx_sub q (by omega) w (fun x h1 h2 => va_up_ne _ _ (by have := Nat.zero_le (m * i); omega))
  have b0 := Nat.zero_le (m * i)
  obtain ⟨q1, q2, q3, q4⟩ := q'
  have er : H1 r = some (oG b m len i t) := by rw [q3 r har (by omega), va_up_self]
  have ew : H1 (b + m * i) = some (c, .inl ws) := by rw [w.1 _ (Nat.le_refl _) (by omega), e0]
  refine ⟨_, sR_at (by omega) (by omega) (by omega) er ew, q1, ?_, fun x h1 h2 => ?_, fun x hx => ?_⟩
  · rw [va_up_ne _ _ (by omega)]
    exact q2
  · by_cases e : x = r
    · rw [e, va_up_self, va_up_self, oG_up]
      rfl
    · rw [va_up_ne _ _ e, va_up_ne _ _ e, q3 x h1 h2, va_up_ne _ _ e]
  · rw [va_up_ne _ _ (by omega)]
    exact q4 x hx
theorem n_X3 {h : Hp} {a : Nat} (e0 : mkH d0 a = some (3, .inl [.ref (a + 1), .int 0, .ref (a + 2), .ref (a + 3), .ref (a + 4), .int 0])) (e1 : mkH d0 (a + 1) = some (oG (a + 5) 2 12 12 3)) (e2 : mkH d0 (a + 2) = some (0, .inr (16, .inl fun _ => 0))) (e3 : mkH d0 (a + 3) = some (0, .inr (16, .inl fun _ => 0))) (e4 : mkH d0 (a + 4) = some (0, .inr (16, .inl fun _ => 0))) (eg : ∀ i : Nat, i < 12 → mkH d0 (a + 5 + 2 * i) = some (0, .inl [.int 0, .int 0, .int (J 4), .int 0, .ref (a + 5 + 2 * i + 1)]) ∧ mkH d0 (a + 5 + 2 * i + 1) = some (0, .inr (16, .inl fun _ => 0))) : ∃ H, f_X3_init (a + 1 + 28) (a + 1) (va_up h a (some (3, .inl [.null, .int 0, .null, .null, .null, .int 0]))) a = some H ∧ Nw h H a (a + 29) := by
  have q := hx_new (G := va_up (mkH d0) (a + 1) (some (oG (a + 5) 2 12 0 3))) (h := h) (a := a) (ci := 3) (fs := [.null, .int 0, .null, .null, .null, .int 0])
  obtain ⟨h1, k1, q⟩ := hx_arr (j := 0) (v := .ref (a + 1)) (o := (3, .inr (12, .inr (.inr (.inr (.inr fun _ => none)))))) q (by rw [va_up_self, oG_0]) (Nat.le_of_ble_eq_true rfl)
  obtain ⟨h2, k2, q⟩ := hx_arr (j := 2) (v := .ref (a + 2)) q ((va_up_ne _ _ (by omega)).trans e2) (Nat.le_of_ble_eq_true rfl)
  obtain ⟨h3, k3, q⟩ := hx_arr (j := 3) (v := .ref (a + 3)) q ((va_up_ne _ _ (by omega)).trans e3) (Nat.le_of_ble_eq_true rfl)
  obtain ⟨h4, k4, q⟩ := hx_arr (j := 4) (v := .ref (a + 4)) q ((va_up_ne _ _ (by omega)).trans e4) (Nat.le_of_ble_eq_true rfl)
  have L : ∃ e, iter (b_X3_init_39 (a + 1 + 28) a) FU (J 0, a + 1 + 1 + 1 + 1 + 1, h4) = some e ∧ (fun (e : Nat × Hp) => e.1 = a + 29 ∧ Nw h e.2 a (a + 29)) e := by
    refine iter_for (fun (i : Nat) (s : Int32 × Nat × Hp) => s.1 = J (i : Int) ∧ s.2.1 = a + 5 + 2 * i ∧ Hx (va_up (mkH d0) (a + 1) (some (oG (a + 5) 2 12 i 3))) h a (a + 5 + 2 * i) 3 [.ref (a + 1), .int 0, .ref (a + 2), .ref (a + 3), .ref (a + 4), .int 0] s.2.2) (fun (e : Nat × Hp) => e.1 = a + 29 ∧ Nw h e.2 a (a + 29)) 12 (by decide) ⟨rfl, rfl, q⟩ (fun i s hi hs => ?_) (fun s hs => ?_)
    · obtain ⟨s1, s2, s3⟩ := s
      obtain ⟨c1, c2, q⟩ := hs
      dsimp only at c1 c2 q
      subst c1 c2
      obtain ⟨g0, g1⟩ := eg i hi
      obtain ⟨H1, k1, w⟩ := n_X0 (h := s3) g0 g1
      obtain ⟨H2, k2, q2⟩ := hx_rnd (by decide) (by omega) (by omega) hi (by decide) q w rfl g0
      refine ⟨(J ((i + 1 : Nat) : Int), a + 5 + 2 * i + 1 + 1, H2), ?_, rfl, by dsimp only; omega, ?_⟩
      · unfold b_X3_init_39
        dsimp only
        rw [if_neg (by rw [J_le (by decide) (by decide) (by omega) (by omega)]; omega)]
        refine bind_eq (gR_at q.2.1 rfl) (bind_eq (cap_ok (by omega)) (bind_eq (cap_ok (by omega)) (bind_eq k1 (bind_eq k2 (bind_eq rfl ?_)))))
        rw [J_add]
        rfl
      · exact q2
    · obtain ⟨s1, s2, s3⟩ := s
      obtain ⟨c1, c2, q⟩ := hs
      dsimp only at c1 c2 q
      subst c1 c2
      refine ⟨(a + 5 + 2 * 12, s3), ?_, rfl, ?_⟩
      · unfold b_X3_init_39
        dsimp only
        rw [if_pos (by rw [J_le (by decide) (by decide) (by omega) (by omega)]; omega)]
      · rw [d0_G _ _ _ e1] at q
        exact hx_end q e0
  obtain ⟨e, ke, E1, E2⟩ := L
  refine ⟨e.2, ?_, E2⟩
  unfold f_X3_init
  exact bind_eq (cap_ok (by omega)) (bind_eq k1 (bind_eq (cap_ok (by omega)) (bind_eq k2 (bind_eq (cap_ok (by omega)) (bind_eq k3 (bind_eq (cap_ok (by omega)) (bind_eq k4 (bind_eq rfl (bind_eq ke (bind_eq (eqn_ok E1) rfl))))))))))
theorem n_gears (a : Nat) (ha : a = 1 ∨ a = 30 ∨ a = 77) : ∀ i : Nat, i < 12 → mkH d0 (a + 5 + 2 * i) = some (0, .inl [.int 0, .int 0, .int (J 4), .int 0, .ref (a + 5 + 2 * i + 1)]) ∧ mkH d0 (a + 5 + 2 * i + 1) = some (0, .inr (16, .inl fun _ => 0)) := by
  intro i hi
  rcases ha with rfl | rfl | rfl
  all_goals
    match i, hi with
    | 0, _ | 1, _ | 2, _ | 3, _ | 4, _ | 5, _ | 6, _ | 7, _ | 8, _ | 9, _ | 10, _ | 11, _ => exact ⟨rfl, rfl⟩
    | k + 12, h => omega
theorem n_oG (r b m len t : Nat) (e : mkH d0 r = some (t, .inr (len, .inr (.inr (.inr (.inr fun k => if k < len then some (b + m * k) else none)))))) : mkH d0 r = some (oG b m len len t) := e
theorem n_1 {h : Hp} : ∃ H, f_X3_init 30 2 (va_up h 1 (some (3, .inl [.null, .int 0, .null, .null, .null, .int 0]))) 1 = some H ∧ Nw h H 1 30 := n_X3 (a := 1) rfl (n_oG 2 6 2 12 3 rfl) rfl rfl rfl (n_gears 1 (by decide))
theorem n_30 {h : Hp} : ∃ H, f_X3_init 59 31 (va_up h 30 (some (3, .inl [.null, .int 0, .null, .null, .null, .int 0]))) 30 = some H ∧ Nw h H 30 59 := n_X3 (a := 30) rfl (n_oG 31 35 2 12 3 rfl) rfl rfl rfl (n_gears 30 (by decide))
theorem n_77 {h : Hp} : ∃ H, f_X3_init 106 78 (va_up h 77 (some (3, .inl [.null, .int 0, .null, .null, .null, .int 0]))) 77 = some H ∧ Nw h H 77 106 := n_X3 (a := 77) rfl (n_oG 78 82 2 12 3 rfl) rfl rfl rfl (n_gears 77 (by decide))
theorem n_59 {h : Hp} : ∃ H, f_X2_init 62 60 (va_up h 59 (some (2, .inl [.null, .null, .int 0]))) 59 = some H ∧ Nw h H 59 62 := n_X2 (a := 59) rfl rfl rfl
theorem n_106 {h : Hp} : ∃ H, f_X2_init 109 107 (va_up h 106 (some (2, .inl [.null, .null, .int 0]))) 106 = some H ∧ Nw h H 106 109 := n_X2 (a := 106) rfl rfl rfl
theorem n_rows (a : Nat) (ha : a = 62 ∨ a = 109) : ∀ x, a + 1 < x → x < a + 1 + 1 + 12 → mkH d0 x = some (0, .inr (120, .inl fun _ => 0)) := by
  intro x h1 h2
  obtain ⟨i, rfl⟩ : ∃ i, x = a + 2 + i := ⟨x - (a + 2), by omega⟩
  rcases ha with rfl | rfl
  all_goals
    match i, h2 with
    | 0, _ | 1, _ | 2, _ | 3, _ | 4, _ | 5, _ | 6, _ | 7, _ | 8, _ | 9, _ | 10, _ | 11, _ => rfl
    | k + 12, h => omega
theorem n_tx (b : Nat) : (fun k => if k < 12 then some (b + 1 * k) else none) = fun k => if k < 12 then some (b + k) else none := by
  funext k
  rw [Nat.one_mul]
theorem n_62 {h : Hp} : ∃ H, f_X6_init 77 63 (va_up h 62 (some (5, .inl [.null, .null, .int 0]))) 62 = some H ∧ Nw h H 62 77 := n_X6 (a := 62) rfl (by rw [show mkH d0 (62 + 1) = some (5, .inr (12, .inr (.inr (.inr (.inr fun k => if k < 12 then some (64 + 1 * k) else none))))) from rfl, n_tx]) (n_rows 62 (by decide)) rfl
theorem n_109 {h : Hp} : ∃ H, f_X6_init 124 110 (va_up h 109 (some (5, .inl [.null, .null, .int 0]))) 109 = some H ∧ Nw h H 109 124 := n_X6 (a := 109) rfl (by rw [show mkH d0 (109 + 1) = some (5, .inr (12, .inr (.inr (.inr (.inr fun k => if k < 12 then some (111 + 1 * k) else none))))) from rfl, n_tx]) (n_rows 109 (by decide)) rfl
theorem n_136 {h : Hp} : ∃ H, f_X0_init 138 137 (va_up h 136 (some (0, .inl [.int 0, .int 0, .int 0, .int 0, .null]))) 136 = some H ∧ Nw h H 136 138 := n_X0 (a := 136) rfl rfl
theorem n_138 {h : Hp} : ∃ H, f_X0_init 140 139 (va_up h 138 (some (0, .inl [.int 0, .int 0, .int 0, .int 0, .null]))) 138 = some H ∧ Nw h H 138 140 := n_X0 (a := 138) rfl rfl
theorem n_shelves : ∀ i : Nat, i < 8 → mkH d0 (151 + 4 * i) = some (7, .inl [.int 0, .ref (151 + 4 * i + 1), .int 0, .int 0, .ref (151 + 4 * i + 3)]) ∧ mkH d0 (151 + 4 * i + 1) = some (0, .inl [.int 0, .int 0, .int (J 4), .int 0, .ref (151 + 4 * i + 2)]) ∧ mkH d0 (151 + 4 * i + 2) = some (0, .inr (16, .inl fun _ => 0)) ∧ mkH d0 (151 + 4 * i + 3) = some (0, .inr (120, .inl fun _ => 0)) := by
  intro i hi
  match i, hi with
  | 0, _ | 1, _ | 2, _ | 3, _ | 4, _ | 5, _ | 6, _ | 7, _ => exact ⟨rfl, rfl, rfl, rfl⟩
  | k + 8, h => omega
theorem n_X11 {h : Hp} : ∃ H, f_X11_init 183 1 (va_up h 0 (some (10, .inl [.null, .null, .null, .null, .null, .null, .null, .int 0, .null, .null, .null, .null, .null, .null, .null, .null]))) 0 = some H ∧ Nw h H 0 183 := by
  have q := hx_new (G := va_up (mkH d0) 124 (some (oG 151 4 8 0 4))) (h := h) (a := 0) (ci := 10) (fs := [.null, .null, .null, .null, .null, .null, .null, .int 0, .null, .null, .null, .null, .null, .null, .null, .null])
  obtain ⟨r0, t0, w⟩ := n_1 (h := (va_up h 0 (some (10, .inl [.null, .null, .null, .null, .null, .null, .null, .int 0, .null, .null, .null, .null, .null, .null, .null, .null]))))
  have q := hx_sub (m := 1) (m' := 30) q (by decide) w (fun x h1 h2 => va_up_ne _ _ (by omega))
  obtain ⟨p0, k0, q⟩ := hx_pF (j := 0) (v := .ref 1) q (Nat.le_of_ble_eq_true rfl)
  obtain ⟨r1, t1, w⟩ := n_30 (h := p0)
  have q := hx_sub (m := 30) (m' := 59) q (by decide) w (fun x h1 h2 => va_up_ne _ _ (by omega))
  obtain ⟨p1, k1, q⟩ := hx_pF (j := 1) (v := .ref 30) q (Nat.le_of_ble_eq_true rfl)
  obtain ⟨r2, t2, w⟩ := n_59 (h := p1)
  have q := hx_sub (m := 59) (m' := 62) q (by decide) w (fun x h1 h2 => va_up_ne _ _ (by omega))
  obtain ⟨p2, k2, q⟩ := hx_pF (j := 2) (v := .ref 59) q (Nat.le_of_ble_eq_true rfl)
  obtain ⟨r3, t3, w⟩ := n_62 (h := p2)
  have q := hx_sub (m := 62) (m' := 77) q (by decide) w (fun x h1 h2 => va_up_ne _ _ (by omega))
  obtain ⟨p3, k3, q⟩ := hx_pF (j := 3) (v := .ref 62) q (Nat.le_of_ble_eq_true rfl)
  obtain ⟨r4, t4, w⟩ := n_77 (h := p3)
  have q := hx_sub (m := 77) (m' := 106) q (by decide) w (fun x h1 h2 => va_up_ne _ _ (by omega))
  obtain ⟨p4, k4, q⟩ := hx_pF (j := 4) (v := .ref 77) q (Nat.le_of_ble_eq_true rfl)
  obtain ⟨r5, t5, w⟩ := n_106 (h := p4)
  have q := hx_sub (m := 106) (m' := 109) q (by decide) w (fun x h1 h2 => va_up_ne _ _ (by omega))
  obtain ⟨p5, k5, q⟩ := hx_pF (j := 5) (v := .ref 106) q (Nat.le_of_ble_eq_true rfl)
  obtain ⟨r6, t6, w⟩ := n_109 (h := p5)
  have q := hx_sub (m := 109) (m' := 124) q (by decide) w (fun x h1 h2 => va_up_ne _ _ (by omega))
  obtain ⟨p6, k6, q⟩ := hx_pF (j := 6) (v := .ref 109) q (Nat.le_of_ble_eq_true rfl)
  obtain ⟨p8, k8, q⟩ := hx_arr (m := 124) (j := 8) (v := .ref 124) (o := (4, .inr (8, .inr (.inr (.inr (.inr fun _ => none)))))) q (by rw [va_up_self, oG_0]) (Nat.le_of_ble_eq_true rfl)
  obtain ⟨r9, t9, w⟩ := n_X9 (h := p8)
  have q := hx_sub (m := 125) (m' := 128) q (by decide) w (fun x h1 h2 => va_up_ne _ _ (by omega))
  obtain ⟨p9, k9, q⟩ := hx_pF (j := 9) (v := .ref 125) q (Nat.le_of_ble_eq_true rfl)
  obtain ⟨r10, t10, w⟩ := n_X7 (h := p9)
  have q := hx_sub (m := 128) (m' := 131) q (by decide) w (fun x h1 h2 => va_up_ne _ _ (by omega))
  obtain ⟨p10, k10, q⟩ := hx_pF (j := 10) (v := .ref 128) q (Nat.le_of_ble_eq_true rfl)
  obtain ⟨r11, t11, w⟩ := n_X10 (h := p10)
  have q := hx_sub (m := 131) (m' := 136) q (by decide) w (fun x h1 h2 => va_up_ne _ _ (by omega))
  obtain ⟨p11, k11, q⟩ := hx_pF (j := 11) (v := .ref 131) q (Nat.le_of_ble_eq_true rfl)
  obtain ⟨r12, t12, w⟩ := n_136 (h := p11)
  have q := hx_sub (m := 136) (m' := 138) q (by decide) w (fun x h1 h2 => va_up_ne _ _ (by omega))
  obtain ⟨p12, k12, q⟩ := hx_pF (j := 12) (v := .ref 136) q (Nat.le_of_ble_eq_true rfl)
  obtain ⟨r13, t13, w⟩ := n_138 (h := p12)
  have q := hx_sub (m := 138) (m' := 140) q (by decide) w (fun x h1 h2 => va_up_ne _ _ (by omega))
  obtain ⟨p13, k13, q⟩ := hx_pF (j := 13) (v := .ref 138) q (Nat.le_of_ble_eq_true rfl)
  obtain ⟨r14, t14, w⟩ := n_X5 (h := p13)
  have q := hx_sub (m := 140) (m' := 146) q (by decide) w (fun x h1 h2 => va_up_ne _ _ (by omega))
  obtain ⟨p14, k14, q⟩ := hx_pF (j := 14) (v := .ref 140) q (Nat.le_of_ble_eq_true rfl)
  obtain ⟨r15, t15, w⟩ := n_X1 (h := p14)
  have q := hx_sub (m := 146) (m' := 151) q (by decide) w (fun x h1 h2 => va_up_ne _ _ (by omega))
  obtain ⟨p15, k15, q⟩ := hx_pF (j := 15) (v := .ref 146) q (Nat.le_of_ble_eq_true rfl)
  have L : ∃ e, iter (b_X11_init_169 183 0) FU (J 0, 151, p15) = some e ∧ (fun (e : Nat × Hp) => e.1 = 183 ∧ Nw h e.2 0 183) e := by
    refine iter_for (fun (i : Nat) (s : Int32 × Nat × Hp) => s.1 = J (i : Int) ∧ s.2.1 = 151 + 4 * i ∧ Hx (va_up (mkH d0) 124 (some (oG 151 4 8 i 4))) h 0 (151 + 4 * i) 10 [.ref 1, .ref 30, .ref 59, .ref 62, .ref 77, .ref 106, .ref 109, .int 0, .ref 124, .ref 125, .ref 128, .ref 131, .ref 136, .ref 138, .ref 140, .ref 146] s.2.2) (fun (e : Nat × Hp) => e.1 = 183 ∧ Nw h e.2 0 183) 8 (by decide) ⟨rfl, rfl, q⟩ (fun i s hi hs => ?_) (fun s hs => ?_)
    · obtain ⟨s1, s2, s3⟩ := s
      obtain ⟨c1, c2, q⟩ := hs
      dsimp only at c1 c2 q
      subst c1 c2
      obtain ⟨g0, g1, g2, g3⟩ := n_shelves i hi
      obtain ⟨H1, k1, w⟩ := n_X8 (h := s3) g0 g1 g2 g3
      obtain ⟨H2, k2, q2⟩ := hx_rnd (by decide) (by decide) (by decide) hi (by decide) q w rfl g0
      refine ⟨(J ((i + 1 : Nat) : Int), 151 + 4 * i + 1 + 3, H2), ?_, rfl, by dsimp only; omega, ?_⟩
      · unfold b_X11_init_169
        dsimp only
        rw [if_neg (by rw [J_le (by decide) (by decide) (by omega) (by omega)]; omega)]
        refine bind_eq (gR_at q.2.1 rfl) (bind_eq (cap_ok (by omega)) (bind_eq (cap_ok (by omega)) (bind_eq k1 (bind_eq k2 (bind_eq rfl ?_)))))
        rw [J_add]
        rfl
      · exact q2
    · obtain ⟨s1, s2, s3⟩ := s
      obtain ⟨c1, c2, q⟩ := hs
      dsimp only at c1 c2 q
      subst c1 c2
      refine ⟨(151 + 4 * 8, s3), ?_, rfl, ?_⟩
      · unfold b_X11_init_169
        dsimp only
        rw [if_pos (by rw [J_le (by decide) (by decide) (by omega) (by omega)]; omega)]
      · rw [d0_G _ _ _ (n_oG 124 151 4 8 4 rfl)] at q
        exact hx_end q rfl
  obtain ⟨e, ke, E1, E2⟩ := L
  refine ⟨e.2, ?_, E2⟩
  unfold f_X11_init
  exact bind_eq (cap_ok (Nat.le_of_ble_eq_true rfl)) (bind_eq (cap_ok (Nat.le_of_ble_eq_true rfl)) (bind_eq t0 (bind_eq k0 (bind_eq (cap_ok (Nat.le_of_ble_eq_true rfl)) (bind_eq (cap_ok (Nat.le_of_ble_eq_true rfl)) (bind_eq t1 (bind_eq k1 (bind_eq (cap_ok (Nat.le_of_ble_eq_true rfl)) (bind_eq (cap_ok (Nat.le_of_ble_eq_true rfl)) (bind_eq t2 (bind_eq k2 (bind_eq (cap_ok (Nat.le_of_ble_eq_true rfl)) (bind_eq (cap_ok (Nat.le_of_ble_eq_true rfl)) (bind_eq t3 (bind_eq k3 (bind_eq (cap_ok (Nat.le_of_ble_eq_true rfl)) (bind_eq (cap_ok (Nat.le_of_ble_eq_true rfl)) (bind_eq t4 (bind_eq k4 (bind_eq (cap_ok (Nat.le_of_ble_eq_true rfl)) (bind_eq (cap_ok (Nat.le_of_ble_eq_true rfl)) (bind_eq t5 (bind_eq k5 (bind_eq (cap_ok (Nat.le_of_ble_eq_true rfl)) (bind_eq (cap_ok (Nat.le_of_ble_eq_true rfl)) (bind_eq t6 (bind_eq k6 (bind_eq (cap_ok (Nat.le_of_ble_eq_true rfl)) (bind_eq k8 (bind_eq (cap_ok (Nat.le_of_ble_eq_true rfl)) (bind_eq (cap_ok (Nat.le_of_ble_eq_true rfl)) (bind_eq t9 (bind_eq k9 (bind_eq (cap_ok (Nat.le_of_ble_eq_true rfl)) (bind_eq (cap_ok (Nat.le_of_ble_eq_true rfl)) (bind_eq t10 (bind_eq k10 (bind_eq (cap_ok (Nat.le_of_ble_eq_true rfl)) (bind_eq (cap_ok (Nat.le_of_ble_eq_true rfl)) (bind_eq t11 (bind_eq k11 (bind_eq (cap_ok (Nat.le_of_ble_eq_true rfl)) (bind_eq (cap_ok (Nat.le_of_ble_eq_true rfl)) (bind_eq t12 (bind_eq k12 (bind_eq (cap_ok (Nat.le_of_ble_eq_true rfl)) (bind_eq (cap_ok (Nat.le_of_ble_eq_true rfl)) (bind_eq t13 (bind_eq k13 (bind_eq (cap_ok (Nat.le_of_ble_eq_true rfl)) (bind_eq (cap_ok (Nat.le_of_ble_eq_true rfl)) (bind_eq t14 (bind_eq k14 (bind_eq (cap_ok (Nat.le_of_ble_eq_true rfl)) (bind_eq (cap_ok (Nat.le_of_ble_eq_true rfl)) (bind_eq t15 (bind_eq k15 (bind_eq rfl (bind_eq ke (bind_eq (eqn_ok E1) rfl))))))))))))))))))))))))))))))))))))))))))))))))))))))))))))
