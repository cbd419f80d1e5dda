/-! THE START: what the constructors build -/
def d0 : Mem := fun a k =>
  if a = 184 then cosS k
  else if a = 147 then -1
  else if a = 125 then (if k = 0 then 126 else 0)
  else if a = 128 then (if k = 0 then 129 else 0)
  else if a = 131 then (if k = 5 then 1 else 0)
  else if a = 140 then (if k = 0 then 141 else if k = 1 then 143 else 0)
  else if a = 183 then (if k = 16 then 191 else 0)
  else if isGa a = true then (if k = 2 then 4 else 0) else 0
/-- the object a is being built over the heap h: its fields are fs, the numbers from a + 1 to m - 1 are as in G -/
def Hx (G h : Hp) (a m ci : Nat) (fs : List Value) (H : Hp) : Prop := a < m ∧ H a = some (ci, .inl fs) ∧ (∀ x, a < x → x < m → H x = G x) ∧ ∀ x, ¬ (a ≤ x ∧ x < m) → H x = h x
/-- the numbers from a to m - 1 are as they stay -/
def Nw (h H : Hp) (a m : Nat) : Prop := (∀ x, a ≤ x → x < m → H x = mkH d0 x) ∧ ∀ x, ¬ (a ≤ x ∧ x < m) → H x = h x
section
variable {G h H : Hp} {a m ci j : Nat} {fs : List Value} {v : Value}
theorem cap_ok {a b : Nat} (h : a ≤ b) : cap a b = some () := if_pos h
theorem eqn_ok {a b : Nat} (h : a = b) : eqn a b = some () := if_pos h
theorem hx_new : Hx G h a (a + 1) ci fs (va_up h a (some (ci, .inl fs))) := by
  refine ⟨by omega, va_up_self _ _ _, fun x h1 h2 => by omega, fun x hx => va_up_ne _ _ (by omega)⟩
theorem hx_pF (q : Hx G h a m ci fs H) (hj : j < fs.length) : ∃ H', pF H a ci j v = some H' ∧ Hx G h a m ci (fs.set j v) H' := by
  obtain ⟨q1, q2, q3, q4⟩ := q
  refine ⟨_, pF_at q2 hj, q1, va_up_self _ _ _, fun x h1 h2 => ?_, fun x hx => ?_⟩
  · rw [va_up_ne _ _ (by omega)]
    exact q3 x h1 h2
  · rw [va_up_ne _ _ (by omega)]
    exact q4 x hx
theorem hx_al {o : Ob} (q : Hx G h a m ci fs H) (hG : G m = some o) : Hx G h a (m + 1) ci fs (va_up H m (some o)) := by
  obtain ⟨q1, q2, q3, q4⟩ := q
  refine ⟨by omega, ?_, fun x h1 h2 => ?_, fun x hx => ?_⟩
  · rw [va_up_ne _ _ (by omega)]
    exact q2
  · by_cases e : x = m
    · rw [e, va_up_self, hG]
    · rw [va_up_ne _ _ e]
      exact q3 x h1 (by omega)
  · rw [va_up_ne _ _ (by omega)]
    exact q4 x (by omega)
theorem hx_arr {o : Ob} (q : Hx G h a m ci fs H) (hG : G m = some o) (hj : j < fs.length) : ∃ H', pF (va_up H m (some o)) a ci j v = some H' ∧ Hx G h a (m + 1) ci (fs.set j v) H' := hx_pF (hx_al q hG) hj
theorem hx_sub {H1 : Hp} {m' : Nat} (q : Hx G h a m ci fs H) (hm : m ≤ m') (w : Nw H H1 m m') (e : ∀ x, m ≤ x → x < m' → G x = mkH d0 x) : Hx G h a m' ci fs H1 := by
  obtain ⟨q1, q2, q3, q4⟩ := q
  obtain ⟨w1, w2⟩ := w
  refine ⟨by omega, ?_, fun x h1 h2 => ?_, fun x hx => ?_⟩
  · rw [w2 a (by omega)]
    exact q2
  · by_cases c : m ≤ x
    · rw [w1 x c h2, e x c h2]
    · rw [w2 x (by omega)]
      exact q3 x h1 (by omega)
  · rw [w2 x (by omega)]
    exact q4 x (by omega)
theorem hx_end (q : Hx (mkH d0) h a m ci fs H) (e : mkH d0 a = some (ci, .inl fs)) : Nw h H a m := by
  obtain ⟨q1, q2, q3, q4⟩ := q
  refine ⟨fun x h1 h2 => ?_, q4⟩
  by_cases c : x = a
  · rw [c, q2, e]
  · exact q3 x (by omega) h2
theorem hx_mul (q : Hx G h a m ci fs H) (e0 : G m = some (5, .inr (12, .inr (.inr (.inr (.inr fun j => if j < 12 then some (m + 1 + j) else none)))))) (e1 : ∀ x, m < x → x < m + 1 + 12 → G x = some (0, .inr (120, .inl fun _ => 0))) : Hx G h a (m + 1 + 12) ci fs (hM m H 12 120) := by
  obtain ⟨q1, q2, q3, q4⟩ := q
  refine ⟨by omega, ?_, fun x h1 h2 => ?_, fun x hx => ?_⟩
  · unfold hM
    rw [if_neg (by omega), if_neg (by omega)]
    exact q2
  · unfold hM
    by_cases c : x = m
    · rw [if_pos c, c, e0]
    · rw [if_neg c]
      by_cases c2 : m < x
      · rw [if_pos (by omega), e1 x c2 h2]
      · rw [if_neg (by omega)]
        exact q3 x h1 (by omega)
  · unfold hM
    rw [if_neg (by omega), if_neg (by omega)]
    exact q4 x (by omega)
theorem hx_cg {G' : Hp} (q : Hx G h a m ci fs H) (e : ∀ x, a < x → x < m → G x = G' x) : Hx G' h a m ci fs H := ⟨q.1, q.2.1, fun x h1 h2 => (q.2.2.1 x h1 h2).trans (e x h1 h2), q.2.2.2⟩
theorem sR_at {f : Nat → Option Nat} {len t c w : Nat} {ws : List Value} {i : Int} (h0 : 0 ≤ i) (h1 : i < len) (hl : len ≤ 2147483647) (ho : H a = some (t, .inr (len, .inr (.inr (.inr (.inr f)))))) (hw : H w = some (c, .inl ws)) : sR H a t c (J i) w = some (va_up H a (some (t, .inr (len, .inr (.inr (.inr (.inr (va_up f i.toNat (some w))))))))) := by
  have e1 : (J i).toInt = i := J_toI (by omega) (by omega)
  have e2 : (J i).toNatClampNeg = i.toNat := J_nat (by omega) (by omega)
  simp [sR, ho, hw, e1, e2, h0, h1]
end
theorem n_X0 {h : Hp} {a : Nat} (e0 : mkH d0 a = some (0, .inl [.int 0, .int 0, .int (J 4), .int 0, .ref (a + 1)])) (e1 : mkH d0 (a + 1) = some (0, .inr (16, .inl fun _ => 0))) : ∃ H, f_X0_init (a + 1 + 1) (a + 1) (va_up h a (some (0, .inl [.int 0, .int 0, .int 0, .int 0, .null]))) a = some H ∧ Nw h H a (a + 2) := by
  have q := hx_new (G := mkH d0) (h := h) (a := a) (ci := 0) (fs := [.int 0, .int 0, .int 0, .int 0, .null])
  obtain ⟨h1, k1, q⟩ := hx_pF (j := 2) (v := .int (J 4)) q (Nat.le_of_ble_eq_true rfl)
  obtain ⟨h3, k3, q⟩ := hx_arr (j := 4) (v := .ref (a + 1)) q e1 (Nat.le_of_ble_eq_true rfl)
  refine ⟨h3, ?_, hx_end q e0⟩
  unfold f_X0_init
  exact bind_eq k1 (bind_eq (cap_ok (by omega)) (bind_eq k3 (bind_eq (eqn_ok rfl) rfl)))
theorem n_X2 {h : Hp} {a : Nat} (e0 : mkH d0 a = some (2, .inl [.ref (a + 1), .ref (a + 2), .int 0])) (e1 : mkH d0 (a + 1) = some (0, .inr (6, .inl fun _ => 0))) (e2 : mkH d0 (a + 2) = some (0, .inr (6, .inl fun _ => 0))) : ∃ H, f_X2_init (a + 1 + 2) (a + 1) (va_up h a (some (2, .inl [.null, .null, .int 0]))) a = some H ∧ Nw h H a (a + 3) := by
  have q := hx_new (G := mkH d0) (h := h) (a := a) (ci := 2) (fs := [.null, .null, .int 0])
  obtain ⟨h1, k1, q⟩ := hx_arr (j := 0) (v := .ref (a + 1)) q e1 (Nat.le_of_ble_eq_true rfl)
  obtain ⟨h3, k3, q⟩ := hx_arr (j := 1) (v := .ref (a + 2)) q e2 (Nat.le_of_ble_eq_true rfl)
  refine ⟨h3, ?_, hx_end q e0⟩
  unfold f_X2_init
  exact bind_eq (cap_ok (by omega)) (bind_eq k1 (bind_eq (cap_ok (by omega)) (bind_eq k3 (bind_eq (eqn_ok rfl) rfl))))
theorem n_X6 {h : Hp} {a : Nat} (e0 : mkH d0 a = some (5, .inl [.ref (a + 1), .ref (a + 14), .int 0])) (e1 : mkH d0 (a + 1) = some (5, .inr (12, .inr (.inr (.inr (.inr fun j => if j < 12 then some (a + 1 + 1 + j) else none)))))) (e2 : ∀ x, a + 1 < x → x < a + 1 + 1 + 12 → mkH d0 x = some (0, .inr (120, .inl fun _ => 0))) (e3 : mkH d0 (a + 14) = some (0, .inr (12, .inl fun _ => 0))) : ∃ H, f_X6_init (a + 1 + 14) (a + 1) (va_up h a (some (5, .inl [.null, .null, .int 0]))) a = some H ∧ Nw h H a (a + 15) := by
  have q := hx_new (G := mkH d0) (h := h) (a := a) (ci := 5) (fs := [.null, .null, .int 0])
  have q := hx_mul q e1 e2
  obtain ⟨h1, k1, q⟩ := hx_pF (j := 0) (v := .ref (a + 1)) q (Nat.le_of_ble_eq_true rfl)
  obtain ⟨h3, k3, q⟩ := hx_arr (j := 1) (v := .ref (a + 14)) q e3 (Nat.le_of_ble_eq_true rfl)
  refine ⟨h3, ?_, hx_end q e0⟩
  unfold f_X6_init
  exact bind_eq (cap_ok (by omega)) (bind_eq k1 (bind_eq (cap_ok (by omega)) (bind_eq k3 (bind_eq (eqn_ok rfl) rfl))))
theorem n_X8 {h : Hp} {a : Nat} (e0 : mkH d0 a = some (7, .inl [.int 0, .ref (a + 1), .int 0, .int 0, .ref (a + 3)])) (e1 : mkH d0 (a + 1) = some (0, .inl [.int 0, .int 0, .int (J 4), .int 0, .ref (a + 2)])) (e2 : mkH d0 (a + 2) = some (0, .inr (16, .inl fun _ => 0))) (e3 : mkH d0 (a + 3) = some (0, .inr (120, .inl fun _ => 0))) : ∃ H, f_X8_init (a + 1 + 3) (a + 1) (va_up h a (some (7, .inl [.int 0, .null, .int 0, .int 0, .null]))) a = some H ∧ Nw h H a (a + 4) := by
  have q := hx_new (G := mkH d0) (h := h) (a := a) (ci := 7) (fs := [.int 0, .null, .int 0, .int 0, .null])
  obtain ⟨h1, k1, q⟩ := hx_pF (j := 0) (v := .int (J 0)) q (Nat.le_of_ble_eq_true rfl)
  obtain ⟨h2, k2, w⟩ := n_X0 (h := h1) e1 e2
  have q := hx_sub q (by omega) w (fun _ _ _ => rfl)
  obtain ⟨h3, k3, q⟩ := hx_pF (j := 1) (v := .ref (a + 1)) q (Nat.le_of_ble_eq_true rfl)
  obtain ⟨h4, k4, q⟩ := hx_arr (j := 4) (v := .ref (a + 3)) q e3 (Nat.le_of_ble_eq_true rfl)
  refine ⟨h4, ?_, hx_end q e0⟩
  unfold f_X8_init
  exact bind_eq k1 (bind_eq (cap_ok (by omega)) (bind_eq (cap_ok (by omega)) (bind_eq k2 (bind_eq k3 (bind_eq (cap_ok (by omega)) (bind_eq k4 (bind_eq (eqn_ok rfl) rfl)))))))
theorem n_X9 {h : Hp} : ∃ H, f_X9_init 128 126 (va_up h 125 (some (8, .inl [.null, .int 0, .int 0, .int 0, .int 0, .int 0, .null]))) 125 = some H ∧ Nw h H 125 128 := by
  have q := hx_new (G := mkH d0) (h := h) (a := 125) (ci := 8) (fs := [.null, .int 0, .int 0, .int 0, .int 0, .int 0, .null])
  obtain ⟨h1, k1, q⟩ := hx_arr (j := 0) (v := .ref 126) (o := (0, .inr (0, .inl fun _ => 0))) q rfl (Nat.le_of_ble_eq_true rfl)
  obtain ⟨h3, k3, q⟩ := hx_arr (j := 6) (v := .ref 127) (o := (0, .inr (3, .inl fun _ => 0))) q rfl (Nat.le_of_ble_eq_true rfl)
  refine ⟨h3, ?_, hx_end q rfl⟩
  unfold f_X9_init f_X4_init_8
  exact bind_eq (cap_ok (by omega)) (bind_eq (bind_eq (cap_ok (by omega)) (bind_eq k1 (bind_eq (eqn_ok rfl) rfl))) (bind_eq (cap_ok (by omega)) (bind_eq k3 (bind_eq (eqn_ok rfl) rfl))))
theorem n_X7 {h : Hp} : ∃ H, f_X7_init 131 129 (va_up h 128 (some (6, .inl [.null, .int 0, .int 0, .int 0, .null]))) 128 = some H ∧ Nw h H 128 131 := by
  have q := hx_new (G := mkH d0) (h := h) (a := 128) (ci := 6) (fs := [.null, .int 0, .int 0, .int 0, .null])
  obtain ⟨h1, k1, q⟩ := hx_arr (j := 0) (v := .ref 129) (o := (0, .inr (0, .inl fun _ => 0))) q rfl (Nat.le_of_ble_eq_true rfl)
  obtain ⟨h3, k3, q⟩ := hx_arr (j := 4) (v := .ref 130) (o := (0, .inr (7, .inl fun _ => 0))) q rfl (Nat.le_of_ble_eq_true rfl)
  refine ⟨h3, ?_, hx_end q rfl⟩
  unfold f_X7_init f_X4_init_6
  exact bind_eq (cap_ok (by omega)) (bind_eq (bind_eq (cap_ok (by omega)) (bind_eq k1 (bind_eq (eqn_ok rfl) rfl))) (bind_eq (cap_ok (by omega)) (bind_eq k3 (bind_eq (eqn_ok rfl) rfl))))
theorem n_X10 {h : Hp} : ∃ H, f_X10_init 136 132 (va_up h 131 (some (9, .inl [.null, .null, .null, .null, .long 0, .long 0]))) 131 = some H ∧ Nw h H 131 136 := by
  have q := hx_new (G := mkH d0) (h := h) (a := 131) (ci := 9) (fs := [.null, .null, .null, .null, .long 0, .long 0])
  obtain ⟨h1, k1, q⟩ := hx_arr (j := 0) (v := .ref 132) (o := (0, .inr (8, .inl fun _ => 0))) q rfl (Nat.le_of_ble_eq_true rfl)
  obtain ⟨h2, k2, q⟩ := hx_arr (j := 1) (v := .ref 133) (o := (1, .inr (8, .inr (.inl fun _ => 0)))) q rfl (Nat.le_of_ble_eq_true rfl)
  obtain ⟨h3, k3, q⟩ := hx_arr (j := 2) (v := .ref 134) (o := (1, .inr (8, .inr (.inl fun _ => 0)))) q rfl (Nat.le_of_ble_eq_true rfl)
  obtain ⟨h4, k4, q⟩ := hx_arr (j := 3) (v := .ref 135) (o := (2, .inr (8, .inl fun _ => 0))) q rfl (Nat.le_of_ble_eq_true rfl)
  obtain ⟨h5, k5, q⟩ := hx_pF (j := 5) (v := .long (K 1)) q (Nat.le_of_ble_eq_true rfl)
  refine ⟨h5, ?_, hx_end q rfl⟩
  unfold f_X10_init
  exact bind_eq (cap_ok (by omega)) (bind_eq k1 (bind_eq (cap_ok (by omega)) (bind_eq k2 (bind_eq (cap_ok (by omega)) (bind_eq k3 (bind_eq (cap_ok (by omega)) (bind_eq k4 (bind_eq k5 (bind_eq (eqn_ok rfl) rfl)))))))))
theorem n_X1 {h : Hp} : ∃ H, f_X1_init 151 147 (va_up h 146 (some (1, .inl [.null, .int 0, .int 0, .long 0, .int 0, .null, .null, .null, .int 0]))) 146 = some H ∧ Nw h H 146 151 := by
  have q := hx_new (G := mkH d0) (h := h) (a := 146) (ci := 1) (fs := [.null, .int 0, .int 0, .long 0, .int 0, .null, .null, .null, .int 0])
  obtain ⟨h1, k1, q⟩ := hx_arr (j := 0) (v := .ref 147) (o := (3, .inr (12, .inr (.inr (.inr (.inr fun _ => none)))))) q rfl (Nat.le_of_ble_eq_true rfl)
  obtain ⟨h2, k2, q⟩ := hx_arr (j := 5) (v := .ref 148) (o := (1, .inr (12, .inr (.inl fun _ => 0)))) q rfl (Nat.le_of_ble_eq_true rfl)
  obtain ⟨h3, k3, q⟩ := hx_arr (j := 6) (v := .ref 149) (o := (0, .inr (12, .inl fun _ => 0))) q rfl (Nat.le_of_ble_eq_true rfl)
  obtain ⟨h4, k4, q⟩ := hx_arr (j := 7) (v := .ref 150) (o := (0, .inr (12, .inl fun _ => 0))) q rfl (Nat.le_of_ble_eq_true rfl)
  refine ⟨h4, ?_, hx_end q rfl⟩
  unfold f_X1_init
  exact bind_eq (cap_ok (by omega)) (bind_eq k1 (bind_eq (cap_ok (by omega)) (bind_eq k2 (bind_eq (cap_ok (by omega)) (bind_eq k3 (bind_eq (cap_ok (by omega)) (bind_eq k4 (bind_eq (eqn_ok rfl) rfl))))))))
theorem n_X5 {h : Hp} : ∃ H, f_X5_init 146 141 (va_up h 140 (some (4, .inl [.null, .null, .int 0, .null]))) 140 = some H ∧ Nw h H 140 146 := by
  have q := hx_new (G := mkH d0) (h := h) (a := 140) (ci := 4) (fs := [.null, .null, .int 0, .null])
  obtain ⟨h1, k1, w⟩ := n_X0 (h := va_up h 140 (some (4, .inl [.null, .null, .int 0, .null]))) (a := 141) rfl rfl
  have q := hx_sub q (by omega) w (fun _ _ _ => rfl)
  obtain ⟨h2, k2, q⟩ := hx_pF (j := 0) (v := .ref 141) q (Nat.le_of_ble_eq_true rfl)
  obtain ⟨h3, k3, w⟩ := n_X0 (h := h2) (a := 143) rfl rfl
  have q := hx_sub q (by omega) w (fun _ _ _ => rfl)
  obtain ⟨h4, k4, q⟩ := hx_pF (j := 1) (v := .ref 143) q (Nat.le_of_ble_eq_true rfl)
  obtain ⟨h5, k5, q⟩ := hx_arr (j := 3) (v := .ref 145) (o := (0, .inr (16, .inl fun _ => 0))) q rfl (Nat.le_of_ble_eq_true rfl)
  refine ⟨h5, ?_, hx_end q rfl⟩
  unfold f_X5_init
  exact bind_eq (cap_ok (by omega)) (bind_eq (cap_ok (by omega)) (bind_eq k1 (bind_eq k2 (bind_eq (cap_ok (by omega)) (bind_eq (cap_ok (by omega)) (bind_eq k3 (bind_eq k4 (bind_eq (cap_ok (by omega)) (bind_eq k5 (bind_eq (eqn_ok rfl) rfl))))))))))
