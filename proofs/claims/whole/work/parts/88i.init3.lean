/-! THE START: the reference, and the whole memory -/
theorem sI_up {h : Hp} {a len : Nat} {f : Nat → Int32} {i : Int} {v : Int32} (h0 : 0 ≤ i) (h1 : i < len) (hl : len ≤ 2147483647) : sI (va_up h a (some (0, .inr (len, .inl f)))) a (J i) v = some (va_up h a (some (0, .inr (len, .inl (upd f i.toNat v))))) := by
  have e1 : (J i).toInt = i := J_toI (by omega) (by omega)
  have e2 : (J i).toNatClampNeg = i.toNat := J_nat (by omega) (by omega)
  unfold sI
  rw [va_up_self]
  rw [e1, e2]
  refine (if_pos ⟨h0, h1⟩).trans ?_
  congr 1
  funext x
  by_cases c : x = a
  · rw [c, va_up_self, va_up_self]
  · rw [va_up_ne _ _ c, va_up_ne _ _ c, va_up_ne _ _ c]
def cosR : Nat → Int32 := (upd (upd (upd (upd (upd (upd (upd (upd (upd (upd (upd (upd (upd (upd (upd (upd (fun _ => 0) 0 (J 1000)) 1 (J 924)) 2 (J 707)) 3 (J 383)) 4 (J 0)) 5 (J (-383))) 6 (J (-707))) 7 (J (-924))) 8 (J (-1000))) 9 (J (-924))) 10 (J (-707))) 11 (J (-383))) 12 (J 0)) 13 (J 383)) 14 (J 707)) 15 (J 924))
theorem cosR_eq : cosR = fun k : Nat => J (cosS k) := by
  funext k
  match k with
  | 0 | 1 | 2 | 3 | 4 | 5 | 6 | 7 | 8 | 9 | 10 | 11 | 12 | 13 | 14 | 15 => rfl
  | k + 16 => rfl
theorem G184 : mkH d0 184 = some (0, .inr (16, .inl cosR)) := by
  rw [cosR_eq]
  rfl
theorem n_X12 {h : Hp} : ∃ H, f_X12_init 202 184 (va_up h 183 (some (11, .inl [.null, .null, .null, .null, .null, .null, .null, .null, .null, .null, .int 0, .int 0, .int 0, .int 0, .int 0, .int 0, .null, .null, .null, .null, .null, .null, .long 0, .long 0, .null, .int 0, .int 0, .int 0, .null, .null]))) 183 = some H ∧ Nw h H 183 202 := by
  have q := hx_new (G := mkH d0) (h := h) (a := 183) (ci := 11) (fs := [.null, .null, .null, .null, .null, .null, .null, .null, .null, .null, .int 0, .int 0, .int 0, .int 0, .int 0, .int 0, .null, .null, .null, .null, .null, .null, .long 0, .long 0, .null, .int 0, .int 0, .int 0, .null, .null])
  obtain ⟨p0, k0, q⟩ := hx_arr (j := 0) (v := .ref 184) q G184 (Nat.le_of_ble_eq_true rfl)
  obtain ⟨p1, k1, q⟩ := hx_arr (m := 185) (j := 1) (v := .ref 185) (o := (0, .inr (1744, .inl fun _ => 0))) q rfl (Nat.le_of_ble_eq_true rfl)
  obtain ⟨p2, k2, q⟩ := hx_arr (m := 186) (j := 2) (v := .ref 186) (o := (0, .inr (1744, .inl fun _ => 0))) q rfl (Nat.le_of_ble_eq_true rfl)
  obtain ⟨p3, k3, q⟩ := hx_arr (m := 187) (j := 3) (v := .ref 187) (o := (0, .inr (1744, .inl fun _ => 0))) q rfl (Nat.le_of_ble_eq_true rfl)
  obtain ⟨p4, k4, q⟩ := hx_arr (m := 188) (j := 4) (v := .ref 188) (o := (0, .inr (8, .inl fun _ => 0))) q rfl (Nat.le_of_ble_eq_true rfl)
  obtain ⟨p5, k5, q⟩ := hx_arr (m := 189) (j := 5) (v := .ref 189) (o := (0, .inr (8, .inl fun _ => 0))) q rfl (Nat.le_of_ble_eq_true rfl)
  obtain ⟨p6, k6, q⟩ := hx_arr (m := 190) (j := 6) (v := .ref 190) (o := (0, .inr (8, .inl fun _ => 0))) q rfl (Nat.le_of_ble_eq_true rfl)
  obtain ⟨p7, k7, q⟩ := hx_arr (m := 191) (j := 7) (v := .ref 191) (o := (0, .inr (960, .inl fun _ => 0))) q rfl (Nat.le_of_ble_eq_true rfl)
  obtain ⟨p8, k8, q⟩ := hx_arr (m := 192) (j := 8) (v := .ref 192) (o := (0, .inr (8, .inl fun _ => 0))) q rfl (Nat.le_of_ble_eq_true rfl)
  obtain ⟨p9, k9, q⟩ := hx_arr (m := 193) (j := 9) (v := .ref 193) (o := (0, .inr (8, .inl fun _ => 0))) q rfl (Nat.le_of_ble_eq_true rfl)
  have g16 := gR_at (j := 7) (v := 191) q.2.1 rfl
  obtain ⟨p16, k16, q⟩ := hx_pF (j := 16) (v := .ref 191) q (Nat.le_of_ble_eq_true rfl)
  obtain ⟨p17, k17, q⟩ := hx_arr (m := 194) (j := 17) (v := .ref 194) (o := (0, .inr (3, .inl fun _ => 0))) q rfl (Nat.le_of_ble_eq_true rfl)
  obtain ⟨p18, k18, q⟩ := hx_arr (m := 195) (j := 18) (v := .ref 195) (o := (0, .inr (8, .inl fun _ => 0))) q rfl (Nat.le_of_ble_eq_true rfl)
  obtain ⟨p19, k19, q⟩ := hx_arr (m := 196) (j := 19) (v := .ref 196) (o := (1, .inr (8, .inr (.inl fun _ => 0)))) q rfl (Nat.le_of_ble_eq_true rfl)
  obtain ⟨p20, k20, q⟩ := hx_arr (m := 197) (j := 20) (v := .ref 197) (o := (1, .inr (8, .inr (.inl fun _ => 0)))) q rfl (Nat.le_of_ble_eq_true rfl)
  obtain ⟨p21, k21, q⟩ := hx_arr (m := 198) (j := 21) (v := .ref 198) (o := (2, .inr (8, .inl fun _ => 0))) q rfl (Nat.le_of_ble_eq_true rfl)
  obtain ⟨p24, k24, q⟩ := hx_arr (m := 199) (j := 24) (v := .ref 199) (o := (0, .inr (16, .inl fun _ => 0))) q rfl (Nat.le_of_ble_eq_true rfl)
  obtain ⟨p28, k28, q⟩ := hx_arr (m := 200) (j := 28) (v := .ref 200) (o := (1, .inr (1200, .inr (.inl fun _ => 0)))) q rfl (Nat.le_of_ble_eq_true rfl)
  obtain ⟨p29, k29, q⟩ := hx_arr (m := 201) (j := 29) (v := .ref 201) (o := (0, .inr (1200, .inl fun _ => 0))) q rfl (Nat.le_of_ble_eq_true rfl)
  refine ⟨p29, ?_, hx_end q rfl⟩
  unfold f_X12_init
  exact bind_eq (cap_ok (Nat.le_of_ble_eq_true rfl)) (bind_eq (sI_up (by decide) (by decide) (by decide)) (bind_eq (sI_up (by decide) (by decide) (by decide)) (bind_eq (sI_up (by decide) (by decide) (by decide)) (bind_eq (sI_up (by decide) (by decide) (by decide)) (bind_eq (sI_up (by decide) (by decide) (by decide)) (bind_eq (sI_up (by decide) (by decide) (by decide)) (bind_eq (sI_up (by decide) (by decide) (by decide)) (bind_eq (sI_up (by decide) (by decide) (by decide)) (bind_eq (sI_up (by decide) (by decide) (by decide)) (bind_eq (sI_up (by decide) (by decide) (by decide)) (bind_eq (sI_up (by decide) (by decide) (by decide)) (bind_eq (sI_up (by decide) (by decide) (by decide)) (bind_eq (sI_up (by decide) (by decide) (by decide)) (bind_eq (sI_up (by decide) (by decide) (by decide)) (bind_eq (sI_up (by decide) (by decide) (by decide)) (bind_eq (sI_up (by decide) (by decide) (by decide)) (bind_eq k0 (bind_eq (cap_ok (Nat.le_of_ble_eq_true rfl)) (bind_eq k1 (bind_eq (cap_ok (Nat.le_of_ble_eq_true rfl)) (bind_eq k2 (bind_eq (cap_ok (Nat.le_of_ble_eq_true rfl)) (bind_eq k3 (bind_eq (cap_ok (Nat.le_of_ble_eq_true rfl)) (bind_eq k4 (bind_eq (cap_ok (Nat.le_of_ble_eq_true rfl)) (bind_eq k5 (bind_eq (cap_ok (Nat.le_of_ble_eq_true rfl)) (bind_eq k6 (bind_eq (cap_ok (Nat.le_of_ble_eq_true rfl)) (bind_eq k7 (bind_eq (cap_ok (Nat.le_of_ble_eq_true rfl)) (bind_eq k8 (bind_eq (cap_ok (Nat.le_of_ble_eq_true rfl)) (bind_eq k9 (bind_eq g16 (bind_eq k16 (bind_eq (cap_ok (Nat.le_of_ble_eq_true rfl)) (bind_eq k17 (bind_eq (cap_ok (Nat.le_of_ble_eq_true rfl)) (bind_eq k18 (bind_eq (cap_ok (Nat.le_of_ble_eq_true rfl)) (bind_eq k19 (bind_eq (cap_ok (Nat.le_of_ble_eq_true rfl)) (bind_eq k20 (bind_eq (cap_ok (Nat.le_of_ble_eq_true rfl)) (bind_eq k21 (bind_eq (cap_ok (Nat.le_of_ble_eq_true rfl)) (bind_eq k24 (bind_eq (cap_ok (Nat.le_of_ble_eq_true rfl)) (bind_eq k28 (bind_eq (cap_ok (Nat.le_of_ble_eq_true rfl)) (bind_eq k29 (bind_eq (eqn_ok rfl) rfl))))))))))))))))))))))))))))))))))))))))))))))))))))))
theorem mk_none {x : Nat} (hx : 203 ≤ x) : mkH d0 x = none := by
  have eg : ∀ y, 182 ≤ y → isGa y = false := by
    intro y hy
    unfold isGa
    simp
    omega
  have e1 : shO x = none := by
    unfold shO
    rw [eg x (by omega)]
    repeat' rw [if_neg (by first | decide | omega)]
  have e2 : shA x = none := by
    unfold shA
    rw [eg (x - 1) (by omega)]
    repeat' rw [if_neg (by first | decide | omega)]
  unfold mkH
  rw [e1, e2]
theorem law_0 : ∃ r2 r5, f_X11_init 183 1 (va_up (fun _ => none) 0 (some (10, .inl [.null, .null, .null, .null, .null, .null, .null, .int 0, .null, .null, .null, .null, .null, .null, .null, .null]))) 0 = some r2 ∧ f_X12_init 202 184 (va_up r2 183 (some (11, .inl [.null, .null, .null, .null, .null, .null, .null, .null, .null, .null, .int 0, .int 0, .int 0, .int 0, .int 0, .int 0, .null, .null, .null, .null, .null, .null, .long 0, .long 0, .null, .int 0, .int 0, .int 0, .null, .null]))) 183 = some r5 ∧ va_up r5 202 (some (1, .inr (1, .inr (.inl fun _ => 0)))) = mkH d0 := by
  obtain ⟨r2, k2, w⟩ := n_X11 (h := fun _ => none)
  obtain ⟨r5, k5, v⟩ := n_X12 (h := r2)
  refine ⟨r2, r5, k2, k5, ?_⟩
  funext x
  by_cases c : x = 202
  · rw [c, va_up_self]
    rfl
  · rw [va_up_ne _ _ c]
    by_cases c1 : x < 183
    · rw [v.2 x (by omega), w.1 x (by omega) c1]
    · by_cases c2 : x < 202
      · exact v.1 x (by omega) c2
      · rw [v.2 x (by omega), w.2 x (by omega), mk_none (by omega)]
theorem INV0 : INV d0 := by
  have n0 : ∀ a, a = 185 ∨ a = 188 ∨ a = 189 ∨ a = 190 ∨ a = 191 → ∀ k, d0 a k = 0 := by
    intro a ha k
    rcases ha with rfl | rfl | rfl | rfl | rfl <;> rfl
  refine ⟨⟨rfl, rfl, by decide, by decide, by decide, by decide, fun i i0 i1 => ?_, fun m m0 m1 => ?_⟩, ⟨rfl, by decide, by decide, fun k k0 k1 => ?_⟩, ⟨rfl, by decide, by decide, fun k k0 k1 => ?_⟩, ⟨rfl, Or.inl rfl⟩, fun i i0 i1 => ?_, fun x h0 h1 => rfl⟩
  · rw [n0 185 (by decide)] at i1
    omega
  · rw [n0 185 (by decide)] at m1
    omega
  · rw [n0 185 (by decide)] at k1
    omega
  · rw [n0 185 (by decide)] at k1
    omega
  · have s0 : ∀ k, d0 (sA i) k = 0 ∧ d0 (sA i + 3) k = 0 := by
      intro k
      unfold sA
      obtain ⟨n, rfl⟩ : ∃ n : Nat, i = n := ⟨i.toNat, by omega⟩
      match n, i1 with
      | 0, _ | 1, _ | 2, _ | 3, _ | 4, _ | 5, _ | 6, _ | 7, _ => exact ⟨rfl, rfl⟩
      | n + 8, h => omega
    unfold SH
    simp only [n0 188 (by decide), n0 189 (by decide), n0 190 (by decide), n0 191 (by decide), s0]
    refine ⟨trivial, trivial, trivial, by decide, by decide, by decide, by decide, by decide, by decide, fun _ _ _ => ⟨trivial, by decide, by decide, fun _ => by decide⟩, fun h => absurd h (by decide)⟩
