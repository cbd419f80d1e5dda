def f_X7_init  (N2 n : Nat) (h : Hp) (a0 : Nat) : Option (Hp) :=
  (cap (n + 1) N2).bind fun u2 =>
  (f_X4_init_6 (n + 1) n h a0).bind fun r1 =>
  (cap ((n + 1) + 1) N2).bind fun u3 =>
  (pF (va_up r1 (n + 1) (some (0, .inr (7, .inl fun _ => 0)))) a0 6 4 (.ref (n + 1))).bind fun h4 =>
  (eqn ((n + 1) + 1) N2).bind fun u5 =>
  some h4
set_option maxRecDepth 100000 in
set_option maxHeartbeats 4000000 in
theorem s_X7_init {n : Nat} {h : Hp} {a0 : Nat}  {r : Hp} {N2 : Nat} (hB : n ≤ N2 ∧ N2 ≤ BB) (hf : f_X7_init  N2 n h a0 = some r) : Ev 3 yX7_init cX7_init 1 none [.ref a0] n h none N2 r := by
  refine Ev_of RX7 rfl (by decide) (Nat.le_of_ble_eq_true rfl) hB.1 (Or.inr hB.2) (fun Z hZ hF hN hI => ?_)
  have hN := hN hB.2
  have hI := hI rfl
  have H : Ok (f_X7_init  N2 n h a0) (fun y => y = r) := ⟨_, hf, rfl⟩
  unfold f_X7_init at H
  refine r_ls (ls' := [(0, .ref a0)]) rfl ?_
  refine r_aload_n hZ dX7_init_0 rfl ?_
  obtain ⟨u2, eu2, H⟩ := ok_bind H
  obtain ⟨r1, er1, H⟩ := ok_bind H
  refine r_callIN (As := []) (rest := []) (N2 := N2) hZ dX7_init_1 cw_X7_3 (s_X4_init_6 ⟨Nat.le_add_right _ _, Nat.le_trans (cap_le eu2) (NX_bb hN)⟩ er1) rfl rfl (by decide) (Nat.le_of_ble_eq_true rfl) (Nat.le_refl 0) (Nat.le_add_right _ _) (Or.inr ⟨hN, cap_le eu2⟩) ?_
  refine r_aload_n hZ dX7_init_4 rfl ?_
  refine r_bipush (v := (J 7)) hZ dX7_init_5 (by decide) ?_
  obtain ⟨u3, eu3, H⟩ := ok_bind H
  refine r_newI (len := 7) hZ hN wa_int (by decide) (by decide) (by decide) dX7_init_7 (cap_le eu3) (Nat.le_refl 0) ?_
  obtain ⟨h4, eh4, H⟩ := ok_bind H
  refine r_putF hZ hI fl_X7_9_6 dX7_init_9 eh4 rfl rfl rfl ?_
  obtain ⟨u5, eu5, H⟩ := ok_bind H
  have H := ok_some H
  subst H
  have eu5 := eqn_eq eu5
  rw [eu5]
  exact r_ret hZ hF dX7_init_12
def b_X7_readAtom_7 (h : Hp) (p0 : Nat) (p1 : Int32) (s : Int32) : Option ((Int32) ⊕ ((Unit) ⊕ (Int32))) :=
  (if (J 7) ≤ s then
    some (.inr (.inl ()))
  else
    (aS 3 s).bind fun x1 =>
    (if p1 = x1 then
      some (.inr (.inr s))
    else
      (some (s + (J 1))).bind fun x2 =>
      some (.inl x2)))
set_option maxRecDepth 100000 in
set_option maxHeartbeats 4000000 in
theorem l_X7_readAtom_7 {Z : Zc} (hZ : Fx cX7_readAtom RX7 3 4 0 Z) {n : Nat} {h : Hp} {p0 : Nat} {p1 : Int32} {P : ((Unit) ⊕ (Int32)) → Prop} (hx0 : ∀ e : Unit, P (.inl e) → R Z 47 [(0, .ref p0)] [] n h 0) (hx1 : ∀ e : Int32, P (.inr e) → R Z 24 [(0, .ref p0), (2, .int e)] [] n h 0) : ∀ (m : Nat) (s : Int32), Ok (iter (b_X7_readAtom_7 h p0 p1) m s) P → R Z 7 [(0, .ref p0), (1, .int p1), (2, .int s)] [] n h 0 := by
  intro m
  induction m with
  | zero => exact fun s H => ok_iter0 H
  | succ m ih =>
    intro s H
    have H := ok_iter H
    unfold b_X7_readAtom_7 at H
    refine r_iload_n hZ dX7_readAtom_7 rfl ?_
    refine r_gets (j := 3) hZ (by decide) dX7_readAtom_8 ws_X7_56 ?_
    refine r_nS (v := (J 7)) hZ (by decide) dX7_readAtom_11 (by decide) ?_
    refine r_icmp_ge (tgt := 47) hZ dX7_readAtom_12 (by decide) (fun c4 => ?_) (fun c4 => ?_)
    · have H := ok_t H c4
      exact r_pick [0] (ls' := [(0, .ref p0)]) rfl (hx0 _ (ki_r H))
    · have H := ok_f H c4
      refine r_iload_n hZ dX7_readAtom_15 rfl ?_
      refine r_gets (j := 3) hZ (by decide) dX7_readAtom_16 ws_X7_56 ?_
      refine r_iload_n hZ dX7_readAtom_19 rfl ?_
      obtain ⟨x1, ex1, H⟩ := ok_bind H
      refine r_aS hZ (by decide) dX7_readAtom_20 ex1 ?_
      refine r_icmp_ne (tgt := 41) hZ dX7_readAtom_21 (by decide) (fun c3 => ?_) (fun c3 => ?_)
      · have H := ok_f H c3
        obtain ⟨x2, ex2, H⟩ := ok_bind H
        refine r_iincE (w := (J 1)) hZ dX7_readAtom_41 (by decide) rfl (by decide) ex2 (r_pick [0, 1, 2] (ls' := [(0, .ref p0), (1, .int p1), (2, .int x2)]) rfl ?_)
        refine r_goto (tgt := 7) hZ dX7_readAtom_44 (by decide) ?_
        exact r_pick [0, 1, 2] (ls' := [(0, .ref p0), (1, .int p1), (2, .int x2)]) rfl (ih _ (ki_l H))
      · have H := ok_t H c3
        exact r_pick [0, 2] (ls' := [(0, .ref p0), (2, .int s)]) rfl (hx1 _ (ki_r H))
def f_X7_readAtom  (h : Hp) (a0 : Nat) : Option (Int32 × Hp) :=
  (isO h a0 6).bind fun u1 =>
  (f_X4_coming_6 h a0).bind fun r2 =>
  (some (J 0)).bind fun x3 =>
  (iter (b_X7_readAtom_7 h a0 r2) FU x3).bind fun e4 =>
  (match e4 with
  | .inl e5 =>
    (isO h a0 6).bind fun u6 =>
    (f_X4_takeNumber_6 h a0 (J 4)).bind fun r7 =>
    some (r7.1, r7.2)
  | .inr e8 =>
    (gI h a0 6 2).bind fun x9 =>
    (pF h a0 6 2 (.int (x9 + (J 1)))).bind fun h10 =>
    (gR h10 a0 6 4).bind fun x11 =>
    (aI h10 x11 e8).bind fun x12 =>
    some (x12, h10))
set_option maxRecDepth 100000 in
set_option maxHeartbeats 4000000 in
theorem s_X7_readAtom {n : Nat} {h : Hp} {a0 : Nat}  {r : Int32 × Hp} (hf : f_X7_readAtom  h a0 = some r) : Ev 4 yX7_readAtom cX7_readAtom 3 (some .int) [.ref a0] n h (some (.int r.1)) n r.2 := by
  refine Ev_of RX7 rfl (by decide) (Nat.le_of_ble_eq_true rfl) (Nat.le_refl _) (Or.inl rfl) (fun Z hZ hF hN hI => ?_)
  have H : Ok (f_X7_readAtom  h a0) (fun y => y = r) := ⟨_, hf, rfl⟩
  unfold f_X7_readAtom at H
  refine r_ls (ls' := [(0, .ref a0)]) rfl ?_
  refine r_aload_n hZ dX7_readAtom_0 rfl ?_
  obtain ⟨u1, eu1, H⟩ := ok_bind H
  obtain ⟨r2, er2, H⟩ := ok_bind H
  refine r_callU (As := []) (rest := []) (st1 := [.int r2]) (N2 := 0) hZ dX7_readAtom_1 cw_X7_50_X7 rfl eu1 (s_X4_coming_6 er2) rfl rfl (by decide) (Nat.le_of_ble_eq_true rfl) (Nat.le_refl 0) (Nat.le_refl _) (Or.inl rfl) rfl ?_
  refine r_istore_n hZ dX7_readAtom_4 (by decide) (r_pick [0, 1] (ls' := [(0, .ref a0), (1, .int r2)]) rfl ?_)
  refine r_iconst (v := (J 0)) hZ dX7_readAtom_5 (by decide) ?_
  obtain ⟨x3, ex3, H⟩ := ok_bind H
  refine r_topi ex3 ?_
  refine r_istore_n hZ dX7_readAtom_6 (by decide) (r_pick [0, 1, 2] (ls' := [(0, .ref a0), (1, .int r2), (2, .int x3)]) rfl ?_)
  have H := ok_bindK H
  refine r_pick [0, 1, 2] (ls' := [(0, .ref a0), (1, .int r2), (2, .int x3)]) rfl (l_X7_readAtom_7 hZ (fun e5 H => ?_) (fun e8 H => ?_) FU _ H)
  · refine r_aload_n hZ dX7_readAtom_47 rfl ?_
    refine r_iconst (v := (J 4)) hZ dX7_readAtom_48 (by decide) ?_
    obtain ⟨u6, eu6, H⟩ := ok_bind H
    obtain ⟨r7, er7, H⟩ := ok_bind H
    refine r_callU (As := [.int (J 4)]) (rest := []) (st1 := [.int r7.1]) (N2 := 0) hZ dX7_readAtom_49 cw_X7_59_X7 rfl eu6 (s_X4_takeNumber_6 er7) rfl rfl (by decide) (Nat.le_of_ble_eq_true rfl) (Nat.le_refl 0) (Nat.le_refl _) (Or.inl rfl) rfl ?_
    have H := ok_some H
    subst H
    exact r_iret hZ hF dX7_readAtom_52
  · refine r_aload_n hZ dX7_readAtom_24 rfl ?_
    refine r_dup_a hZ dX7_readAtom_25 ?_
    obtain ⟨x9, ex9, H⟩ := ok_bind H
    refine r_getI hZ fl_X7_31_6 dX7_readAtom_26 ex9 ?_
    refine r_iconst (v := (J 1)) hZ dX7_readAtom_29 (by decide) ?_
    refine r_iadd hZ dX7_readAtom_30 ?_
    obtain ⟨h10, eh10, H⟩ := ok_bind H
    refine r_putf hZ fl_X7_31_6 dX7_readAtom_31 eh10 rfl rfl ?_
    refine r_aload_n hZ dX7_readAtom_34 rfl ?_
    obtain ⟨x11, ex11, H⟩ := ok_bind H
    refine r_getR hZ fl_X7_9_6 dX7_readAtom_35 ex11 ?_
    refine r_iload_n hZ dX7_readAtom_38 rfl ?_
    obtain ⟨x12, ex12, H⟩ := ok_bind H
    refine r_aI hZ dX7_readAtom_39 ex12 ?_
    have H := ok_some H
    subst H
    exact r_iret hZ hF dX7_readAtom_40
def b_X7_readSum_7 (p0 : Nat) (s : Int32 × Int32 × Hp) : Option ((Int32 × Int32 × Hp) ⊕ ((Int32 × Hp))) :=
  (if (J 120) ≤ s.2.1 then
    some (.inr ((s.1, s.2.2)))
  else
    (isO s.2.2 p0 6).bind fun u1 =>
    (f_X4_takes_6 s.2.2 p0 (J 43)).bind fun r2 =>
    (if r2.1 = 0 then
      (isO r2.2 p0 6).bind fun u3 =>
      (f_X4_takes_6 r2.2 p0 (J 45)).bind fun r4 =>
      (if r4.1 = 0 then
        some (.inr ((s.1, r4.2)))
      else
        (isO r4.2 p0 6).bind fun u5 =>
        (f_X7_readAtom r4.2 p0).bind fun r6 =>
        (some (s.1 - r6.1)).bind fun x7 =>
        (some (s.2.1 + (J 1))).bind fun x8 =>
        some (.inl (x7, x8, r6.2)))
    else
      (isO r2.2 p0 6).bind fun u10 =>
      (f_X7_readAtom r2.2 p0).bind fun r11 =>
      (some (s.1 + r11.1)).bind fun x12 =>
      (some (s.2.1 + (J 1))).bind fun x13 =>
      some (.inl (x12, x13, r11.2))))
set_option maxRecDepth 100000 in
set_option maxHeartbeats 4000000 in
theorem l_X7_readSum_7 {Z : Zc} (hZ : Fx cX7_readSum RX7 3 5 0 Z) {n : Nat} {p0 : Nat} {P : ((Int32 × Hp)) → Prop} (hx0 : ∀ e : Int32 × Hp, P (e) → R Z 54 [(1, .int e.1)] [] n e.2 0) : ∀ (m : Nat) (s : Int32 × Int32 × Hp), Ok (iter (b_X7_readSum_7 p0) m s) P → R Z 7 [(0, .ref p0), (1, .int s.1), (2, .int s.2.1)] [] n s.2.2 0 := by
  intro m
  induction m with
  | zero => exact fun s H => ok_iter0 H
  | succ m ih =>
    intro s H
    have H := ok_iter H
    unfold b_X7_readSum_7 at H
    refine r_iload_n hZ dX7_readSum_7 rfl ?_
    refine r_bipush (v := (J 120)) hZ dX7_readSum_8 (by decide) ?_
    refine r_icmp_ge (tgt := 54) hZ dX7_readSum_10 (by decide) (fun c15 => ?_) (fun c15 => ?_)
    · have H := ok_t H c15
      exact r_pick [1] (ls' := [(1, .int s.1)]) rfl (hx0 _ (ki_r H))
    · have H := ok_f H c15
      refine r_aload_n hZ dX7_readSum_13 rfl ?_
      refine r_bipush (v := (J 43)) hZ dX7_readSum_14 (by decide) ?_
      obtain ⟨u1, eu1, H⟩ := ok_bind H
      obtain ⟨r2, er2, H⟩ := ok_bind H
      refine r_callU (As := [.int (J 43)]) (rest := []) (st1 := [.int r2.1]) (N2 := 0) hZ dX7_readSum_16 cw_X7_38_X7 rfl eu1 (s_X4_takes_6 er2) rfl rfl (by decide) (Nat.le_of_ble_eq_true rfl) (Nat.le_refl 0) (Nat.le_refl _) (Or.inl rfl) rfl ?_
      refine r_if_eq (tgt := 32) hZ dX7_readSum_19 (by decide) (fun c14 => ?_) (fun c14 => ?_)
      · have H := ok_t H c14
        refine r_aload_n hZ dX7_readSum_32 rfl ?_
        refine r_bipush (v := (J 45)) hZ dX7_readSum_33 (by decide) ?_
        obtain ⟨u3, eu3, H⟩ := ok_bind H
        obtain ⟨r4, er4, H⟩ := ok_bind H
        refine r_callU (As := [.int (J 45)]) (rest := []) (st1 := [.int r4.1]) (N2 := 0) hZ dX7_readSum_35 cw_X7_38_X7 rfl eu3 (s_X4_takes_6 er4) rfl rfl (by decide) (Nat.le_of_ble_eq_true rfl) (Nat.le_refl 0) (Nat.le_refl _) (Or.inl rfl) rfl ?_
        refine r_if_eq (tgt := 54) hZ dX7_readSum_38 (by decide) (fun c9 => ?_) (fun c9 => ?_)
        · have H := ok_t H c9
          exact r_pick [1] (ls' := [(1, .int s.1)]) rfl (hx0 _ (ki_r H))
        · have H := ok_f H c9
          refine r_iload_n hZ dX7_readSum_41 rfl ?_
          refine r_aload_n hZ dX7_readSum_42 rfl ?_
          obtain ⟨u5, eu5, H⟩ := ok_bind H
          obtain ⟨r6, er6, H⟩ := ok_bind H
          refine r_callV (As := []) (rest := [.int s.1]) (st1 := [.int r6.1, .int s.1]) (N2 := 0) hZ dX7_readSum_43 cw_X7_53_X7 rfl eu5 (s_X7_readAtom er6) rfl rfl (by decide) (Nat.le_of_ble_eq_true rfl) (Nat.le_refl 0) (Nat.le_refl _) (Or.inl rfl) rfl ?_
          refine r_isub hZ dX7_readSum_46 ?_
          obtain ⟨x7, ex7, H⟩ := ok_bind H
          refine r_topi ex7 ?_
          refine r_istore_n hZ dX7_readSum_47 (by decide) (r_pick [0, 1, 2] (ls' := [(0, .ref p0), (1, .int x7), (2, .int s.2.1)]) rfl ?_)
          obtain ⟨x8, ex8, H⟩ := ok_bind H
          refine r_iincE (w := (J 1)) hZ dX7_readSum_48 (by decide) rfl (by decide) ex8 (r_pick [0, 1, 2] (ls' := [(0, .ref p0), (1, .int x7), (2, .int x8)]) rfl ?_)
          refine r_goto (tgt := 7) hZ dX7_readSum_51 (by decide) ?_
          exact r_pick [0, 1, 2] (ls' := [(0, .ref p0), (1, .int x7), (2, .int x8)]) rfl (ih _ (ki_l H))
      · have H := ok_f H c14
        refine r_iload_n hZ dX7_readSum_22 rfl ?_
        refine r_aload_n hZ dX7_readSum_23 rfl ?_
        obtain ⟨u10, eu10, H⟩ := ok_bind H
        obtain ⟨r11, er11, H⟩ := ok_bind H
        refine r_callV (As := []) (rest := [.int s.1]) (st1 := [.int r11.1, .int s.1]) (N2 := 0) hZ dX7_readSum_24 cw_X7_53_X7 rfl eu10 (s_X7_readAtom er11) rfl rfl (by decide) (Nat.le_of_ble_eq_true rfl) (Nat.le_refl 0) (Nat.le_refl _) (Or.inl rfl) rfl ?_
        refine r_iadd hZ dX7_readSum_27 ?_
        obtain ⟨x12, ex12, H⟩ := ok_bind H
        refine r_topi ex12 ?_
        refine r_istore_n hZ dX7_readSum_28 (by decide) (r_pick [0, 1, 2] (ls' := [(0, .ref p0), (1, .int x12), (2, .int s.2.1)]) rfl ?_)
        refine r_goto (tgt := 48) hZ dX7_readSum_29 (by decide) ?_
        obtain ⟨x13, ex13, H⟩ := ok_bind H
        refine r_iincE (w := (J 1)) hZ dX7_readSum_48 (by decide) rfl (by decide) ex13 (r_pick [0, 1, 2] (ls' := [(0, .ref p0), (1, .int x12), (2, .int x13)]) rfl ?_)
        refine r_goto (tgt := 7) hZ dX7_readSum_51 (by decide) ?_
        exact r_pick [0, 1, 2] (ls' := [(0, .ref p0), (1, .int x12), (2, .int x13)]) rfl (ih _ (ki_l H))
def f_X7_readSum  (h : Hp) (a0 : Nat) : Option (Int32 × Hp) :=
  (isO h a0 6).bind fun u1 =>
  (f_X7_readAtom h a0).bind fun r2 =>
  (some (J 0)).bind fun x3 =>
  (iter (b_X7_readSum_7 a0) FU (r2.1, x3, r2.2)).bind fun e4 =>
  some (e4.1, e4.2)
set_option maxRecDepth 100000 in
set_option maxHeartbeats 4000000 in
theorem s_X7_readSum {n : Nat} {h : Hp} {a0 : Nat}  {r : Int32 × Hp} (hf : f_X7_readSum  h a0 = some r) : Ev 5 yX7_readSum cX7_readSum 3 (some .int) [.ref a0] n h (some (.int r.1)) n r.2 := by
  refine Ev_of RX7 rfl (by decide) (Nat.le_of_ble_eq_true rfl) (Nat.le_refl _) (Or.inl rfl) (fun Z hZ hF hN hI => ?_)
  have H : Ok (f_X7_readSum  h a0) (fun y => y = r) := ⟨_, hf, rfl⟩
  unfold f_X7_readSum at H
  refine r_ls (ls' := [(0, .ref a0)]) rfl ?_
  refine r_aload_n hZ dX7_readSum_0 rfl ?_
  obtain ⟨u1, eu1, H⟩ := ok_bind H
  obtain ⟨r2, er2, H⟩ := ok_bind H
  refine r_callV (As := []) (rest := []) (st1 := [.int r2.1]) (N2 := 0) hZ dX7_readSum_1 cw_X7_53_X7 rfl eu1 (s_X7_readAtom er2) rfl rfl (by decide) (Nat.le_of_ble_eq_true rfl) (Nat.le_refl 0) (Nat.le_refl _) (Or.inl rfl) rfl ?_
  refine r_istore_n hZ dX7_readSum_4 (by decide) (r_pick [0, 1] (ls' := [(0, .ref a0), (1, .int r2.1)]) rfl ?_)
  refine r_iconst (v := (J 0)) hZ dX7_readSum_5 (by decide) ?_
  obtain ⟨x3, ex3, H⟩ := ok_bind H
  refine r_topi ex3 ?_
  refine r_istore_n hZ dX7_readSum_6 (by decide) (r_pick [0, 1, 2] (ls' := [(0, .ref a0), (1, .int r2.1), (2, .int x3)]) rfl ?_)
  have H := ok_bindK H
  refine r_pick [0, 1, 2] (ls' := [(0, .ref a0), (1, .int r2.1), (2, .int x3)]) rfl (l_X7_readSum_7 hZ (fun e4 H => ?_) FU _ H)
  · refine r_iload_n hZ dX7_readSum_54 rfl ?_
    have H := ok_some H
    subst H
    exact r_iret hZ hF dX7_readSum_55
def b_X7_readTest_4 (g_X7_readOr : Hp → Nat → Int32 → Option (Int32 × Hp)) (p0 : Nat) (p1 : Int32) (s : Int32 × Int32 × Hp) : Option ((Int32 × Int32 × Hp) ⊕ ((Int32 × Hp))) :=
  (if (J 120) ≤ s.2.1 then
    some (.inr ((s.1, s.2.2)))
  else
    (isO s.2.2 p0 6).bind fun u1 =>
    (f_X4_takes_6 s.2.2 p0 (J 33)).bind fun r2 =>
    (if r2.1 = 0 then
      some (.inr ((s.1, r2.2)))
    else
      ((if s.1 = 0 then
        some (J 1)
      else
        some (J 0))).bind fun (j3 : Int32) =>
      (some (s.2.1 + (J 1))).bind fun x5 =>
      some (.inl (j3, x5, r2.2))))
set_option maxRecDepth 100000 in
set_option maxHeartbeats 4000000 in
theorem l_X7_readTest_4 {Z : Zc} {d : Nat} (hd9 : 5 < d) {dr_X7_readOr : Nat} (hd_X7_readOr : dr_X7_readOr < d) {g_X7_readOr : Hp → Nat → Int32 → Option (Int32 × Hp)} (hZ : Fx cX7_readTest RX7 7 d 0 Z) {n : Nat} {p0 : Nat} {p1 : Int32} {P : ((Int32 × Hp)) → Prop} (hg_X7_readOr : ∀ {n : Nat} {h : Hp} {b0 : Nat} {b1 : Int32} {r : _}, g_X7_readOr h b0 b1 = some r → Ev dr_X7_readOr yX7_readOr cX7_readOr 5 (some .boolean) [.ref b0, .int b1] n h (some (.int r.1)) n r.2) (hx0 : ∀ e : Int32 × Hp, P (e) → R Z 35 [(0, .ref p0), (1, .int p1), (2, .int e.1)] [] n e.2 0) : ∀ (m : Nat) (s : Int32 × Int32 × Hp), Ok (iter (b_X7_readTest_4 g_X7_readOr p0 p1) m s) P → R Z 4 [(0, .ref p0), (1, .int p1), (2, .int s.1), (3, .int s.2.1)] [] n s.2.2 0 := by
  intro m
  induction m with
  | zero => exact fun s H => ok_iter0 H
  | succ m ih =>
    intro s H
    have H := ok_iter H
    unfold b_X7_readTest_4 at H
    refine r_iload_n hZ dX7_readTest_4 rfl ?_
    refine r_bipush (v := (J 120)) hZ dX7_readTest_5 (by decide) ?_
    refine r_icmp_ge (tgt := 35) hZ dX7_readTest_7 (by decide) (fun c7 => ?_) (fun c7 => ?_)
    · have H := ok_t H c7
      exact r_pick [0, 1, 2] (ls' := [(0, .ref p0), (1, .int p1), (2, .int s.1)]) rfl (hx0 _ (ki_r H))
    · have H := ok_f H c7
      refine r_aload_n hZ dX7_readTest_10 rfl ?_
      refine r_bipush (v := (J 33)) hZ dX7_readTest_11 (by decide) ?_
      obtain ⟨u1, eu1, H⟩ := ok_bind H
      obtain ⟨r2, er2, H⟩ := ok_bind H
      refine r_callU (As := [.int (J 33)]) (rest := []) (st1 := [.int r2.1]) (N2 := 0) hZ dX7_readTest_13 cw_X7_38_X7 rfl eu1 (s_X4_takes_6 er2) rfl rfl (by omega) (Nat.le_of_ble_eq_true rfl) (Nat.le_refl 0) (Nat.le_refl _) (Or.inl rfl) rfl ?_
      refine r_if_eq (tgt := 35) hZ dX7_readTest_16 (by decide) (fun c6 => ?_) (fun c6 => ?_)
      · have H := ok_t H c6
        exact r_pick [0, 1, 2] (ls' := [(0, .ref p0), (1, .int p1), (2, .int s.1)]) rfl (hx0 _ (ki_r H))
      · have H := ok_f H c6
        refine r_iload_n hZ dX7_readTest_19 rfl ?_
        refine ok_join (Q := fun j3 : Int32 => R Z 28 [(0, .ref p0), (1, .int p1), (3, .int s.2.1)] [.int j3] n r2.2 0) H (fun j3 H => ?_) (fun H => ?_)
        · refine r_istore_n hZ dX7_readTest_28 (by decide) (r_pick [0, 1, 2, 3] (ls' := [(0, .ref p0), (1, .int p1), (2, .int j3), (3, .int s.2.1)]) rfl ?_)
          obtain ⟨x5, ex5, H⟩ := ok_bind H
          refine r_iincE (w := (J 1)) hZ dX7_readTest_29 (by decide) rfl (by decide) ex5 (r_pick [0, 1, 2, 3] (ls' := [(0, .ref p0), (1, .int p1), (2, .int j3), (3, .int x5)]) rfl ?_)
          refine r_goto (tgt := 4) hZ dX7_readTest_32 (by decide) ?_
          exact r_pick [0, 1, 2, 3] (ls' := [(0, .ref p0), (1, .int p1), (2, .int j3), (3, .int x5)]) rfl (ih _ (ki_l H))
        · refine r_if_ne (tgt := 27) hZ dX7_readTest_20 (by decide) (fun c4 => ?_) (fun c4 => ?_)
          · have H := ok_f H c4
            refine r_iconst (v := (J 0)) hZ dX7_readTest_27 (by decide) ?_
            have H := ok_some H
            exact r_pick [0, 1, 3] (ls' := [(0, .ref p0), (1, .int p1), (3, .int s.2.1)]) rfl H
          · have H := ok_t H c4
            refine r_iconst (v := (J 1)) hZ dX7_readTest_23 (by decide) ?_
            refine r_goto (tgt := 28) hZ dX7_readTest_24 (by decide) ?_
            have H := ok_some H
            exact r_pick [0, 1, 3] (ls' := [(0, .ref p0), (1, .int p1), (3, .int s.2.1)]) rfl H
def F_X7_readTest (g_X7_readOr : Hp → Nat → Int32 → Option (Int32 × Hp)) (h : Hp) (a0 : Nat) (a1 : Int32) : Option (Int32 × Hp) :=
  (some (J 1)).bind fun x1 =>
  (some (J 0)).bind fun x2 =>
  (iter (b_X7_readTest_4 g_X7_readOr a0 a1) FU (x1, x2, h)).bind fun e3 =>
  ((if (J 8) ≤ a1 then
    (isO e3.2 a0 6).bind fun u5 =>
    (f_X7_readSum e3.2 a0).bind fun r6 =>
    (isO r6.2 a0 6).bind fun u7 =>
    (f_X4_coming_6 r6.2 a0).bind fun r8 =>
    ((if r8 = (J 60) then
      some ((r8.toUInt32 % 65536).toInt32)
    else
      (if r8 = (J 62) then
        some ((r8.toUInt32 % 65536).toInt32)
      else
        some (J 61)))).bind fun (j9 : Int32) =>
    (isO r6.2 a0 6).bind fun u12 =>
    (f_X4_takeOrStop_6 r6.2 a0 j9).bind fun r13 =>
    (isO r13 a0 6).bind fun u14 =>
    (f_X7_readSum r13 a0).bind fun r15 =>
    ((if r8 = (J 60) then
      (if r15.1 ≤ r6.1 then
        some (J 0)
      else
        some (J 1))
    else
      (if r8 = (J 62) then
        (if r6.1 ≤ r15.1 then
          some (J 0)
        else
          some (J 1))
      else
        (if r6.1 = r15.1 then
          some (J 1)
        else
          some (J 0))))).bind fun (j16 : Int32) =>
    some (j16, r15.2)
  else
    (isO e3.2 a0 6).bind fun u22 =>
    (f_X4_takes_6 e3.2 a0 (J 40)).bind fun r23 =>
    (if r23.1 = 0 then
      (isO r23.2 a0 6).bind fun u24 =>
      (f_X7_readSum r23.2 a0).bind fun r25 =>
      (isO r25.2 a0 6).bind fun u26 =>
      (f_X4_coming_6 r25.2 a0).bind fun r27 =>
      ((if r27 = (J 60) then
        some ((r27.toUInt32 % 65536).toInt32)
      else
        (if r27 = (J 62) then
          some ((r27.toUInt32 % 65536).toInt32)
        else
          some (J 61)))).bind fun (j28 : Int32) =>
      (isO r25.2 a0 6).bind fun u31 =>
      (f_X4_takeOrStop_6 r25.2 a0 j28).bind fun r32 =>
      (isO r32 a0 6).bind fun u33 =>
      (f_X7_readSum r32 a0).bind fun r34 =>
      ((if r27 = (J 60) then
        (if r34.1 ≤ r25.1 then
          some (J 0)
        else
          some (J 1))
      else
        (if r27 = (J 62) then
          (if r25.1 ≤ r34.1 then
            some (J 0)
          else
            some (J 1))
        else
          (if r25.1 = r34.1 then
            some (J 1)
          else
            some (J 0))))).bind fun (j35 : Int32) =>
      some (j35, r34.2)
    else
      (isO r23.2 a0 6).bind fun u41 =>
      (g_X7_readOr r23.2 a0 (a1 + (J 1))).bind fun r42 =>
      (isO r42.2 a0 6).bind fun u43 =>
      (f_X4_takeOrStop_6 r42.2 a0 (J 41)).bind fun r44 =>
      some (r42.1, r44)))).bind fun (j4 : Int32 × Hp) =>
  ((if j4.1 = e3.1 then
    some (J 1)
  else
    some (J 0))).bind fun (j47 : Int32) =>
  (bz j47).bind fun u49 =>
  some (j47, j4.2)
set_option maxRecDepth 100000 in
set_option maxHeartbeats 4000000 in
theorem sF_X7_readTest {d : Nat} (hd9 : 5 < d) {dr_X7_readOr : Nat} (hd_X7_readOr : dr_X7_readOr < d) {g_X7_readOr : Hp → Nat → Int32 → Option (Int32 × Hp)} {n : Nat} {h : Hp} {a0 : Nat} {a1 : Int32} (hg_X7_readOr : ∀ {n : Nat} {h : Hp} {b0 : Nat} {b1 : Int32} {r : _}, g_X7_readOr h b0 b1 = some r → Ev dr_X7_readOr yX7_readOr cX7_readOr 5 (some .boolean) [.ref b0, .int b1] n h (some (.int r.1)) n r.2) {r : Int32 × Hp} (hf : F_X7_readTest g_X7_readOr h a0 a1 = some r) : Ev d yX7_readTest cX7_readTest 7 (some .boolean) [.ref a0, .int a1] n h (some (.int r.1)) n r.2 := by
  refine Ev_of RX7 rfl (by decide) (Nat.le_of_ble_eq_true rfl) (Nat.le_refl _) (Or.inl rfl) (fun Z hZ hF hN hI => ?_)
  have H : Ok (F_X7_readTest g_X7_readOr h a0 a1) (fun y => y = r) := ⟨_, hf, rfl⟩
  unfold F_X7_readTest at H
  refine r_ls (ls' := [(0, .ref a0), (1, .int a1)]) rfl ?_
  refine r_iconst (v := (J 1)) hZ dX7_readTest_0 (by decide) ?_
  obtain ⟨x1, ex1, H⟩ := ok_bind H
  refine r_topi ex1 ?_
  refine r_istore_n hZ dX7_readTest_1 (by decide) (r_pick [0, 1, 2] (ls' := [(0, .ref a0), (1, .int a1), (2, .int x1)]) rfl ?_)
  refine r_iconst (v := (J 0)) hZ dX7_readTest_2 (by decide) ?_
  obtain ⟨x2, ex2, H⟩ := ok_bind H
  refine r_topi ex2 ?_
  refine r_istore_n hZ dX7_readTest_3 (by decide) (r_pick [0, 1, 2, 3] (ls' := [(0, .ref a0), (1, .int a1), (2, .int x1), (3, .int x2)]) rfl ?_)
  have H := ok_bindK H
  refine r_pick [0, 1, 2, 3] (ls' := [(0, .ref a0), (1, .int a1), (2, .int x1), (3, .int x2)]) rfl (l_X7_readTest_4 hd9 hd_X7_readOr hZ hg_X7_readOr (fun e3 H => ?_) FU _ H)
  · refine r_iload_n hZ dX7_readTest_35 rfl ?_
    refine r_bipush (v := (J 8)) hZ dX7_readTest_36 (by decide) ?_
    refine ok_join (Q := fun j4 : Int32 × Hp => R Z 168 [(2, .int e3.1), (3, .int j4.1)] [] n j4.2 0) H (fun j4 H => ?_) (fun H => ?_)
    · refine r_iload_n hZ dX7_readTest_168 rfl ?_
      refine r_iload_n hZ dX7_readTest_169 rfl ?_
      refine ok_join (Q := fun j47 : Int32 => R Z 178 [] [.int j47] n j4.2 0) H (fun j47 H => ?_) (fun H => ?_)
      · obtain ⟨u49, eu49, H⟩ := ok_bind H
        have H := ok_some H
        subst H
        exact r_zret hZ hF eu49 dX7_readTest_178
      · refine r_icmp_ne (tgt := 177) hZ dX7_readTest_170 (by decide) (fun c48 => ?_) (fun c48 => ?_)
        · have H := ok_f H c48
          refine r_iconst (v := (J 0)) hZ dX7_readTest_177 (by decide) ?_
          have H := ok_some H
          exact r_pick [] (ls' := []) rfl H
        · have H := ok_t H c48
          refine r_iconst (v := (J 1)) hZ dX7_readTest_173 (by decide) ?_
          refine r_goto (tgt := 178) hZ dX7_readTest_174 (by decide) ?_
          have H := ok_some H
          exact r_pick [] (ls' := []) rfl H
    · refine r_icmp_ge (tgt := 67) hZ dX7_readTest_38 (by decide) (fun c46 => ?_) (fun c46 => ?_)
      · have H := ok_t H c46
        refine r_aload_n hZ dX7_readTest_67 rfl ?_
        obtain ⟨u5, eu5, H⟩ := ok_bind H
        obtain ⟨r6, er6, H⟩ := ok_bind H
        refine r_callV (As := []) (rest := []) (st1 := [.int r6.1]) (N2 := 0) hZ dX7_readTest_68 cw_X7_46_X7 rfl eu5 (s_X7_readSum er6) rfl rfl (by omega) (Nat.le_of_ble_eq_true rfl) (Nat.le_refl 0) (Nat.le_refl _) (Or.inl rfl) rfl ?_
        refine r_istore hZ dX7_readTest_71 (by decide) (r_pick [0, 2, 4] (ls' := [(0, .ref a0), (2, .int e3.1), (4, .int r6.1)]) rfl ?_)
        refine r_aload_n hZ dX7_readTest_73 rfl ?_
        obtain ⟨u7, eu7, H⟩ := ok_bind H
        obtain ⟨r8, er8, H⟩ := ok_bind H
        refine r_callU (As := []) (rest := []) (st1 := [.int r8]) (N2 := 0) hZ dX7_readTest_74 cw_X7_50_X7 rfl eu7 (s_X4_coming_6 er8) rfl rfl (by omega) (Nat.le_of_ble_eq_true rfl) (Nat.le_refl 0) (Nat.le_refl _) (Or.inl rfl) rfl ?_
        refine r_istore hZ dX7_readTest_77 (by decide) (r_pick [0, 2, 4, 5] (ls' := [(0, .ref a0), (2, .int e3.1), (4, .int r6.1), (5, .int r8)]) rfl ?_)
        refine r_aload_n hZ dX7_readTest_79 rfl ?_
        refine r_iload hZ dX7_readTest_80 rfl ?_
        refine r_bipush (v := (J 60)) hZ dX7_readTest_82 (by decide) ?_
        refine ok_join (Q := fun j9 : Int32 => R Z 102 [(0, .ref a0), (2, .int e3.1), (4, .int r6.1), (5, .int r8)] [.int j9, .ref a0] n r6.2 0) H (fun j9 H => ?_) (fun H => ?_)
        · obtain ⟨u12, eu12, H⟩ := ok_bind H
          obtain ⟨r13, er13, H⟩ := ok_bind H
          refine r_callU (As := [.int j9]) (rest := []) (st1 := []) (N2 := 0) hZ dX7_readTest_102 cw_X7_42_X7 rfl eu12 (s_X4_takeOrStop_6 er13) rfl rfl (by omega) (Nat.le_of_ble_eq_true rfl) (Nat.le_refl 0) (Nat.le_refl _) (Or.inl rfl) rfl ?_
          refine r_aload_n hZ dX7_readTest_105 rfl ?_
          obtain ⟨u14, eu14, H⟩ := ok_bind H
          obtain ⟨r15, er15, H⟩ := ok_bind H
          refine r_callV (As := []) (rest := []) (st1 := [.int r15.1]) (N2 := 0) hZ dX7_readTest_106 cw_X7_46_X7 rfl eu14 (s_X7_readSum er15) rfl rfl (by omega) (Nat.le_of_ble_eq_true rfl) (Nat.le_refl 0) (Nat.le_refl _) (Or.inl rfl) rfl ?_
          refine r_istore hZ dX7_readTest_109 (by decide) (r_pick [2, 4, 5, 6] (ls' := [(2, .int e3.1), (4, .int r6.1), (5, .int r8), (6, .int r15.1)]) rfl ?_)
          refine r_iload hZ dX7_readTest_111 rfl ?_
          refine r_bipush (v := (J 60)) hZ dX7_readTest_113 (by decide) ?_
          refine ok_join (Q := fun j16 : Int32 => R Z 167 [(2, .int e3.1)] [.int j16] n r15.2 0) H (fun j16 H => ?_) (fun H => ?_)
          · refine r_istore_n hZ dX7_readTest_167 (by decide) (r_pick [2, 3] (ls' := [(2, .int e3.1), (3, .int j16)]) rfl ?_)
            have H := ok_some H
            exact r_pick [2, 3] (ls' := [(2, .int e3.1), (3, .int j16)]) rfl H
          · refine r_icmp_ne (tgt := 133) hZ dX7_readTest_115 (by decide) (fun c21 => ?_) (fun c21 => ?_)
            · have H := ok_f H c21
              refine r_iload hZ dX7_readTest_133 rfl ?_
              refine r_bipush (v := (J 62)) hZ dX7_readTest_135 (by decide) ?_
              refine r_icmp_ne (tgt := 155) hZ dX7_readTest_137 (by decide) (fun c19 => ?_) (fun c19 => ?_)
              · have H := ok_f H c19
                refine r_iload hZ dX7_readTest_155 rfl ?_
                refine r_iload hZ dX7_readTest_157 rfl ?_
                refine r_icmp_ne (tgt := 166) hZ dX7_readTest_159 (by decide) (fun c17 => ?_) (fun c17 => ?_)
                · have H := ok_f H c17
                  refine r_iconst (v := (J 0)) hZ dX7_readTest_166 (by decide) ?_
                  have H := ok_some H
                  exact r_pick [2] (ls' := [(2, .int e3.1)]) rfl H
                · have H := ok_t H c17
                  refine r_iconst (v := (J 1)) hZ dX7_readTest_162 (by decide) ?_
                  refine r_goto (tgt := 167) hZ dX7_readTest_163 (by decide) ?_
                  have H := ok_some H
                  exact r_pick [2] (ls' := [(2, .int e3.1)]) rfl H
              · have H := ok_t H c19
                refine r_iload hZ dX7_readTest_140 rfl ?_
                refine r_iload hZ dX7_readTest_142 rfl ?_
                refine r_icmp_le (tgt := 151) hZ dX7_readTest_144 (by decide) (fun c18 => ?_) (fun c18 => ?_)
                · have H := ok_t H c18
                  refine r_iconst (v := (J 0)) hZ dX7_readTest_151 (by decide) ?_
                  refine r_goto (tgt := 167) hZ dX7_readTest_152 (by decide) ?_
                  have H := ok_some H
                  exact r_pick [2] (ls' := [(2, .int e3.1)]) rfl H
                · have H := ok_f H c18
                  refine r_iconst (v := (J 1)) hZ dX7_readTest_147 (by decide) ?_
                  refine r_goto (tgt := 167) hZ dX7_readTest_148 (by decide) ?_
                  have H := ok_some H
                  exact r_pick [2] (ls' := [(2, .int e3.1)]) rfl H
            · have H := ok_t H c21
              refine r_iload hZ dX7_readTest_118 rfl ?_
              refine r_iload hZ dX7_readTest_120 rfl ?_
              refine r_icmp_ge (tgt := 129) hZ dX7_readTest_122 (by decide) (fun c20 => ?_) (fun c20 => ?_)
              · have H := ok_t H c20
                refine r_iconst (v := (J 0)) hZ dX7_readTest_129 (by decide) ?_
                refine r_goto (tgt := 167) hZ dX7_readTest_130 (by decide) ?_
                have H := ok_some H
                exact r_pick [2] (ls' := [(2, .int e3.1)]) rfl H
              · have H := ok_f H c20
                refine r_iconst (v := (J 1)) hZ dX7_readTest_125 (by decide) ?_
                refine r_goto (tgt := 167) hZ dX7_readTest_126 (by decide) ?_
                have H := ok_some H
                exact r_pick [2] (ls' := [(2, .int e3.1)]) rfl H
        · refine r_icmp_eq (tgt := 94) hZ dX7_readTest_84 (by decide) (fun c11 => ?_) (fun c11 => ?_)
          · have H := ok_t H c11
            refine r_iload hZ dX7_readTest_94 rfl ?_
            refine r_i2c hZ dX7_readTest_96 ?_
            refine r_goto (tgt := 102) hZ dX7_readTest_97 (by decide) ?_
            have H := ok_some H
            exact r_pick [0, 2, 4, 5] (ls' := [(0, .ref a0), (2, .int e3.1), (4, .int r6.1), (5, .int r8)]) rfl H
          · have H := ok_f H c11
            refine r_iload hZ dX7_readTest_87 rfl ?_
            refine r_bipush (v := (J 62)) hZ dX7_readTest_89 (by decide) ?_
            refine r_icmp_ne (tgt := 100) hZ dX7_readTest_91 (by decide) (fun c10 => ?_) (fun c10 => ?_)
            · have H := ok_f H c10
              refine r_bipush (v := (J 61)) hZ dX7_readTest_100 (by decide) ?_
              have H := ok_some H
              exact r_pick [0, 2, 4, 5] (ls' := [(0, .ref a0), (2, .int e3.1), (4, .int r6.1), (5, .int r8)]) rfl H
            · have H := ok_t H c10
              refine r_iload hZ dX7_readTest_94 rfl ?_
              refine r_i2c hZ dX7_readTest_96 ?_
              refine r_goto (tgt := 102) hZ dX7_readTest_97 (by decide) ?_
              have H := ok_some H
              exact r_pick [0, 2, 4, 5] (ls' := [(0, .ref a0), (2, .int e3.1), (4, .int r6.1), (5, .int r8)]) rfl H
      · have H := ok_f H c46
        refine r_aload_n hZ dX7_readTest_41 rfl ?_
        refine r_bipush (v := (J 40)) hZ dX7_readTest_42 (by decide) ?_
        obtain ⟨u22, eu22, H⟩ := ok_bind H
        obtain ⟨r23, er23, H⟩ := ok_bind H
        refine r_callU (As := [.int (J 40)]) (rest := []) (st1 := [.int r23.1]) (N2 := 0) hZ dX7_readTest_44 cw_X7_38_X7 rfl eu22 (s_X4_takes_6 er23) rfl rfl (by omega) (Nat.le_of_ble_eq_true rfl) (Nat.le_refl 0) (Nat.le_refl _) (Or.inl rfl) rfl ?_
        refine r_if_eq (tgt := 67) hZ dX7_readTest_47 (by decide) (fun c45 => ?_) (fun c45 => ?_)
        · have H := ok_t H c45
          refine r_aload_n hZ dX7_readTest_67 rfl ?_
          obtain ⟨u24, eu24, H⟩ := ok_bind H
          obtain ⟨r25, er25, H⟩ := ok_bind H
          refine r_callV (As := []) (rest := []) (st1 := [.int r25.1]) (N2 := 0) hZ dX7_readTest_68 cw_X7_46_X7 rfl eu24 (s_X7_readSum er25) rfl rfl (by omega) (Nat.le_of_ble_eq_true rfl) (Nat.le_refl 0) (Nat.le_refl _) (Or.inl rfl) rfl ?_
          refine r_istore hZ dX7_readTest_71 (by decide) (r_pick [0, 2, 4] (ls' := [(0, .ref a0), (2, .int e3.1), (4, .int r25.1)]) rfl ?_)
          refine r_aload_n hZ dX7_readTest_73 rfl ?_
          obtain ⟨u26, eu26, H⟩ := ok_bind H
          obtain ⟨r27, er27, H⟩ := ok_bind H
          refine r_callU (As := []) (rest := []) (st1 := [.int r27]) (N2 := 0) hZ dX7_readTest_74 cw_X7_50_X7 rfl eu26 (s_X4_coming_6 er27) rfl rfl (by omega) (Nat.le_of_ble_eq_true rfl) (Nat.le_refl 0) (Nat.le_refl _) (Or.inl rfl) rfl ?_
          refine r_istore hZ dX7_readTest_77 (by decide) (r_pick [0, 2, 4, 5] (ls' := [(0, .ref a0), (2, .int e3.1), (4, .int r25.1), (5, .int r27)]) rfl ?_)
          refine r_aload_n hZ dX7_readTest_79 rfl ?_
          refine r_iload hZ dX7_readTest_80 rfl ?_
          refine r_bipush (v := (J 60)) hZ dX7_readTest_82 (by decide) ?_
          refine ok_join (Q := fun j28 : Int32 => R Z 102 [(0, .ref a0), (2, .int e3.1), (4, .int r25.1), (5, .int r27)] [.int j28, .ref a0] n r25.2 0) H (fun j28 H => ?_) (fun H => ?_)
          · obtain ⟨u31, eu31, H⟩ := ok_bind H
            obtain ⟨r32, er32, H⟩ := ok_bind H
            refine r_callU (As := [.int j28]) (rest := []) (st1 := []) (N2 := 0) hZ dX7_readTest_102 cw_X7_42_X7 rfl eu31 (s_X4_takeOrStop_6 er32) rfl rfl (by omega) (Nat.le_of_ble_eq_true rfl) (Nat.le_refl 0) (Nat.le_refl _) (Or.inl rfl) rfl ?_
            refine r_aload_n hZ dX7_readTest_105 rfl ?_
            obtain ⟨u33, eu33, H⟩ := ok_bind H
            obtain ⟨r34, er34, H⟩ := ok_bind H
            refine r_callV (As := []) (rest := []) (st1 := [.int r34.1]) (N2 := 0) hZ dX7_readTest_106 cw_X7_46_X7 rfl eu33 (s_X7_readSum er34) rfl rfl (by omega) (Nat.le_of_ble_eq_true rfl) (Nat.le_refl 0) (Nat.le_refl _) (Or.inl rfl) rfl ?_
            refine r_istore hZ dX7_readTest_109 (by decide) (r_pick [2, 4, 5, 6] (ls' := [(2, .int e3.1), (4, .int r25.1), (5, .int r27), (6, .int r34.1)]) rfl ?_)
            refine r_iload hZ dX7_readTest_111 rfl ?_
            refine r_bipush (v := (J 60)) hZ dX7_readTest_113 (by decide) ?_
            refine ok_join (Q := fun j35 : Int32 => R Z 167 [(2, .int e3.1)] [.int j35] n r34.2 0) H (fun j35 H => ?_) (fun H => ?_)
            · refine r_istore_n hZ dX7_readTest_167 (by decide) (r_pick [2, 3] (ls' := [(2, .int e3.1), (3, .int j35)]) rfl ?_)
              have H := ok_some H
              exact r_pick [2, 3] (ls' := [(2, .int e3.1), (3, .int j35)]) rfl H
            · refine r_icmp_ne (tgt := 133) hZ dX7_readTest_115 (by decide) (fun c40 => ?_) (fun c40 => ?_)
              · have H := ok_f H c40
                refine r_iload hZ dX7_readTest_133 rfl ?_
                refine r_bipush (v := (J 62)) hZ dX7_readTest_135 (by decide) ?_
                refine r_icmp_ne (tgt := 155) hZ dX7_readTest_137 (by decide) (fun c38 => ?_) (fun c38 => ?_)
                · have H := ok_f H c38
                  refine r_iload hZ dX7_readTest_155 rfl ?_
                  refine r_iload hZ dX7_readTest_157 rfl ?_
                  refine r_icmp_ne (tgt := 166) hZ dX7_readTest_159 (by decide) (fun c36 => ?_) (fun c36 => ?_)
                  · have H := ok_f H c36
                    refine r_iconst (v := (J 0)) hZ dX7_readTest_166 (by decide) ?_
                    have H := ok_some H
                    exact r_pick [2] (ls' := [(2, .int e3.1)]) rfl H
                  · have H := ok_t H c36
                    refine r_iconst (v := (J 1)) hZ dX7_readTest_162 (by decide) ?_
                    refine r_goto (tgt := 167) hZ dX7_readTest_163 (by decide) ?_
                    have H := ok_some H
                    exact r_pick [2] (ls' := [(2, .int e3.1)]) rfl H
                · have H := ok_t H c38
                  refine r_iload hZ dX7_readTest_140 rfl ?_
                  refine r_iload hZ dX7_readTest_142 rfl ?_
                  refine r_icmp_le (tgt := 151) hZ dX7_readTest_144 (by decide) (fun c37 => ?_) (fun c37 => ?_)
                  · have H := ok_t H c37
                    refine r_iconst (v := (J 0)) hZ dX7_readTest_151 (by decide) ?_
                    refine r_goto (tgt := 167) hZ dX7_readTest_152 (by decide) ?_
                    have H := ok_some H
                    exact r_pick [2] (ls' := [(2, .int e3.1)]) rfl H
                  · have H := ok_f H c37
                    refine r_iconst (v := (J 1)) hZ dX7_readTest_147 (by decide) ?_
                    refine r_goto (tgt := 167) hZ dX7_readTest_148 (by decide) ?_
                    have H := ok_some H
                    exact r_pick [2] (ls' := [(2, .int e3.1)]) rfl H
              · have H := ok_t H c40
                refine r_iload hZ dX7_readTest_118 rfl ?_
                refine r_iload hZ dX7_readTest_120 rfl ?_
                refine r_icmp_ge (tgt := 129) hZ dX7_readTest_122 (by decide) (fun c39 => ?_) (fun c39 => ?_)
                · have H := ok_t H c39
                  refine r_iconst (v := (J 0)) hZ dX7_readTest_129 (by decide) ?_
                  refine r_goto (tgt := 167) hZ dX7_readTest_130 (by decide) ?_
                  have H := ok_some H
                  exact r_pick [2] (ls' := [(2, .int e3.1)]) rfl H
                · have H := ok_f H c39
                  refine r_iconst (v := (J 1)) hZ dX7_readTest_125 (by decide) ?_
                  refine r_goto (tgt := 167) hZ dX7_readTest_126 (by decide) ?_
                  have H := ok_some H
                  exact r_pick [2] (ls' := [(2, .int e3.1)]) rfl H
          · refine r_icmp_eq (tgt := 94) hZ dX7_readTest_84 (by decide) (fun c30 => ?_) (fun c30 => ?_)
            · have H := ok_t H c30
              refine r_iload hZ dX7_readTest_94 rfl ?_
              refine r_i2c hZ dX7_readTest_96 ?_
              refine r_goto (tgt := 102) hZ dX7_readTest_97 (by decide) ?_
              have H := ok_some H
              exact r_pick [0, 2, 4, 5] (ls' := [(0, .ref a0), (2, .int e3.1), (4, .int r25.1), (5, .int r27)]) rfl H
            · have H := ok_f H c30
              refine r_iload hZ dX7_readTest_87 rfl ?_
              refine r_bipush (v := (J 62)) hZ dX7_readTest_89 (by decide) ?_
              refine r_icmp_ne (tgt := 100) hZ dX7_readTest_91 (by decide) (fun c29 => ?_) (fun c29 => ?_)
              · have H := ok_f H c29
                refine r_bipush (v := (J 61)) hZ dX7_readTest_100 (by decide) ?_
                have H := ok_some H
                exact r_pick [0, 2, 4, 5] (ls' := [(0, .ref a0), (2, .int e3.1), (4, .int r25.1), (5, .int r27)]) rfl H
              · have H := ok_t H c29
                refine r_iload hZ dX7_readTest_94 rfl ?_
                refine r_i2c hZ dX7_readTest_96 ?_
                refine r_goto (tgt := 102) hZ dX7_readTest_97 (by decide) ?_
                have H := ok_some H
                exact r_pick [0, 2, 4, 5] (ls' := [(0, .ref a0), (2, .int e3.1), (4, .int r25.1), (5, .int r27)]) rfl H
        · have H := ok_f H c45
          refine r_aload_n hZ dX7_readTest_50 rfl ?_
          refine r_iload_n hZ dX7_readTest_51 rfl ?_
          refine r_iconst (v := (J 1)) hZ dX7_readTest_52 (by decide) ?_
          refine r_iadd hZ dX7_readTest_53 ?_
          obtain ⟨u41, eu41, H⟩ := ok_bind H
          obtain ⟨r42, er42, H⟩ := ok_bind H
          refine r_callV (As := [.int (a1 + (J 1))]) (rest := []) (st1 := [.int r42.1]) (N2 := 0) hZ dX7_readTest_54 cw_X7_19_X7 rfl eu41 (hg_X7_readOr er42) rfl rfl (by omega) (Nat.le_of_ble_eq_true rfl) (Nat.le_refl 0) (Nat.le_refl _) (Or.inl rfl) rfl ?_
          refine r_istore_n hZ dX7_readTest_57 (by decide) (r_pick [0, 2, 3] (ls' := [(0, .ref a0), (2, .int e3.1), (3, .int r42.1)]) rfl ?_)
          refine r_aload_n hZ dX7_readTest_58 rfl ?_
          refine r_bipush (v := (J 41)) hZ dX7_readTest_59 (by decide) ?_
          obtain ⟨u43, eu43, H⟩ := ok_bind H
          obtain ⟨r44, er44, H⟩ := ok_bind H
          refine r_callU (As := [.int (J 41)]) (rest := []) (st1 := []) (N2 := 0) hZ dX7_readTest_61 cw_X7_42_X7 rfl eu43 (s_X4_takeOrStop_6 er44) rfl rfl (by omega) (Nat.le_of_ble_eq_true rfl) (Nat.le_refl 0) (Nat.le_refl _) (Or.inl rfl) rfl ?_
          refine r_goto (tgt := 168) hZ dX7_readTest_64 (by decide) ?_
          have H := ok_some H
          exact r_pick [2, 3] (ls' := [(2, .int e3.1), (3, .int r42.1)]) rfl H
def b_X7_readOr_7 (g_X7_readTest : Hp → Nat → Int32 → Option (Int32 × Hp)) (p0 : Nat) (p1 : Int32) (s : Int32 × Int32 × Int32 × Hp) : Option ((Int32 × Int32 × Int32 × Hp) ⊕ ((Int32 × Hp) ⊕ (Int32 × Hp))) :=
  (if (J 120) ≤ s.2.2.1 then
    some (.inr (.inl (s.1, s.2.2.2)))
  else
    (isO s.2.2.2 p0 6).bind fun u1 =>
    (g_X7_readTest s.2.2.2 p0 p1).bind fun r2 =>
    ((if r2.1 = 0 then
      some (J 0)
    else
      (if s.2.1 = 0 then
        some (J 0)
      else
        some (J 1)))).bind fun (j3 : Int32) =>
    (isO r2.2 p0 6).bind fun u6 =>
    (f_X4_takes_6 r2.2 p0 (J 38)).bind fun r7 =>
    (if r7.1 = 0 then
      ((if s.1 = 0 then
        (if j3 = 0 then
          some (J 0)
        else
          some (J 1))
      else
        some (J 1))).bind fun (j9 : Int32) =>
      (some (J 1)).bind fun x12 =>
      (isO r7.2 p0 6).bind fun u13 =>
      (f_X4_takes_6 r7.2 p0 (J 124)).bind fun r14 =>
      (if r14.1 = 0 then
        some (.inr (.inr (j9, r14.2)))
      else
        (some (s.2.2.1 + (J 1))).bind fun x15 =>
        some (.inl (j9, x12, x15, r14.2)))
    else
      (some (s.2.2.1 + (J 1))).bind fun x8 =>
      some (.inl (s.1, j3, x8, r7.2))))
set_option maxRecDepth 100000 in
set_option maxHeartbeats 4000000 in
theorem l_X7_readOr_7 {Z : Zc} {d : Nat} (hd9 : 3 < d) {dr_X7_readTest : Nat} (hd_X7_readTest : dr_X7_readTest < d) {g_X7_readTest : Hp → Nat → Int32 → Option (Int32 × Hp)} (hZ : Fx cX7_readOr RX7 5 d 0 Z) {n : Nat} {p0 : Nat} {p1 : Int32} {P : ((Int32 × Hp) ⊕ (Int32 × Hp)) → Prop} (hg_X7_readTest : ∀ {n : Nat} {h : Hp} {b0 : Nat} {b1 : Int32} {r : _}, g_X7_readTest h b0 b1 = some r → Ev dr_X7_readTest yX7_readTest cX7_readTest 7 (some .boolean) [.ref b0, .int b1] n h (some (.int r.1)) n r.2) (hx0 : ∀ e : Int32 × Hp, P (.inl e) → R Z 75 [(2, .int e.1)] [] n e.2 0) (hx1 : ∀ e : Int32 × Hp, P (.inr e) → R Z 66 [(2, .int e.1)] [] n e.2 0) : ∀ (m : Nat) (s : Int32 × Int32 × Int32 × Hp), Ok (iter (b_X7_readOr_7 g_X7_readTest p0 p1) m s) P → R Z 7 [(0, .ref p0), (1, .int p1), (2, .int s.1), (3, .int s.2.1), (4, .int s.2.2.1)] [] n s.2.2.2 0 := by
  intro m
  induction m with
  | zero => exact fun s H => ok_iter0 H
  | succ m ih =>
    intro s H
    have H := ok_iter H
    unfold b_X7_readOr_7 at H
    refine r_iload hZ dX7_readOr_7 rfl ?_
    refine r_bipush (v := (J 120)) hZ dX7_readOr_9 (by decide) ?_
    refine r_icmp_ge (tgt := 75) hZ dX7_readOr_11 (by decide) (fun c18 => ?_) (fun c18 => ?_)
    · have H := ok_t H c18
      exact r_pick [2] (ls' := [(2, .int s.1)]) rfl (hx0 _ (ki_r H))
    · have H := ok_f H c18
      refine r_aload_n hZ dX7_readOr_14 rfl ?_
      refine r_iload_n hZ dX7_readOr_15 rfl ?_
      obtain ⟨u1, eu1, H⟩ := ok_bind H
      obtain ⟨r2, er2, H⟩ := ok_bind H
      refine r_callV (As := [.int p1]) (rest := []) (st1 := [.int r2.1]) (N2 := 0) hZ dX7_readOr_16 cw_X7_35_X7 rfl eu1 (hg_X7_readTest er2) rfl rfl (by omega) (Nat.le_of_ble_eq_true rfl) (Nat.le_refl 0) (Nat.le_refl _) (Or.inl rfl) rfl ?_
      refine ok_join (Q := fun j3 : Int32 => R Z 31 [(0, .ref p0), (1, .int p1), (2, .int s.1), (4, .int s.2.2.1)] [.int j3] n r2.2 0) H (fun j3 H => ?_) (fun H => ?_)
      · refine r_istore_n hZ dX7_readOr_31 (by decide) (r_pick [0, 1, 2, 3, 4] (ls' := [(0, .ref p0), (1, .int p1), (2, .int s.1), (3, .int j3), (4, .int s.2.2.1)]) rfl ?_)
        refine r_aload_n hZ dX7_readOr_32 rfl ?_
        refine r_bipush (v := (J 38)) hZ dX7_readOr_33 (by decide) ?_
        obtain ⟨u6, eu6, H⟩ := ok_bind H
        obtain ⟨r7, er7, H⟩ := ok_bind H
        refine r_callU (As := [.int (J 38)]) (rest := []) (st1 := [.int r7.1]) (N2 := 0) hZ dX7_readOr_35 cw_X7_38_X7 rfl eu6 (s_X4_takes_6 er7) rfl rfl (by omega) (Nat.le_of_ble_eq_true rfl) (Nat.le_refl 0) (Nat.le_refl _) (Or.inl rfl) rfl ?_
        refine r_if_ne (tgt := 69) hZ dX7_readOr_38 (by decide) (fun c17 => ?_) (fun c17 => ?_)
        · have H := ok_f H c17
          obtain ⟨x8, ex8, H⟩ := ok_bind H
          refine r_iincE (w := (J 1)) hZ dX7_readOr_69 (by decide) rfl (by decide) ex8 (r_pick [0, 1, 2, 3, 4] (ls' := [(0, .ref p0), (1, .int p1), (2, .int s.1), (3, .int j3), (4, .int x8)]) rfl ?_)
          refine r_goto (tgt := 7) hZ dX7_readOr_72 (by decide) ?_
          exact r_pick [0, 1, 2, 3, 4] (ls' := [(0, .ref p0), (1, .int p1), (2, .int s.1), (3, .int j3), (4, .int x8)]) rfl (ih _ (ki_l H))
        · have H := ok_t H c17
          refine r_iload_n hZ dX7_readOr_41 rfl ?_
          refine ok_join (Q := fun j9 : Int32 => R Z 54 [(0, .ref p0), (1, .int p1), (4, .int s.2.2.1)] [.int j9] n r7.2 0) H (fun j9 H => ?_) (fun H => ?_)
          · refine r_istore_n hZ dX7_readOr_54 (by decide) (r_pick [0, 1, 2, 4] (ls' := [(0, .ref p0), (1, .int p1), (2, .int j9), (4, .int s.2.2.1)]) rfl ?_)
            refine r_iconst (v := (J 1)) hZ dX7_readOr_55 (by decide) ?_
            obtain ⟨x12, ex12, H⟩ := ok_bind H
            refine r_topi ex12 ?_
            refine r_istore_n hZ dX7_readOr_56 (by decide) (r_pick [0, 1, 2, 3, 4] (ls' := [(0, .ref p0), (1, .int p1), (2, .int j9), (3, .int x12), (4, .int s.2.2.1)]) rfl ?_)
            refine r_aload_n hZ dX7_readOr_57 rfl ?_
            refine r_bipush (v := (J 124)) hZ dX7_readOr_58 (by decide) ?_
            obtain ⟨u13, eu13, H⟩ := ok_bind H
            obtain ⟨r14, er14, H⟩ := ok_bind H
            refine r_callU (As := [.int (J 124)]) (rest := []) (st1 := [.int r14.1]) (N2 := 0) hZ dX7_readOr_60 cw_X7_38_X7 rfl eu13 (s_X4_takes_6 er14) rfl rfl (by omega) (Nat.le_of_ble_eq_true rfl) (Nat.le_refl 0) (Nat.le_refl _) (Or.inl rfl) rfl ?_
            refine r_if_ne (tgt := 69) hZ dX7_readOr_63 (by decide) (fun c16 => ?_) (fun c16 => ?_)
            · have H := ok_f H c16
              obtain ⟨x15, ex15, H⟩ := ok_bind H
              refine r_iincE (w := (J 1)) hZ dX7_readOr_69 (by decide) rfl (by decide) ex15 (r_pick [0, 1, 2, 3, 4] (ls' := [(0, .ref p0), (1, .int p1), (2, .int j9), (3, .int x12), (4, .int x15)]) rfl ?_)
              refine r_goto (tgt := 7) hZ dX7_readOr_72 (by decide) ?_
              exact r_pick [0, 1, 2, 3, 4] (ls' := [(0, .ref p0), (1, .int p1), (2, .int j9), (3, .int x12), (4, .int x15)]) rfl (ih _ (ki_l H))
            · have H := ok_t H c16
              exact r_pick [2] (ls' := [(2, .int j9)]) rfl (hx1 _ (ki_r H))
          · refine r_if_ne (tgt := 49) hZ dX7_readOr_42 (by decide) (fun c11 => ?_) (fun c11 => ?_)
            · have H := ok_f H c11
              refine r_iconst (v := (J 1)) hZ dX7_readOr_49 (by decide) ?_
              refine r_goto (tgt := 54) hZ dX7_readOr_50 (by decide) ?_
              have H := ok_some H
              exact r_pick [0, 1, 4] (ls' := [(0, .ref p0), (1, .int p1), (4, .int s.2.2.1)]) rfl H
            · have H := ok_t H c11
              refine r_iload_n hZ dX7_readOr_45 rfl ?_
              refine r_if_eq (tgt := 53) hZ dX7_readOr_46 (by decide) (fun c10 => ?_) (fun c10 => ?_)
              · have H := ok_t H c10
                refine r_iconst (v := (J 0)) hZ dX7_readOr_53 (by decide) ?_
                have H := ok_some H
                exact r_pick [0, 1, 4] (ls' := [(0, .ref p0), (1, .int p1), (4, .int s.2.2.1)]) rfl H
              · have H := ok_f H c10
                refine r_iconst (v := (J 1)) hZ dX7_readOr_49 (by decide) ?_
                refine r_goto (tgt := 54) hZ dX7_readOr_50 (by decide) ?_
                have H := ok_some H
                exact r_pick [0, 1, 4] (ls' := [(0, .ref p0), (1, .int p1), (4, .int s.2.2.1)]) rfl H
      · refine r_if_eq (tgt := 30) hZ dX7_readOr_19 (by decide) (fun c5 => ?_) (fun c5 => ?_)
        · have H := ok_t H c5
          refine r_iconst (v := (J 0)) hZ dX7_readOr_30 (by decide) ?_
          have H := ok_some H
          exact r_pick [0, 1, 2, 4] (ls' := [(0, .ref p0), (1, .int p1), (2, .int s.1), (4, .int s.2.2.1)]) rfl H
        · have H := ok_f H c5
          refine r_iload_n hZ dX7_readOr_22 rfl ?_
          refine r_if_eq (tgt := 30) hZ dX7_readOr_23 (by decide) (fun c4 => ?_) (fun c4 => ?_)
          · have H := ok_t H c4
            refine r_iconst (v := (J 0)) hZ dX7_readOr_30 (by decide) ?_
            have H := ok_some H
            exact r_pick [0, 1, 2, 4] (ls' := [(0, .ref p0), (1, .int p1), (2, .int s.1), (4, .int s.2.2.1)]) rfl H
          · have H := ok_f H c4
            refine r_iconst (v := (J 1)) hZ dX7_readOr_26 (by decide) ?_
            refine r_goto (tgt := 31) hZ dX7_readOr_27 (by decide) ?_
            have H := ok_some H
            exact r_pick [0, 1, 2, 4] (ls' := [(0, .ref p0), (1, .int p1), (2, .int s.1), (4, .int s.2.2.1)]) rfl H
def F_X7_readOr (g_X7_readTest : Hp → Nat → Int32 → Option (Int32 × Hp)) (h : Hp) (a0 : Nat) (a1 : Int32) : Option (Int32 × Hp) :=
  (some (J 0)).bind fun x1 =>
  (some (J 1)).bind fun x2 =>
  (some (J 0)).bind fun x3 =>
  (iter (b_X7_readOr_7 g_X7_readTest a0 a1) FU (x1, x2, x3, h)).bind fun e4 =>
  (match e4 with
  | .inl e5 =>
    (bz e5.1).bind fun u6 =>
    some (e5.1, e5.2)
  | .inr e7 =>
    (bz e7.1).bind fun u8 =>
    some (e7.1, e7.2))
set_option maxRecDepth 100000 in
set_option maxHeartbeats 4000000 in
theorem sF_X7_readOr {d : Nat} (hd9 : 3 < d) {dr_X7_readTest : Nat} (hd_X7_readTest : dr_X7_readTest < d) {g_X7_readTest : Hp → Nat → Int32 → Option (Int32 × Hp)} {n : Nat} {h : Hp} {a0 : Nat} {a1 : Int32} (hg_X7_readTest : ∀ {n : Nat} {h : Hp} {b0 : Nat} {b1 : Int32} {r : _}, g_X7_readTest h b0 b1 = some r → Ev dr_X7_readTest yX7_readTest cX7_readTest 7 (some .boolean) [.ref b0, .int b1] n h (some (.int r.1)) n r.2) {r : Int32 × Hp} (hf : F_X7_readOr g_X7_readTest h a0 a1 = some r) : Ev d yX7_readOr cX7_readOr 5 (some .boolean) [.ref a0, .int a1] n h (some (.int r.1)) n r.2 := by
  refine Ev_of RX7 rfl (by decide) (Nat.le_of_ble_eq_true rfl) (Nat.le_refl _) (Or.inl rfl) (fun Z hZ hF hN hI => ?_)
  have H : Ok (F_X7_readOr g_X7_readTest h a0 a1) (fun y => y = r) := ⟨_, hf, rfl⟩
  unfold F_X7_readOr at H
  refine r_ls (ls' := [(0, .ref a0), (1, .int a1)]) rfl ?_
  refine r_iconst (v := (J 0)) hZ dX7_readOr_0 (by decide) ?_
  obtain ⟨x1, ex1, H⟩ := ok_bind H
  refine r_topi ex1 ?_
  refine r_istore_n hZ dX7_readOr_1 (by decide) (r_pick [0, 1, 2] (ls' := [(0, .ref a0), (1, .int a1), (2, .int x1)]) rfl ?_)
  refine r_iconst (v := (J 1)) hZ dX7_readOr_2 (by decide) ?_
  obtain ⟨x2, ex2, H⟩ := ok_bind H
  refine r_topi ex2 ?_
  refine r_istore_n hZ dX7_readOr_3 (by decide) (r_pick [0, 1, 2, 3] (ls' := [(0, .ref a0), (1, .int a1), (2, .int x1), (3, .int x2)]) rfl ?_)
  refine r_iconst (v := (J 0)) hZ dX7_readOr_4 (by decide) ?_
  obtain ⟨x3, ex3, H⟩ := ok_bind H
  refine r_topi ex3 ?_
  refine r_istore hZ dX7_readOr_5 (by decide) (r_pick [0, 1, 2, 3, 4] (ls' := [(0, .ref a0), (1, .int a1), (2, .int x1), (3, .int x2), (4, .int x3)]) rfl ?_)
  have H := ok_bindK H
  refine r_pick [0, 1, 2, 3, 4] (ls' := [(0, .ref a0), (1, .int a1), (2, .int x1), (3, .int x2), (4, .int x3)]) rfl (l_X7_readOr_7 hd9 hd_X7_readTest hZ hg_X7_readTest (fun e5 H => ?_) (fun e7 H => ?_) FU _ H)
  · refine r_iload_n hZ dX7_readOr_75 rfl ?_
    obtain ⟨u6, eu6, H⟩ := ok_bind H
    have H := ok_some H
    subst H
    exact r_zret hZ hF eu6 dX7_readOr_76
  · refine r_goto (tgt := 75) hZ dX7_readOr_66 (by decide) ?_
    refine r_iload_n hZ dX7_readOr_75 rfl ?_
    obtain ⟨u8, eu8, H⟩ := ok_bind H
    have H := ok_some H
    subst H
    exact r_zret hZ hF eu8 dX7_readOr_76
def f_X7_readOr : Nat → Hp → Nat → Int32 → Option (Int32 × Hp)
  | 0 => fun _ _ _ => none
  | D + 1 => F_X7_readOr (F_X7_readTest (f_X7_readOr D))
theorem s_X7_readOr : ∀ (D : Nat), ∀ {n : Nat} {h : Hp} {b0 : Nat} {b1 : Int32} {r : _}, f_X7_readOr D h b0 b1 = some r → Ev (6 + 2 * D) yX7_readOr cX7_readOr 5 (some .boolean) [.ref b0, .int b1] n h (some (.int r.1)) n r.2
  | 0 => fun hf => nomatch hf
  | D + 1 => fun hf => sF_X7_readOr (d := 6 + 2 * (D + 1)) (by omega) (dr_X7_readTest := 6 + 2 * D + 1) (by omega) (fun hf => sF_X7_readTest (d := 6 + 2 * D + 1) (by omega) (dr_X7_readOr := 6 + 2 * D) (by omega) (fun hf => s_X7_readOr D hf) hf) hf
def f_X7_readAll  (h : Hp) (a0 : Nat) (a1 : Nat) (a2 : Int32) : Option (Int32 × Hp) :=
  (isO h a0 6).bind fun u1 =>
  (f_X4_startOn_6 h a0 a1 a2).bind fun r2 =>
  (isO r2 a0 6).bind fun u3 =>
  (f_X7_readOr 10 r2 a0 (J 0)).bind fun r4 =>
  (gI r4.2 a0 6 3).bind fun x5 =>
  ((if x5 = 0 then
    (isO r4.2 a0 6).bind fun u7 =>
    (f_X4_isAtEnd_6 r4.2 a0).bind fun r8 =>
    (if r8 = 0 then
      some (J 1)
    else
      some (J 0))
  else
    some (J 1))).bind fun (j6 : Int32) =>
  (bz j6).bind fun u12 =>
  (pF r4.2 a0 6 3 (.int j6)).bind fun h11 =>
  (bz r4.1).bind fun u13 =>
  some (r4.1, h11)
set_option maxRecDepth 100000 in
set_option maxHeartbeats 4000000 in
theorem s_X7_readAll {n : Nat} {h : Hp} {a0 : Nat} {a1 : Nat} {a2 : Int32}  {r : Int32 × Hp} (hf : f_X7_readAll  h a0 a1 a2 = some r) : Ev 27 yX7_readAll cX7_readAll 4 (some .boolean) [.ref a0, .ref a1, .int a2] n h (some (.int r.1)) n r.2 := by
  refine Ev_of RX7 rfl (by decide) (Nat.le_of_ble_eq_true rfl) (Nat.le_refl _) (Or.inl rfl) (fun Z hZ hF hN hI => ?_)
  have H : Ok (f_X7_readAll  h a0 a1 a2) (fun y => y = r) := ⟨_, hf, rfl⟩
  unfold f_X7_readAll at H
  refine r_ls (ls' := [(0, .ref a0), (1, .ref a1), (2, .int a2)]) rfl ?_
  refine r_aload_n hZ dX7_readAll_0 rfl ?_
  refine r_aload_n hZ dX7_readAll_1 rfl ?_
  refine r_iload_n hZ dX7_readAll_2 rfl ?_
  obtain ⟨u1, eu1, H⟩ := ok_bind H
  obtain ⟨r2, er2, H⟩ := ok_bind H
  refine r_callU (As := [.ref a1, .int a2]) (rest := []) (st1 := []) (N2 := 0) hZ dX7_readAll_3 cw_X7_15_X7 rfl eu1 (s_X4_startOn_6 er2) rfl rfl (by decide) (Nat.le_of_ble_eq_true rfl) (Nat.le_refl 0) (Nat.le_refl _) (Or.inl rfl) rfl ?_
  refine r_aload_n hZ dX7_readAll_6 rfl ?_
  refine r_iconst (v := (J 0)) hZ dX7_readAll_7 (by decide) ?_
  obtain ⟨u3, eu3, H⟩ := ok_bind H
  obtain ⟨r4, er4, H⟩ := ok_bind H
  refine r_callV (As := [.int (J 0)]) (rest := []) (st1 := [.int r4.1]) (N2 := 0) hZ dX7_readAll_8 cw_X7_19_X7 rfl eu3 (s_X7_readOr 10 er4) rfl rfl (by decide) (Nat.le_of_ble_eq_true rfl) (Nat.le_refl 0) (Nat.le_refl _) (Or.inl rfl) rfl ?_
  refine r_istore_n hZ dX7_readAll_11 (by decide) (r_pick [0, 3] (ls' := [(0, .ref a0), (3, .int r4.1)]) rfl ?_)
  refine r_aload_n hZ dX7_readAll_12 rfl ?_
  refine r_aload_n hZ dX7_readAll_13 rfl ?_
  obtain ⟨x5, ex5, H⟩ := ok_bind H
  refine r_getI hZ fl_X7_23_6 dX7_readAll_14 ex5 ?_
  refine ok_join (Q := fun j6 : Int32 => R Z 32 [(3, .int r4.1)] [.int j6, .ref a0] n r4.2 0) H (fun j6 H => ?_) (fun H => ?_)
  · obtain ⟨u12, eu12, H⟩ := ok_bind H
    obtain ⟨h11, eh11, H⟩ := ok_bind H
    refine r_putf hZ fl_X7_23_6 dX7_readAll_32 eh11 (bz_nar eu12) (bz_fits eu12) ?_
    refine r_iload_n hZ dX7_readAll_35 rfl ?_
    obtain ⟨u13, eu13, H⟩ := ok_bind H
    have H := ok_some H
    subst H
    exact r_zret hZ hF eu13 dX7_readAll_36
  · refine r_if_ne (tgt := 27) hZ dX7_readAll_17 (by decide) (fun c10 => ?_) (fun c10 => ?_)
    · have H := ok_f H c10
      refine r_iconst (v := (J 1)) hZ dX7_readAll_27 (by decide) ?_
      refine r_goto (tgt := 32) hZ dX7_readAll_28 (by decide) ?_
      have H := ok_some H
      exact r_pick [3] (ls' := [(3, .int r4.1)]) rfl H
    · have H := ok_t H c10
      refine r_aload_n hZ dX7_readAll_20 rfl ?_
      obtain ⟨u7, eu7, H⟩ := ok_bind H
      obtain ⟨r8, er8, H⟩ := ok_bind H
      refine r_callU (As := []) (rest := [.ref a0]) (st1 := [.int r8, .ref a0]) (N2 := 0) hZ dX7_readAll_21 cw_X7_27_X7 rfl eu7 (s_X4_isAtEnd_6 er8) rfl rfl (by decide) (Nat.le_of_ble_eq_true rfl) (Nat.le_refl 0) (Nat.le_refl _) (Or.inl rfl) rfl ?_
      refine r_if_ne (tgt := 31) hZ dX7_readAll_24 (by decide) (fun c9 => ?_) (fun c9 => ?_)
      · have H := ok_f H c9
        refine r_iconst (v := (J 0)) hZ dX7_readAll_31 (by decide) ?_
        have H := ok_some H
        exact r_pick [3] (ls' := [(3, .int r4.1)]) rfl H
      · have H := ok_t H c9
        refine r_iconst (v := (J 1)) hZ dX7_readAll_27 (by decide) ?_
        refine r_goto (tgt := 32) hZ dX7_readAll_28 (by decide) ?_
        have H := ok_some H
        exact r_pick [3] (ls' := [(3, .int r4.1)]) rfl H
def f_X7_faultPlace  (h : Hp) (a0 : Nat) : Option (Int32) :=
  (gI h a0 6 3).bind fun x1 =>
  ((if x1 = 0 then
    some (J (-4))
  else
    (gI h a0 6 2).bind fun x3 =>
    some x3)).bind fun (j2 : Int32) =>
  some j2
set_option maxRecDepth 100000 in
set_option maxHeartbeats 4000000 in
theorem s_X7_faultPlace {n : Nat} {h : Hp} {a0 : Nat}  {r : Int32} (hf : f_X7_faultPlace  h a0 = some r) : Ev 2 yX7_faultPlace cX7_faultPlace 1 (some .int) [.ref a0] n h (some (.int r)) n h := by
  refine Ev_of RX7 rfl (by decide) (Nat.le_of_ble_eq_true rfl) (Nat.le_refl _) (Or.inl rfl) (fun Z hZ hF hN hI => ?_)
  have H : Ok (f_X7_faultPlace  h a0) (fun y => y = r) := ⟨_, hf, rfl⟩
  unfold f_X7_faultPlace at H
  refine r_ls (ls' := [(0, .ref a0)]) rfl ?_
  refine r_aload_n hZ dX7_faultPlace_0 rfl ?_
  obtain ⟨x1, ex1, H⟩ := ok_bind H
  refine r_getI hZ fl_X7_23_6 dX7_faultPlace_1 ex1 ?_
  refine ok_join (Q := fun j2 : Int32 => R Z 16 [] [.int j2] n h 0) H (fun j2 H => ?_) (fun H => ?_)
  · have H := ok_some H
    subst H
    exact r_iret hZ hF dX7_faultPlace_16
  · refine r_if_eq (tgt := 14) hZ dX7_faultPlace_4 (by decide) (fun c4 => ?_) (fun c4 => ?_)
    · have H := ok_t H c4
      refine r_bipush (v := (J (-4))) hZ dX7_faultPlace_14 (by decide) ?_
      have H := ok_some H
      exact r_pick [] (ls' := []) rfl H
    · have H := ok_f H c4
      refine r_aload_n hZ dX7_faultPlace_7 rfl ?_
      obtain ⟨x3, ex3, H⟩ := ok_bind H
      refine r_getI hZ fl_X7_31_6 dX7_faultPlace_8 ex3 ?_
      refine r_goto (tgt := 16) hZ dX7_faultPlace_11 (by decide) ?_
      have H := ok_some H
      exact r_pick [] (ls' := []) rfl H
