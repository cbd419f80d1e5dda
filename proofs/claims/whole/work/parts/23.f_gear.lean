def f_X0_init  (N2 n : Nat) (h : Hp) (a0 : Nat) : Option (Hp) :=
  (pF h a0 0 2 (.int (J 4))).bind fun h1 =>
  (cap (n + 1) N2).bind fun u2 =>
  (pF (va_up h1 n (some (0, .inr (16, .inl fun _ => 0)))) a0 0 4 (.ref n)).bind fun h3 =>
  (eqn (n + 1) N2).bind fun u4 =>
  some h3
set_option maxRecDepth 100000 in
set_option maxHeartbeats 4000000 in
theorem s_X0_init {n : Nat} {h : Hp} {a0 : Nat}  {r : Hp} {N2 : Nat} (hB : n ≤ N2 ∧ N2 ≤ BB) (hf : f_X0_init  N2 n h a0 = some r) : Ev 2 yX0_init cX0_init 1 none [.ref a0] n h none N2 r := by
  refine Ev_of RX0 rfl (by decide) (Nat.le_of_ble_eq_true rfl) hB.1 (Or.inr hB.2) (fun Z hZ hF hN hI => ?_)
  have hN := hN hB.2
  have hI := hI rfl
  have H : Ok (f_X0_init  N2 n h a0) (fun y => y = r) := ⟨_, hf, rfl⟩
  unfold f_X0_init at H
  refine r_ls (ls' := [(0, .ref a0)]) rfl ?_
  refine r_aload_n hZ dX0_init_0 rfl ?_
  refine r_objinit hZ wi_X0_5 wi_i wi_c dX0_init_1 (by decide) (Nat.le_of_ble_eq_true rfl) ?_
  refine r_aload_n hZ dX0_init_4 rfl ?_
  refine r_iconst (v := (J 4)) hZ dX0_init_5 (by decide) ?_
  obtain ⟨h1, eh1, H⟩ := ok_bind H
  refine r_putf hZ fl_X0_11_0 dX0_init_6 eh1 rfl rfl ?_
  refine r_aload_n hZ dX0_init_9 rfl ?_
  refine r_bipush (v := (J 16)) hZ dX0_init_10 (by decide) ?_
  obtain ⟨u2, eu2, H⟩ := ok_bind H
  refine r_newI (len := 16) hZ hN wa_int (by decide) (by decide) (by decide) dX0_init_12 (cap_le eu2) (Nat.le_refl 0) ?_
  obtain ⟨h3, eh3, H⟩ := ok_bind H
  refine r_putF hZ hI fl_X0_15_0 dX0_init_14 eh3 rfl rfl rfl ?_
  obtain ⟨u4, eu4, H⟩ := ok_bind H
  have H := ok_some H
  subst H
  have eu4 := eqn_eq eu4
  rw [eu4]
  exact r_ret hZ hF dX0_init_17
def f_X0_become  (h : Hp) (a0 : Nat) (a1 : Int32) (a2 : Int32) (a3 : Int32) (a4 : Int32) : Option (Hp) :=
  (pF h a0 0 0 (.int a1)).bind fun h1 =>
  (pF h1 a0 0 1 (.int a2)).bind fun h2 =>
  (pF h2 a0 0 2 (.int a3)).bind fun h3 =>
  (pF h3 a0 0 3 (.int a4)).bind fun h4 =>
  (gR h4 a0 0 4).bind fun x5 =>
  (f_J7_fill_53178 h4 x5 (J 31)).bind fun r6 =>
  some r6
set_option maxRecDepth 100000 in
set_option maxHeartbeats 4000000 in
theorem s_X0_become {n : Nat} {h : Hp} {a0 : Nat} {a1 : Int32} {a2 : Int32} {a3 : Int32} {a4 : Int32}  {r : Hp} (hf : f_X0_become  h a0 a1 a2 a3 a4 = some r) : Ev 3 yX0_become cX0_become 5 none [.ref a0, .int a1, .int a2, .int a3, .int a4] n h none n r := by
  refine Ev_of RX0 rfl (by decide) (Nat.le_of_ble_eq_true rfl) (Nat.le_refl _) (Or.inl rfl) (fun Z hZ hF hN hI => ?_)
  have H : Ok (f_X0_become  h a0 a1 a2 a3 a4) (fun y => y = r) := ⟨_, hf, rfl⟩
  unfold f_X0_become at H
  refine r_ls (ls' := [(0, .ref a0), (1, .int a1), (2, .int a2), (3, .int a3), (4, .int a4)]) rfl ?_
  refine r_aload_n hZ dX0_become_0 rfl ?_
  refine r_iload_n hZ dX0_become_1 rfl ?_
  obtain ⟨h1, eh1, H⟩ := ok_bind H
  refine r_putf hZ fl_X0_19_0 dX0_become_2 eh1 rfl rfl ?_
  refine r_aload_n hZ dX0_become_5 rfl ?_
  refine r_iload_n hZ dX0_become_6 rfl ?_
  obtain ⟨h2, eh2, H⟩ := ok_bind H
  refine r_putf hZ fl_X0_22_0 dX0_become_7 eh2 rfl rfl ?_
  refine r_aload_n hZ dX0_become_10 rfl ?_
  refine r_iload_n hZ dX0_become_11 rfl ?_
  obtain ⟨h3, eh3, H⟩ := ok_bind H
  refine r_putf hZ fl_X0_11_0 dX0_become_12 eh3 rfl rfl ?_
  refine r_aload_n hZ dX0_become_15 rfl ?_
  refine r_iload hZ dX0_become_16 rfl ?_
  obtain ⟨h4, eh4, H⟩ := ok_bind H
  refine r_putf hZ fl_X0_25_0 dX0_become_18 eh4 rfl rfl ?_
  refine r_aload_n hZ dX0_become_21 rfl ?_
  obtain ⟨x5, ex5, H⟩ := ok_bind H
  refine r_getR hZ fl_X0_15_0 dX0_become_22 ex5 ?_
  refine r_bipush (v := (J 31)) hZ dX0_become_25 (by decide) ?_
  obtain ⟨r6, er6, H⟩ := ok_bind H
  refine r_callS (As := [.ref x5, .int (J 31)]) (rest := []) (st1 := []) (N2 := 0) hZ dX0_become_27 cw_X0_28 (s_J7_fill_53178 er6) rfl rfl (by decide) (Nat.le_of_ble_eq_true rfl) (Nat.le_refl 0) (Nat.le_refl _) (Or.inl rfl) rfl ?_
  have H := ok_some H
  subst H
  exact r_ret hZ hF dX0_become_30
def f_X0_takeFrom  (h : Hp) (a0 : Nat) (a1 : Nat) : Option (Hp) :=
  (gI h a1 0 0).bind fun x1 =>
  (pF h a0 0 0 (.int x1)).bind fun h2 =>
  (gI h2 a1 0 1).bind fun x3 =>
  (pF h2 a0 0 1 (.int x3)).bind fun h4 =>
  (gI h4 a1 0 2).bind fun x5 =>
  (pF h4 a0 0 2 (.int x5)).bind fun h6 =>
  (gI h6 a1 0 3).bind fun x7 =>
  (pF h6 a0 0 3 (.int x7)).bind fun h8 =>
  (gR h8 a1 0 4).bind fun x9 =>
  (gR h8 a0 0 4).bind fun x10 =>
  (cpI h8 x9 (J 0) x10 (J 0) (J 16)).bind fun h11 =>
  some h11
set_option maxRecDepth 100000 in
set_option maxHeartbeats 4000000 in
theorem s_X0_takeFrom {n : Nat} {h : Hp} {a0 : Nat} {a1 : Nat}  {r : Hp} (hf : f_X0_takeFrom  h a0 a1 = some r) : Ev 2 yX0_takeFrom cX0_takeFrom 2 none [.ref a0, .ref a1] n h none n r := by
  refine Ev_of RX0 rfl (by decide) (Nat.le_of_ble_eq_true rfl) (Nat.le_refl _) (Or.inl rfl) (fun Z hZ hF hN hI => ?_)
  have H : Ok (f_X0_takeFrom  h a0 a1) (fun y => y = r) := ⟨_, hf, rfl⟩
  unfold f_X0_takeFrom at H
  refine r_ls (ls' := [(0, .ref a0), (1, .ref a1)]) rfl ?_
  refine r_aload_n hZ dX0_takeFrom_0 rfl ?_
  refine r_aload_n hZ dX0_takeFrom_1 rfl ?_
  obtain ⟨x1, ex1, H⟩ := ok_bind H
  refine r_getI hZ fl_X0_19_0 dX0_takeFrom_2 ex1 ?_
  obtain ⟨h2, eh2, H⟩ := ok_bind H
  refine r_putf hZ fl_X0_19_0 dX0_takeFrom_5 eh2 rfl rfl ?_
  refine r_aload_n hZ dX0_takeFrom_8 rfl ?_
  refine r_aload_n hZ dX0_takeFrom_9 rfl ?_
  obtain ⟨x3, ex3, H⟩ := ok_bind H
  refine r_getI hZ fl_X0_22_0 dX0_takeFrom_10 ex3 ?_
  obtain ⟨h4, eh4, H⟩ := ok_bind H
  refine r_putf hZ fl_X0_22_0 dX0_takeFrom_13 eh4 rfl rfl ?_
  refine r_aload_n hZ dX0_takeFrom_16 rfl ?_
  refine r_aload_n hZ dX0_takeFrom_17 rfl ?_
  obtain ⟨x5, ex5, H⟩ := ok_bind H
  refine r_getI hZ fl_X0_11_0 dX0_takeFrom_18 ex5 ?_
  obtain ⟨h6, eh6, H⟩ := ok_bind H
  refine r_putf hZ fl_X0_11_0 dX0_takeFrom_21 eh6 rfl rfl ?_
  refine r_aload_n hZ dX0_takeFrom_24 rfl ?_
  refine r_aload_n hZ dX0_takeFrom_25 rfl ?_
  obtain ⟨x7, ex7, H⟩ := ok_bind H
  refine r_getI hZ fl_X0_25_0 dX0_takeFrom_26 ex7 ?_
  obtain ⟨h8, eh8, H⟩ := ok_bind H
  refine r_putf hZ fl_X0_25_0 dX0_takeFrom_29 eh8 rfl rfl ?_
  refine r_aload_n hZ dX0_takeFrom_32 rfl ?_
  obtain ⟨x9, ex9, H⟩ := ok_bind H
  refine r_getR hZ fl_X0_15_0 dX0_takeFrom_33 ex9 ?_
  refine r_iconst (v := (J 0)) hZ dX0_takeFrom_36 (by decide) ?_
  refine r_aload_n hZ dX0_takeFrom_37 rfl ?_
  obtain ⟨x10, ex10, H⟩ := ok_bind H
  refine r_getR hZ fl_X0_15_0 dX0_takeFrom_38 ex10 ?_
  refine r_iconst (v := (J 0)) hZ dX0_takeFrom_41 (by decide) ?_
  refine r_bipush (v := (J 16)) hZ dX0_takeFrom_42 (by decide) ?_
  obtain ⟨h11, eh11, H⟩ := ok_bind H
  refine r_cpI hZ dX0_takeFrom_44 wC_X0_34 eh11 (by decide) (Nat.le_of_ble_eq_true rfl) ?_
  have H := ok_some H
  subst H
  exact r_ret hZ hF dX0_takeFrom_47
def f_X0_isRing  (h : Hp) (a0 : Nat) : Option (Int32) :=
  (gI h a0 0 1).bind fun x1 =>
  ((if x1 = (J 4) then
    some (J 1)
  else
    some (J 0))).bind fun (j2 : Int32) =>
  (bz j2).bind fun u4 =>
  some j2
set_option maxRecDepth 100000 in
set_option maxHeartbeats 4000000 in
theorem s_X0_isRing {n : Nat} {h : Hp} {a0 : Nat}  {r : Int32} (hf : f_X0_isRing  h a0 = some r) : Ev 2 yX0_isRing cX0_isRing 1 (some .boolean) [.ref a0] n h (some (.int r)) n h := by
  refine Ev_of RX0 rfl (by decide) (Nat.le_of_ble_eq_true rfl) (Nat.le_refl _) (Or.inl rfl) (fun Z hZ hF hN hI => ?_)
  have H : Ok (f_X0_isRing  h a0) (fun y => y = r) := ⟨_, hf, rfl⟩
  unfold f_X0_isRing at H
  refine r_ls (ls' := [(0, .ref a0)]) rfl ?_
  refine r_aload_n hZ dX0_isRing_0 rfl ?_
  obtain ⟨x1, ex1, H⟩ := ok_bind H
  refine r_getI hZ fl_X0_22_0 dX0_isRing_1 ex1 ?_
  refine r_iconst (v := (J 4)) hZ dX0_isRing_4 (by decide) ?_
  refine ok_join (Q := fun j2 : Int32 => R Z 13 [] [.int j2] n h 0) H (fun j2 H => ?_) (fun H => ?_)
  · obtain ⟨u4, eu4, H⟩ := ok_bind H
    have H := ok_some H
    subst H
    exact r_zret hZ hF eu4 dX0_isRing_13
  · refine r_icmp_ne (tgt := 12) hZ dX0_isRing_5 (by decide) (fun c3 => ?_) (fun c3 => ?_)
    · have H := ok_f H c3
      refine r_iconst (v := (J 0)) hZ dX0_isRing_12 (by decide) ?_
      have H := ok_some H
      exact r_pick [] (ls' := []) rfl H
    · have H := ok_t H c3
      refine r_iconst (v := (J 1)) hZ dX0_isRing_8 (by decide) ?_
      refine r_goto (tgt := 13) hZ dX0_isRing_9 (by decide) ?_
      have H := ok_some H
      exact r_pick [] (ls' := []) rfl H
def f_X0_hard  (h : Hp) (a0 : Nat) : Option (Int32) :=
  (isO h a0 0).bind fun u1 =>
  (f_X0_isRing h a0).bind fun r2 =>
  ((if r2 = 0 then
    (gI h a0 0 1).bind fun x4 =>
    (aS 0 x4).bind fun x5 =>
    some x5
  else
    (aS 0 (J 4)).bind fun x6 =>
    (gI h a0 0 2).bind fun x7 =>
    (nz (J 10)).bind fun u8 =>
    some (x6 + (x7 / (J 10))))).bind fun (j3 : Int32) =>
  some j3
set_option maxRecDepth 100000 in
set_option maxHeartbeats 4000000 in
theorem s_X0_hard {n : Nat} {h : Hp} {a0 : Nat}  {r : Int32} (hf : f_X0_hard  h a0 = some r) : Ev 3 yX0_hard cX0_hard 1 (some .int) [.ref a0] n h (some (.int r)) n h := by
  refine Ev_of RX0 rfl (by decide) (Nat.le_of_ble_eq_true rfl) (Nat.le_refl _) (Or.inl rfl) (fun Z hZ hF hN hI => ?_)
  have H : Ok (f_X0_hard  h a0) (fun y => y = r) := ⟨_, hf, rfl⟩
  unfold f_X0_hard at H
  refine r_ls (ls' := [(0, .ref a0)]) rfl ?_
  refine r_aload_n hZ dX0_hard_0 rfl ?_
  obtain ⟨u1, eu1, H⟩ := ok_bind H
  obtain ⟨r2, er2, H⟩ := ok_bind H
  refine r_callV (As := []) (rest := []) (st1 := [.int r2]) (N2 := 0) hZ dX0_hard_1 cw_X0_40_X0 rfl eu1 (s_X0_isRing er2) rfl rfl (by decide) (Nat.le_of_ble_eq_true rfl) (Nat.le_refl 0) (Nat.le_refl _) (Or.inl rfl) rfl ?_
  refine ok_join (Q := fun j3 : Int32 => R Z 31 [] [.int j3] n h 0) H (fun j3 H => ?_) (fun H => ?_)
  · have H := ok_some H
    subst H
    exact r_iret hZ hF dX0_hard_31
  · refine r_if_eq (tgt := 23) hZ dX0_hard_4 (by decide) (fun c9 => ?_) (fun c9 => ?_)
    · have H := ok_t H c9
      refine r_gets (j := 0) hZ (by decide) dX0_hard_23 ws_X0_44 ?_
      refine r_aload_n hZ dX0_hard_26 rfl ?_
      obtain ⟨x4, ex4, H⟩ := ok_bind H
      refine r_getI hZ fl_X0_22_0 dX0_hard_27 ex4 ?_
      obtain ⟨x5, ex5, H⟩ := ok_bind H
      refine r_aS hZ (by decide) dX0_hard_30 ex5 ?_
      have H := ok_some H
      exact r_pick [] (ls' := []) rfl H
    · have H := ok_f H c9
      refine r_gets (j := 0) hZ (by decide) dX0_hard_7 ws_X0_44 ?_
      refine r_iconst (v := (J 4)) hZ dX0_hard_10 (by decide) ?_
      obtain ⟨x6, ex6, H⟩ := ok_bind H
      refine r_aS hZ (by decide) dX0_hard_11 ex6 ?_
      refine r_aload_n hZ dX0_hard_12 rfl ?_
      obtain ⟨x7, ex7, H⟩ := ok_bind H
      refine r_getI hZ fl_X0_11_0 dX0_hard_13 ex7 ?_
      refine r_bipush (v := (J 10)) hZ dX0_hard_16 (by decide) ?_
      obtain ⟨u8, eu8, H⟩ := ok_bind H
      refine r_idiv hZ dX0_hard_18 (nz_ne eu8) ?_
      refine r_iadd hZ dX0_hard_19 ?_
      refine r_goto (tgt := 31) hZ dX0_hard_20 (by decide) ?_
      have H := ok_some H
      exact r_pick [] (ls' := []) rfl H
def f_X0_stiff  (h : Hp) (a0 : Nat) : Option (Int32) :=
  (gI h a0 0 1).bind fun x1 =>
  (aS 1 x1).bind fun x2 =>
  some x2
set_option maxRecDepth 100000 in
set_option maxHeartbeats 4000000 in
theorem s_X0_stiff {n : Nat} {h : Hp} {a0 : Nat}  {r : Int32} (hf : f_X0_stiff  h a0 = some r) : Ev 2 yX0_stiff cX0_stiff 1 (some .int) [.ref a0] n h (some (.int r)) n h := by
  refine Ev_of RX0 rfl (by decide) (Nat.le_of_ble_eq_true rfl) (Nat.le_refl _) (Or.inl rfl) (fun Z hZ hF hN hI => ?_)
  have H : Ok (f_X0_stiff  h a0) (fun y => y = r) := ⟨_, hf, rfl⟩
  unfold f_X0_stiff at H
  refine r_ls (ls' := [(0, .ref a0)]) rfl ?_
  refine r_gets (j := 1) hZ (by decide) dX0_stiff_0 ws_X0_47 ?_
  refine r_aload_n hZ dX0_stiff_3 rfl ?_
  obtain ⟨x1, ex1, H⟩ := ok_bind H
  refine r_getI hZ fl_X0_22_0 dX0_stiff_4 ex1 ?_
  obtain ⟨x2, ex2, H⟩ := ok_bind H
  refine r_aS hZ (by decide) dX0_stiff_7 ex2 ?_
  have H := ok_some H
  subst H
  exact r_iret hZ hF dX0_stiff_8
def b_X0_thin_9 (h : Hp) (p0 : Nat) (s : Int32 × Int32) : Option ((Int32 × Int32) ⊕ ((Int32))) :=
  (if (J 16) ≤ s.2 then
    some (.inr (s.1))
  else
    (gR h p0 0 4).bind fun x1 =>
    (aI h x1 s.2).bind fun x2 =>
    (some (if x2 < s.1 then x2 else s.1)).bind fun x3 =>
    (some (s.2 + (J 1))).bind fun x4 =>
    some (.inl (x3, x4)))
set_option maxRecDepth 100000 in
set_option maxHeartbeats 4000000 in
theorem l_X0_thin_9 {Z : Zc} (hZ : Fx cX0_thin RX0 3 2 0 Z) {n : Nat} {h : Hp} {p0 : Nat} {P : ((Int32)) → Prop} (hx0 : ∀ e : Int32, P (e) → R Z 32 [(1, .int e)] [] n h 0) : ∀ (m : Nat) (s : Int32 × Int32), Ok (iter (b_X0_thin_9 h p0) m s) P → R Z 9 [(0, .ref p0), (1, .int s.1), (2, .int s.2)] [] n h 0 := by
  intro m
  induction m with
  | zero => exact fun s H => ok_iter0 H
  | succ m ih =>
    intro s H
    have H := ok_iter H
    unfold b_X0_thin_9 at H
    refine r_iload_n hZ dX0_thin_9 rfl ?_
    refine r_bipush (v := (J 16)) hZ dX0_thin_10 (by decide) ?_
    refine r_icmp_ge (tgt := 32) hZ dX0_thin_12 (by decide) (fun c5 => ?_) (fun c5 => ?_)
    · have H := ok_t H c5
      exact r_pick [1] (ls' := [(1, .int s.1)]) rfl (hx0 _ (ki_r H))
    · have H := ok_f H c5
      refine r_iload_n hZ dX0_thin_15 rfl ?_
      refine r_aload_n hZ dX0_thin_16 rfl ?_
      obtain ⟨x1, ex1, H⟩ := ok_bind H
      refine r_getR hZ fl_X0_15_0 dX0_thin_17 ex1 ?_
      refine r_iload_n hZ dX0_thin_20 rfl ?_
      obtain ⟨x2, ex2, H⟩ := ok_bind H
      refine r_aI hZ dX0_thin_21 ex2 ?_
      refine r_min hZ dX0_thin_22 wM_X0_50 (by decide) (Nat.le_of_ble_eq_true rfl) (Nat.le_refl 0) ?_
      obtain ⟨x3, ex3, H⟩ := ok_bind H
      refine r_topi ex3 ?_
      refine r_istore_n hZ dX0_thin_25 (by decide) (r_pick [0, 1, 2] (ls' := [(0, .ref p0), (1, .int x3), (2, .int s.2)]) rfl ?_)
      obtain ⟨x4, ex4, H⟩ := ok_bind H
      refine r_iincE (w := (J 1)) hZ dX0_thin_26 (by decide) rfl (by decide) ex4 (r_pick [0, 1, 2] (ls' := [(0, .ref p0), (1, .int x3), (2, .int x4)]) rfl ?_)
      refine r_goto (tgt := 9) hZ dX0_thin_29 (by decide) ?_
      exact r_pick [0, 1, 2] (ls' := [(0, .ref p0), (1, .int x3), (2, .int x4)]) rfl (ih _ (ki_l H))
def f_X0_thin  (h : Hp) (a0 : Nat) : Option (Int32) :=
  (gR h a0 0 4).bind fun x1 =>
  (aI h x1 (J 0)).bind fun x2 =>
  (some (J 1)).bind fun x3 =>
  (iter (b_X0_thin_9 h a0) FU (x2, x3)).bind fun e4 =>
  some e4
set_option maxRecDepth 100000 in
set_option maxHeartbeats 4000000 in
theorem s_X0_thin {n : Nat} {h : Hp} {a0 : Nat}  {r : Int32} (hf : f_X0_thin  h a0 = some r) : Ev 2 yX0_thin cX0_thin 3 (some .int) [.ref a0] n h (some (.int r)) n h := by
  refine Ev_of RX0 rfl (by decide) (Nat.le_of_ble_eq_true rfl) (Nat.le_refl _) (Or.inl rfl) (fun Z hZ hF hN hI => ?_)
  have H : Ok (f_X0_thin  h a0) (fun y => y = r) := ⟨_, hf, rfl⟩
  unfold f_X0_thin at H
  refine r_ls (ls' := [(0, .ref a0)]) rfl ?_
  refine r_aload_n hZ dX0_thin_0 rfl ?_
  obtain ⟨x1, ex1, H⟩ := ok_bind H
  refine r_getR hZ fl_X0_15_0 dX0_thin_1 ex1 ?_
  refine r_iconst (v := (J 0)) hZ dX0_thin_4 (by decide) ?_
  obtain ⟨x2, ex2, H⟩ := ok_bind H
  refine r_aI hZ dX0_thin_5 ex2 ?_
  refine r_istore_n hZ dX0_thin_6 (by decide) (r_pick [0, 1] (ls' := [(0, .ref a0), (1, .int x2)]) rfl ?_)
  refine r_iconst (v := (J 1)) hZ dX0_thin_7 (by decide) ?_
  obtain ⟨x3, ex3, H⟩ := ok_bind H
  refine r_topi ex3 ?_
  refine r_istore_n hZ dX0_thin_8 (by decide) (r_pick [0, 1, 2] (ls' := [(0, .ref a0), (1, .int x2), (2, .int x3)]) rfl ?_)
  have H := ok_bindK H
  refine r_pick [0, 1, 2] (ls' := [(0, .ref a0), (1, .int x2), (2, .int x3)]) rfl (l_X0_thin_9 hZ (fun e4 H => ?_) FU _ H)
  · refine r_iload_n hZ dX0_thin_32 rfl ?_
    have H := ok_some H
    subst H
    exact r_iret hZ hF dX0_thin_33
def f_X0_top  (h : Hp) (a0 : Nat) : Option (Int32) :=
  (gR h a0 0 4).bind fun x1 =>
  (aI h x1 (J 15)).bind fun x2 =>
  some x2
set_option maxRecDepth 100000 in
set_option maxHeartbeats 4000000 in
theorem s_X0_top {n : Nat} {h : Hp} {a0 : Nat}  {r : Int32} (hf : f_X0_top  h a0 = some r) : Ev 2 yX0_top cX0_top 1 (some .int) [.ref a0] n h (some (.int r)) n h := by
  refine Ev_of RX0 rfl (by decide) (Nat.le_of_ble_eq_true rfl) (Nat.le_refl _) (Or.inl rfl) (fun Z hZ hF hN hI => ?_)
  have H : Ok (f_X0_top  h a0) (fun y => y = r) := ⟨_, hf, rfl⟩
  unfold f_X0_top at H
  refine r_ls (ls' := [(0, .ref a0)]) rfl ?_
  refine r_aload_n hZ dX0_top_0 rfl ?_
  obtain ⟨x1, ex1, H⟩ := ok_bind H
  refine r_getR hZ fl_X0_15_0 dX0_top_1 ex1 ?_
  refine r_bipush (v := (J 15)) hZ dX0_top_4 (by decide) ?_
  obtain ⟨x2, ex2, H⟩ := ok_bind H
  refine r_aI hZ dX0_top_6 ex2 ?_
  have H := ok_some H
  subst H
  exact r_iret hZ hF dX0_top_7
def b_X0_undercut_9 (h : Hp) (p0 : Nat) (s : Int32 × Int32) : Option ((Int32 × Int32) ⊕ ((Unit) ⊕ (Int32))) :=
  (if (J 15) ≤ s.2 then
    some (.inr (.inl ()))
  else
    (gR h p0 0 4).bind fun x1 =>
    (aI h x1 s.2).bind fun x2 =>
    (gR h p0 0 4).bind fun x3 =>
    (aI h x3 (s.2 + (J 1))).bind fun x4 =>
    (if x4 ≤ x2 then
      (gR h p0 0 4).bind fun x5 =>
      (aI h x5 s.2).bind fun x6 =>
      (some (if s.1 < x6 then x6 else s.1)).bind fun x7 =>
      (some (s.2 + (J 1))).bind fun x8 =>
      some (.inl (x7, x8))
    else
      (gR h p0 0 4).bind fun x9 =>
      (aI h x9 s.2).bind fun x10 =>
      (if s.1 ≤ x10 then
        (gR h p0 0 4).bind fun x11 =>
        (aI h x11 s.2).bind fun x12 =>
        (some (if s.1 < x12 then x12 else s.1)).bind fun x13 =>
        (some (s.2 + (J 1))).bind fun x14 =>
        some (.inl (x13, x14))
      else
        some (.inr (.inr s.2)))))
set_option maxRecDepth 100000 in
set_option maxHeartbeats 4000000 in
theorem l_X0_undercut_9 {Z : Zc} (hZ : Fx cX0_undercut RX0 3 2 0 Z) {n : Nat} {h : Hp} {p0 : Nat} {P : ((Unit) ⊕ (Int32)) → Prop} (hx0 : ∀ e : Unit, P (.inl e) → R Z 61 [] [] n h 0) (hx1 : ∀ e : Int32, P (.inr e) → R Z 42 [(2, .int e)] [] n h 0) : ∀ (m : Nat) (s : Int32 × Int32), Ok (iter (b_X0_undercut_9 h p0) m s) P → R Z 9 [(0, .ref p0), (1, .int s.1), (2, .int s.2)] [] n h 0 := by
  intro m
  induction m with
  | zero => exact fun s H => ok_iter0 H
  | succ m ih =>
    intro s H
    have H := ok_iter H
    unfold b_X0_undercut_9 at H
    refine r_iload_n hZ dX0_undercut_9 rfl ?_
    refine r_bipush (v := (J 15)) hZ dX0_undercut_10 (by decide) ?_
    refine r_icmp_ge (tgt := 61) hZ dX0_undercut_12 (by decide) (fun c17 => ?_) (fun c17 => ?_)
    · have H := ok_t H c17
      exact r_pick [] (ls' := []) rfl (hx0 _ (ki_r H))
    · have H := ok_f H c17
      refine r_aload_n hZ dX0_undercut_15 rfl ?_
      obtain ⟨x1, ex1, H⟩ := ok_bind H
      refine r_getR hZ fl_X0_15_0 dX0_undercut_16 ex1 ?_
      refine r_iload_n hZ dX0_undercut_19 rfl ?_
      obtain ⟨x2, ex2, H⟩ := ok_bind H
      refine r_aI hZ dX0_undercut_20 ex2 ?_
      refine r_aload_n hZ dX0_undercut_21 rfl ?_
      obtain ⟨x3, ex3, H⟩ := ok_bind H
      refine r_getR hZ fl_X0_15_0 dX0_undercut_22 ex3 ?_
      refine r_iload_n hZ dX0_undercut_25 rfl ?_
      refine r_iconst (v := (J 1)) hZ dX0_undercut_26 (by decide) ?_
      refine r_iadd hZ dX0_undercut_27 ?_
      obtain ⟨x4, ex4, H⟩ := ok_bind H
      refine r_aI hZ dX0_undercut_28 ex4 ?_
      refine r_icmp_ge (tgt := 44) hZ dX0_undercut_29 (by decide) (fun c16 => ?_) (fun c16 => ?_)
      · have H := ok_t H c16
        refine r_iload_n hZ dX0_undercut_44 rfl ?_
        refine r_aload_n hZ dX0_undercut_45 rfl ?_
        obtain ⟨x5, ex5, H⟩ := ok_bind H
        refine r_getR hZ fl_X0_15_0 dX0_undercut_46 ex5 ?_
        refine r_iload_n hZ dX0_undercut_49 rfl ?_
        obtain ⟨x6, ex6, H⟩ := ok_bind H
        refine r_aI hZ dX0_undercut_50 ex6 ?_
        refine r_max hZ dX0_undercut_51 wM_X0_56 (by decide) (Nat.le_of_ble_eq_true rfl) (Nat.le_refl 0) ?_
        obtain ⟨x7, ex7, H⟩ := ok_bind H
        refine r_topi ex7 ?_
        refine r_istore_n hZ dX0_undercut_54 (by decide) (r_pick [0, 1, 2] (ls' := [(0, .ref p0), (1, .int x7), (2, .int s.2)]) rfl ?_)
        obtain ⟨x8, ex8, H⟩ := ok_bind H
        refine r_iincE (w := (J 1)) hZ dX0_undercut_55 (by decide) rfl (by decide) ex8 (r_pick [0, 1, 2] (ls' := [(0, .ref p0), (1, .int x7), (2, .int x8)]) rfl ?_)
        refine r_goto (tgt := 9) hZ dX0_undercut_58 (by decide) ?_
        exact r_pick [0, 1, 2] (ls' := [(0, .ref p0), (1, .int x7), (2, .int x8)]) rfl (ih _ (ki_l H))
      · have H := ok_f H c16
        refine r_aload_n hZ dX0_undercut_32 rfl ?_
        obtain ⟨x9, ex9, H⟩ := ok_bind H
        refine r_getR hZ fl_X0_15_0 dX0_undercut_33 ex9 ?_
        refine r_iload_n hZ dX0_undercut_36 rfl ?_
        obtain ⟨x10, ex10, H⟩ := ok_bind H
        refine r_aI hZ dX0_undercut_37 ex10 ?_
        refine r_iload_n hZ dX0_undercut_38 rfl ?_
        refine r_icmp_ge (tgt := 44) hZ dX0_undercut_39 (by decide) (fun c15 => ?_) (fun c15 => ?_)
        · have H := ok_t H c15
          refine r_iload_n hZ dX0_undercut_44 rfl ?_
          refine r_aload_n hZ dX0_undercut_45 rfl ?_
          obtain ⟨x11, ex11, H⟩ := ok_bind H
          refine r_getR hZ fl_X0_15_0 dX0_undercut_46 ex11 ?_
          refine r_iload_n hZ dX0_undercut_49 rfl ?_
          obtain ⟨x12, ex12, H⟩ := ok_bind H
          refine r_aI hZ dX0_undercut_50 ex12 ?_
          refine r_max hZ dX0_undercut_51 wM_X0_56 (by decide) (Nat.le_of_ble_eq_true rfl) (Nat.le_refl 0) ?_
          obtain ⟨x13, ex13, H⟩ := ok_bind H
          refine r_topi ex13 ?_
          refine r_istore_n hZ dX0_undercut_54 (by decide) (r_pick [0, 1, 2] (ls' := [(0, .ref p0), (1, .int x13), (2, .int s.2)]) rfl ?_)
          obtain ⟨x14, ex14, H⟩ := ok_bind H
          refine r_iincE (w := (J 1)) hZ dX0_undercut_55 (by decide) rfl (by decide) ex14 (r_pick [0, 1, 2] (ls' := [(0, .ref p0), (1, .int x13), (2, .int x14)]) rfl ?_)
          refine r_goto (tgt := 9) hZ dX0_undercut_58 (by decide) ?_
          exact r_pick [0, 1, 2] (ls' := [(0, .ref p0), (1, .int x13), (2, .int x14)]) rfl (ih _ (ki_l H))
        · have H := ok_f H c15
          exact r_pick [2] (ls' := [(2, .int s.2)]) rfl (hx1 _ (ki_r H))
def f_X0_undercut  (h : Hp) (a0 : Nat) : Option (Int32) :=
  (gR h a0 0 4).bind fun x1 =>
  (aI h x1 (J 0)).bind fun x2 =>
  (some (J 0)).bind fun x3 =>
  (iter (b_X0_undercut_9 h a0) FU (x2, x3)).bind fun e4 =>
  (match e4 with
  | .inl e5 =>
    some (J (-4))
  | .inr e6 =>
    some e6)
set_option maxRecDepth 100000 in
set_option maxHeartbeats 4000000 in
theorem s_X0_undercut {n : Nat} {h : Hp} {a0 : Nat}  {r : Int32} (hf : f_X0_undercut  h a0 = some r) : Ev 2 yX0_undercut cX0_undercut 3 (some .int) [.ref a0] n h (some (.int r)) n h := by
  refine Ev_of RX0 rfl (by decide) (Nat.le_of_ble_eq_true rfl) (Nat.le_refl _) (Or.inl rfl) (fun Z hZ hF hN hI => ?_)
  have H : Ok (f_X0_undercut  h a0) (fun y => y = r) := ⟨_, hf, rfl⟩
  unfold f_X0_undercut at H
  refine r_ls (ls' := [(0, .ref a0)]) rfl ?_
  refine r_aload_n hZ dX0_undercut_0 rfl ?_
  obtain ⟨x1, ex1, H⟩ := ok_bind H
  refine r_getR hZ fl_X0_15_0 dX0_undercut_1 ex1 ?_
  refine r_iconst (v := (J 0)) hZ dX0_undercut_4 (by decide) ?_
  obtain ⟨x2, ex2, H⟩ := ok_bind H
  refine r_aI hZ dX0_undercut_5 ex2 ?_
  refine r_istore_n hZ dX0_undercut_6 (by decide) (r_pick [0, 1] (ls' := [(0, .ref a0), (1, .int x2)]) rfl ?_)
  refine r_iconst (v := (J 0)) hZ dX0_undercut_7 (by decide) ?_
  obtain ⟨x3, ex3, H⟩ := ok_bind H
  refine r_topi ex3 ?_
  refine r_istore_n hZ dX0_undercut_8 (by decide) (r_pick [0, 1, 2] (ls' := [(0, .ref a0), (1, .int x2), (2, .int x3)]) rfl ?_)
  have H := ok_bindK H
  refine r_pick [0, 1, 2] (ls' := [(0, .ref a0), (1, .int x2), (2, .int x3)]) rfl (l_X0_undercut_9 hZ (fun e5 H => ?_) (fun e6 H => ?_) FU _ H)
  · refine r_bipush (v := (J (-4))) hZ dX0_undercut_61 (by decide) ?_
    have H := ok_some H
    subst H
    exact r_iret hZ hF dX0_undercut_63
  · refine r_iload_n hZ dX0_undercut_42 rfl ?_
    have H := ok_some H
    subst H
    exact r_iret hZ hF dX0_undercut_43
def b_X0_sumOfWidths_4 (h : Hp) (p0 : Nat) (s : Int32 × Int32) : Option ((Int32 × Int32) ⊕ ((Int32))) :=
  (if (J 16) ≤ s.2 then
    some (.inr (s.1))
  else
    (gR h p0 0 4).bind fun x1 =>
    (aI h x1 s.2).bind fun x2 =>
    (some (s.1 + x2)).bind fun x3 =>
    (some (s.2 + (J 1))).bind fun x4 =>
    some (.inl (x3, x4)))
set_option maxRecDepth 100000 in
set_option maxHeartbeats 4000000 in
theorem l_X0_sumOfWidths_4 {Z : Zc} (hZ : Fx cX0_sumOfWidths RX0 3 2 0 Z) {n : Nat} {h : Hp} {p0 : Nat} {P : ((Int32)) → Prop} (hx0 : ∀ e : Int32, P (e) → R Z 25 [(1, .int e)] [] n h 0) : ∀ (m : Nat) (s : Int32 × Int32), Ok (iter (b_X0_sumOfWidths_4 h p0) m s) P → R Z 4 [(0, .ref p0), (1, .int s.1), (2, .int s.2)] [] n h 0 := by
  intro m
  induction m with
  | zero => exact fun s H => ok_iter0 H
  | succ m ih =>
    intro s H
    have H := ok_iter H
    unfold b_X0_sumOfWidths_4 at H
    refine r_iload_n hZ dX0_sumOfWidths_4 rfl ?_
    refine r_bipush (v := (J 16)) hZ dX0_sumOfWidths_5 (by decide) ?_
    refine r_icmp_ge (tgt := 25) hZ dX0_sumOfWidths_7 (by decide) (fun c5 => ?_) (fun c5 => ?_)
    · have H := ok_t H c5
      exact r_pick [1] (ls' := [(1, .int s.1)]) rfl (hx0 _ (ki_r H))
    · have H := ok_f H c5
      refine r_iload_n hZ dX0_sumOfWidths_10 rfl ?_
      refine r_aload_n hZ dX0_sumOfWidths_11 rfl ?_
      obtain ⟨x1, ex1, H⟩ := ok_bind H
      refine r_getR hZ fl_X0_15_0 dX0_sumOfWidths_12 ex1 ?_
      refine r_iload_n hZ dX0_sumOfWidths_15 rfl ?_
      obtain ⟨x2, ex2, H⟩ := ok_bind H
      refine r_aI hZ dX0_sumOfWidths_16 ex2 ?_
      refine r_iadd hZ dX0_sumOfWidths_17 ?_
      obtain ⟨x3, ex3, H⟩ := ok_bind H
      refine r_topi ex3 ?_
      refine r_istore_n hZ dX0_sumOfWidths_18 (by decide) (r_pick [0, 1, 2] (ls' := [(0, .ref p0), (1, .int x3), (2, .int s.2)]) rfl ?_)
      obtain ⟨x4, ex4, H⟩ := ok_bind H
      refine r_iincE (w := (J 1)) hZ dX0_sumOfWidths_19 (by decide) rfl (by decide) ex4 (r_pick [0, 1, 2] (ls' := [(0, .ref p0), (1, .int x3), (2, .int x4)]) rfl ?_)
      refine r_goto (tgt := 4) hZ dX0_sumOfWidths_22 (by decide) ?_
      exact r_pick [0, 1, 2] (ls' := [(0, .ref p0), (1, .int x3), (2, .int x4)]) rfl (ih _ (ki_l H))
def f_X0_sumOfWidths  (h : Hp) (a0 : Nat) : Option (Int32) :=
  (some (J 0)).bind fun x1 =>
  (some (J 0)).bind fun x2 =>
  (iter (b_X0_sumOfWidths_4 h a0) FU (x1, x2)).bind fun e3 =>
  some e3
set_option maxRecDepth 100000 in
set_option maxHeartbeats 4000000 in
theorem s_X0_sumOfWidths {n : Nat} {h : Hp} {a0 : Nat}  {r : Int32} (hf : f_X0_sumOfWidths  h a0 = some r) : Ev 2 yX0_sumOfWidths cX0_sumOfWidths 3 (some .int) [.ref a0] n h (some (.int r)) n h := by
  refine Ev_of RX0 rfl (by decide) (Nat.le_of_ble_eq_true rfl) (Nat.le_refl _) (Or.inl rfl) (fun Z hZ hF hN hI => ?_)
  have H : Ok (f_X0_sumOfWidths  h a0) (fun y => y = r) := ⟨_, hf, rfl⟩
  unfold f_X0_sumOfWidths at H
  refine r_ls (ls' := [(0, .ref a0)]) rfl ?_
  refine r_iconst (v := (J 0)) hZ dX0_sumOfWidths_0 (by decide) ?_
  obtain ⟨x1, ex1, H⟩ := ok_bind H
  refine r_topi ex1 ?_
  refine r_istore_n hZ dX0_sumOfWidths_1 (by decide) (r_pick [0, 1] (ls' := [(0, .ref a0), (1, .int x1)]) rfl ?_)
  refine r_iconst (v := (J 0)) hZ dX0_sumOfWidths_2 (by decide) ?_
  obtain ⟨x2, ex2, H⟩ := ok_bind H
  refine r_topi ex2 ?_
  refine r_istore_n hZ dX0_sumOfWidths_3 (by decide) (r_pick [0, 1, 2] (ls' := [(0, .ref a0), (1, .int x1), (2, .int x2)]) rfl ?_)
  have H := ok_bindK H
  refine r_pick [0, 1, 2] (ls' := [(0, .ref a0), (1, .int x1), (2, .int x2)]) rfl (l_X0_sumOfWidths_4 hZ (fun e3 H => ?_) FU _ H)
  · refine r_iload_n hZ dX0_sumOfWidths_25 rfl ?_
    have H := ok_some H
    subst H
    exact r_iret hZ hF dX0_sumOfWidths_26
def b_X0_hasFlankOf_2 (h : Hp) (p0 : Nat) (p1 : Nat) (s : Int32) : Option ((Int32) ⊕ ((Unit) ⊕ (Unit))) :=
  (if (J 16) ≤ s then
    some (.inr (.inl ()))
  else
    (gR h p0 0 4).bind fun x1 =>
    (aI h x1 s).bind fun x2 =>
    (gR h p1 0 4).bind fun x3 =>
    (aI h x3 s).bind fun x4 =>
    (if x2 = x4 then
      (some (s + (J 1))).bind fun x5 =>
      some (.inl x5)
    else
      some (.inr (.inr ()))))
set_option maxRecDepth 100000 in
set_option maxHeartbeats 4000000 in
theorem l_X0_hasFlankOf_2 {Z : Zc} (hZ : Fx cX0_hasFlankOf RX0 3 2 0 Z) {n : Nat} {h : Hp} {p0 : Nat} {p1 : Nat} {P : ((Unit) ⊕ (Unit)) → Prop} (hx0 : ∀ e : Unit, P (.inl e) → R Z 31 [] [] n h 0) (hx1 : ∀ e : Unit, P (.inr e) → R Z 23 [] [] n h 0) : ∀ (m : Nat) (s : Int32), Ok (iter (b_X0_hasFlankOf_2 h p0 p1) m s) P → R Z 2 [(0, .ref p0), (1, .ref p1), (2, .int s)] [] n h 0 := by
  intro m
  induction m with
  | zero => exact fun s H => ok_iter0 H
  | succ m ih =>
    intro s H
    have H := ok_iter H
    unfold b_X0_hasFlankOf_2 at H
    refine r_iload_n hZ dX0_hasFlankOf_2 rfl ?_
    refine r_bipush (v := (J 16)) hZ dX0_hasFlankOf_3 (by decide) ?_
    refine r_icmp_ge (tgt := 31) hZ dX0_hasFlankOf_5 (by decide) (fun c7 => ?_) (fun c7 => ?_)
    · have H := ok_t H c7
      exact r_pick [] (ls' := []) rfl (hx0 _ (ki_r H))
    · have H := ok_f H c7
      refine r_aload_n hZ dX0_hasFlankOf_8 rfl ?_
      obtain ⟨x1, ex1, H⟩ := ok_bind H
      refine r_getR hZ fl_X0_15_0 dX0_hasFlankOf_9 ex1 ?_
      refine r_iload_n hZ dX0_hasFlankOf_12 rfl ?_
      obtain ⟨x2, ex2, H⟩ := ok_bind H
      refine r_aI hZ dX0_hasFlankOf_13 ex2 ?_
      refine r_aload_n hZ dX0_hasFlankOf_14 rfl ?_
      obtain ⟨x3, ex3, H⟩ := ok_bind H
      refine r_getR hZ fl_X0_15_0 dX0_hasFlankOf_15 ex3 ?_
      refine r_iload_n hZ dX0_hasFlankOf_18 rfl ?_
      obtain ⟨x4, ex4, H⟩ := ok_bind H
      refine r_aI hZ dX0_hasFlankOf_19 ex4 ?_
      refine r_icmp_eq (tgt := 25) hZ dX0_hasFlankOf_20 (by decide) (fun c6 => ?_) (fun c6 => ?_)
      · have H := ok_t H c6
        obtain ⟨x5, ex5, H⟩ := ok_bind H
        refine r_iincE (w := (J 1)) hZ dX0_hasFlankOf_25 (by decide) rfl (by decide) ex5 (r_pick [0, 1, 2] (ls' := [(0, .ref p0), (1, .ref p1), (2, .int x5)]) rfl ?_)
        refine r_goto (tgt := 2) hZ dX0_hasFlankOf_28 (by decide) ?_
        exact r_pick [0, 1, 2] (ls' := [(0, .ref p0), (1, .ref p1), (2, .int x5)]) rfl (ih _ (ki_l H))
      · have H := ok_f H c6
        exact r_pick [] (ls' := []) rfl (hx1 _ (ki_r H))
def f_X0_hasFlankOf  (h : Hp) (a0 : Nat) (a1 : Nat) : Option (Int32) :=
  (some (J 0)).bind fun x1 =>
  (iter (b_X0_hasFlankOf_2 h a0 a1) FU x1).bind fun e2 =>
  (match e2 with
  | .inl e3 =>
    some (J 1)
  | .inr e4 =>
    some (J 0))
set_option maxRecDepth 100000 in
set_option maxHeartbeats 4000000 in
theorem s_X0_hasFlankOf {n : Nat} {h : Hp} {a0 : Nat} {a1 : Nat}  {r : Int32} (hf : f_X0_hasFlankOf  h a0 a1 = some r) : Ev 2 yX0_hasFlankOf cX0_hasFlankOf 3 (some .boolean) [.ref a0, .ref a1] n h (some (.int r)) n h := by
  refine Ev_of RX0 rfl (by decide) (Nat.le_of_ble_eq_true rfl) (Nat.le_refl _) (Or.inl rfl) (fun Z hZ hF hN hI => ?_)
  have H : Ok (f_X0_hasFlankOf  h a0 a1) (fun y => y = r) := ⟨_, hf, rfl⟩
  unfold f_X0_hasFlankOf at H
  refine r_ls (ls' := [(0, .ref a0), (1, .ref a1)]) rfl ?_
  refine r_iconst (v := (J 0)) hZ dX0_hasFlankOf_0 (by decide) ?_
  obtain ⟨x1, ex1, H⟩ := ok_bind H
  refine r_topi ex1 ?_
  refine r_istore_n hZ dX0_hasFlankOf_1 (by decide) (r_pick [0, 1, 2] (ls' := [(0, .ref a0), (1, .ref a1), (2, .int x1)]) rfl ?_)
  have H := ok_bindK H
  refine r_pick [0, 1, 2] (ls' := [(0, .ref a0), (1, .ref a1), (2, .int x1)]) rfl (l_X0_hasFlankOf_2 hZ (fun e3 H => ?_) (fun e4 H => ?_) FU _ H)
  · refine r_iconst (v := (J 1)) hZ dX0_hasFlankOf_31 (by decide) ?_
    have H := ok_some H
    subst H
    exact r_zret hZ hF (by decide) dX0_hasFlankOf_32
  · refine r_iconst (v := (J 0)) hZ dX0_hasFlankOf_23 (by decide) ?_
    have H := ok_some H
    subst H
    exact r_zret hZ hF (by decide) dX0_hasFlankOf_24
def b_X0_cutOnce_3 (p0 : Nat) (p1 : Nat) (p2 : Int32) (p3 : Int32) (s : Int32 × Hp) : Option ((Int32 × Hp) ⊕ ((Hp))) :=
  (if (J 16) ≤ s.1 then
    some (.inr (s.2))
  else
    (some (s.1 - p3)).bind fun x1 =>
    (f_X11_isWithin x1 (J 0) (J 15)).bind fun r2 =>
    ((if r2 = 0 then
      some s.2
    else
      (aI s.2 p1 x1).bind fun x4 =>
      (nz (J 8)).bind fun u5 =>
      (some ((J 31) - ((x4 + p2) - ((p3 * p3) / (J 8))))).bind fun x6 =>
      (gR s.2 p0 0 4).bind fun x7 =>
      (gR s.2 p0 0 4).bind fun x8 =>
      (aI s.2 x8 s.1).bind fun x9 =>
      (sI s.2 x7 s.1 (if (if x6 < (J 0) then (J 0) else x6) < x9 then (if x6 < (J 0) then (J 0) else x6) else x9)).bind fun h10 =>
      some h10)).bind fun (j3 : Hp) =>
    (some (s.1 + (J 1))).bind fun x12 =>
    some (.inl (x12, j3)))
set_option maxRecDepth 100000 in
set_option maxHeartbeats 4000000 in
theorem l_X0_cutOnce_3 {Z : Zc} (hZ : Fx cX0_cutOnce RX0 7 3 0 Z) {n : Nat} {p0 : Nat} {p1 : Nat} {p2 : Int32} {p3 : Int32} {P : ((Hp)) → Prop} (hx0 : ∀ e : Hp, P (e) → R Z 74 [] [] n e 0) : ∀ (m : Nat) (s : Int32 × Hp), Ok (iter (b_X0_cutOnce_3 p0 p1 p2 p3) m s) P → R Z 3 [(0, .ref p0), (1, .ref p1), (2, .int p2), (3, .int p3), (4, .int s.1)] [] n s.2 0 := by
  intro m
  induction m with
  | zero => exact fun s H => ok_iter0 H
  | succ m ih =>
    intro s H
    have H := ok_iter H
    unfold b_X0_cutOnce_3 at H
    refine r_iload hZ dX0_cutOnce_3 rfl ?_
    refine r_bipush (v := (J 16)) hZ dX0_cutOnce_5 (by decide) ?_
    refine r_icmp_ge (tgt := 74) hZ dX0_cutOnce_7 (by decide) (fun c13 => ?_) (fun c13 => ?_)
    · have H := ok_t H c13
      exact r_pick [] (ls' := []) rfl (hx0 _ (ki_r H))
    · have H := ok_f H c13
      refine r_iload hZ dX0_cutOnce_10 rfl ?_
      refine r_iload_n hZ dX0_cutOnce_12 rfl ?_
      refine r_isub hZ dX0_cutOnce_13 ?_
      obtain ⟨x1, ex1, H⟩ := ok_bind H
      refine r_topi ex1 ?_
      refine r_istore hZ dX0_cutOnce_14 (by decide) (r_pick [0, 1, 2, 3, 4, 5] (ls' := [(0, .ref p0), (1, .ref p1), (2, .int p2), (3, .int p3), (4, .int s.1), (5, .int x1)]) rfl ?_)
      refine r_iload hZ dX0_cutOnce_16 rfl ?_
      refine r_iconst (v := (J 0)) hZ dX0_cutOnce_18 (by decide) ?_
      refine r_bipush (v := (J 15)) hZ dX0_cutOnce_19 (by decide) ?_
      obtain ⟨r2, er2, H⟩ := ok_bind H
      refine r_callSN (As := [.int x1, .int (J 0), .int (J 15)]) (rest := []) (st1 := [.int r2]) (N2 := 0) hZ dX0_cutOnce_21 cw_X0_63 (s_X11_isWithin er2) rfl rfl (by decide) (Nat.le_of_ble_eq_true rfl) (Nat.le_refl 0) (Nat.le_refl _) (Or.inl rfl) rfl ?_
      refine ok_join (Q := fun j3 : Hp => R Z 68 [(0, .ref p0), (1, .ref p1), (2, .int p2), (3, .int p3), (4, .int s.1)] [] n j3 0) H (fun j3 H => ?_) (fun H => ?_)
      · obtain ⟨x12, ex12, H⟩ := ok_bind H
        refine r_iincE (w := (J 1)) hZ dX0_cutOnce_68 (by decide) rfl (by decide) ex12 (r_pick [0, 1, 2, 3, 4] (ls' := [(0, .ref p0), (1, .ref p1), (2, .int p2), (3, .int p3), (4, .int x12)]) rfl ?_)
        refine r_goto (tgt := 3) hZ dX0_cutOnce_71 (by decide) ?_
        exact r_pick [0, 1, 2, 3, 4] (ls' := [(0, .ref p0), (1, .ref p1), (2, .int p2), (3, .int p3), (4, .int x12)]) rfl (ih _ (ki_l H))
      · refine r_if_eq (tgt := 68) hZ dX0_cutOnce_24 (by decide) (fun c11 => ?_) (fun c11 => ?_)
        · have H := ok_t H c11
          have H := ok_some H
          exact r_pick [0, 1, 2, 3, 4] (ls' := [(0, .ref p0), (1, .ref p1), (2, .int p2), (3, .int p3), (4, .int s.1)]) rfl H
        · have H := ok_f H c11
          refine r_bipush (v := (J 31)) hZ dX0_cutOnce_27 (by decide) ?_
          refine r_aload_n hZ dX0_cutOnce_29 rfl ?_
          refine r_iload hZ dX0_cutOnce_30 rfl ?_
          obtain ⟨x4, ex4, H⟩ := ok_bind H
          refine r_aI hZ dX0_cutOnce_32 ex4 ?_
          refine r_iload_n hZ dX0_cutOnce_33 rfl ?_
          refine r_iadd hZ dX0_cutOnce_34 ?_
          refine r_iload_n hZ dX0_cutOnce_35 rfl ?_
          refine r_iload_n hZ dX0_cutOnce_36 rfl ?_
          refine r_imul hZ dX0_cutOnce_37 ?_
          refine r_bipush (v := (J 8)) hZ dX0_cutOnce_38 (by decide) ?_
          obtain ⟨u5, eu5, H⟩ := ok_bind H
          refine r_idiv hZ dX0_cutOnce_40 (nz_ne eu5) ?_
          refine r_isub hZ dX0_cutOnce_41 ?_
          refine r_isub hZ dX0_cutOnce_42 ?_
          obtain ⟨x6, ex6, H⟩ := ok_bind H
          refine r_topi ex6 ?_
          refine r_istore hZ dX0_cutOnce_43 (by decide) (r_pick [0, 1, 2, 3, 4, 6] (ls' := [(0, .ref p0), (1, .ref p1), (2, .int p2), (3, .int p3), (4, .int s.1), (6, .int x6)]) rfl ?_)
          refine r_aload_n hZ dX0_cutOnce_45 rfl ?_
          obtain ⟨x7, ex7, H⟩ := ok_bind H
          refine r_getR hZ fl_X0_15_0 dX0_cutOnce_46 ex7 ?_
          refine r_iload hZ dX0_cutOnce_49 rfl ?_
          refine r_aload_n hZ dX0_cutOnce_51 rfl ?_
          obtain ⟨x8, ex8, H⟩ := ok_bind H
          refine r_getR hZ fl_X0_15_0 dX0_cutOnce_52 ex8 ?_
          refine r_iload hZ dX0_cutOnce_55 rfl ?_
          obtain ⟨x9, ex9, H⟩ := ok_bind H
          refine r_aI hZ dX0_cutOnce_57 ex9 ?_
          refine r_iload hZ dX0_cutOnce_58 rfl ?_
          refine r_iconst (v := (J 0)) hZ dX0_cutOnce_60 (by decide) ?_
          refine r_max hZ dX0_cutOnce_61 wM_X0_56 (by decide) (Nat.le_of_ble_eq_true rfl) (Nat.le_refl 0) ?_
          refine r_min hZ dX0_cutOnce_64 wM_X0_50 (by decide) (Nat.le_of_ble_eq_true rfl) (Nat.le_refl 0) ?_
          obtain ⟨h10, eh10, H⟩ := ok_bind H
          refine r_sI hZ dX0_cutOnce_67 eh10 ?_
          have H := ok_some H
          exact r_pick [0, 1, 2, 3, 4] (ls' := [(0, .ref p0), (1, .ref p1), (2, .int p2), (3, .int p3), (4, .int s.1)]) rfl H
def f_X0_cutOnce  (h : Hp) (a0 : Nat) (a1 : Nat) (a2 : Int32) (a3 : Int32) : Option (Hp) :=
  (some (J 0)).bind fun x1 =>
  (iter (b_X0_cutOnce_3 a0 a1 a2 a3) FU (x1, h)).bind fun e2 =>
  some e2
set_option maxRecDepth 100000 in
set_option maxHeartbeats 4000000 in
theorem s_X0_cutOnce {n : Nat} {h : Hp} {a0 : Nat} {a1 : Nat} {a2 : Int32} {a3 : Int32}  {r : Hp} (hf : f_X0_cutOnce  h a0 a1 a2 a3 = some r) : Ev 3 yX0_cutOnce cX0_cutOnce 7 none [.ref a0, .ref a1, .int a2, .int a3] n h none n r := by
  refine Ev_of RX0 rfl (by decide) (Nat.le_of_ble_eq_true rfl) (Nat.le_refl _) (Or.inl rfl) (fun Z hZ hF hN hI => ?_)
  have H : Ok (f_X0_cutOnce  h a0 a1 a2 a3) (fun y => y = r) := ⟨_, hf, rfl⟩
  unfold f_X0_cutOnce at H
  refine r_ls (ls' := [(0, .ref a0), (1, .ref a1), (2, .int a2), (3, .int a3)]) rfl ?_
  refine r_iconst (v := (J 0)) hZ dX0_cutOnce_0 (by decide) ?_
  obtain ⟨x1, ex1, H⟩ := ok_bind H
  refine r_topi ex1 ?_
  refine r_istore hZ dX0_cutOnce_1 (by decide) (r_pick [0, 1, 2, 3, 4] (ls' := [(0, .ref a0), (1, .ref a1), (2, .int a2), (3, .int a3), (4, .int x1)]) rfl ?_)
  have H := ok_bindK H
  refine r_pick [0, 1, 2, 3, 4] (ls' := [(0, .ref a0), (1, .ref a1), (2, .int a2), (3, .int a3), (4, .int x1)]) rfl (l_X0_cutOnce_3 hZ (fun e2 H => ?_) FU _ H)
  · have H := ok_some H
    subst H
    exact r_ret hZ hF dX0_cutOnce_74
def b_X0_cutBy_12 (p0 : Nat) (p1 : Nat) (p2 : Int32) (p3 : Int32) (s : Int32 × Hp) : Option ((Int32 × Hp) ⊕ ((Hp))) :=
  (if p3 ≤ s.1 then
    some (.inr (s.2))
  else
    (nz p3).bind fun u1 =>
    (isO s.2 p0 0).bind fun u2 =>
    (f_X0_cutOnce s.2 p0 p1 p2 ((((J 16) * s.1) / p3) - (J 8))).bind fun r3 =>
    (some (s.1 + (J 1))).bind fun x4 =>
    some (.inl (x4, r3)))
set_option maxRecDepth 100000 in
set_option maxHeartbeats 4000000 in
theorem l_X0_cutBy_12 {Z : Zc} (hZ : Fx cX0_cutBy RX0 5 4 0 Z) {n : Nat} {p0 : Nat} {p1 : Nat} {p2 : Int32} {p3 : Int32} {P : ((Hp)) → Prop} (hx0 : ∀ e : Hp, P (e) → R Z 40 [] [] n e 0) : ∀ (m : Nat) (s : Int32 × Hp), Ok (iter (b_X0_cutBy_12 p0 p1 p2 p3) m s) P → R Z 12 [(0, .ref p0), (1, .ref p1), (2, .int p2), (3, .int p3), (4, .int s.1)] [] n s.2 0 := by
  intro m
  induction m with
  | zero => exact fun s H => ok_iter0 H
  | succ m ih =>
    intro s H
    have H := ok_iter H
    unfold b_X0_cutBy_12 at H
    refine r_iload hZ dX0_cutBy_12 rfl ?_
    refine r_iload_n hZ dX0_cutBy_14 rfl ?_
    refine r_icmp_ge (tgt := 40) hZ dX0_cutBy_15 (by decide) (fun c5 => ?_) (fun c5 => ?_)
    · have H := ok_t H c5
      exact r_pick [] (ls' := []) rfl (hx0 _ (ki_r H))
    · have H := ok_f H c5
      refine r_aload_n hZ dX0_cutBy_18 rfl ?_
      refine r_aload_n hZ dX0_cutBy_19 rfl ?_
      refine r_iload_n hZ dX0_cutBy_20 rfl ?_
      refine r_bipush (v := (J 16)) hZ dX0_cutBy_21 (by decide) ?_
      refine r_iload hZ dX0_cutBy_23 rfl ?_
      refine r_imul hZ dX0_cutBy_25 ?_
      refine r_iload_n hZ dX0_cutBy_26 rfl ?_
      obtain ⟨u1, eu1, H⟩ := ok_bind H
      refine r_idiv hZ dX0_cutBy_27 (nz_ne eu1) ?_
      refine r_bipush (v := (J 8)) hZ dX0_cutBy_28 (by decide) ?_
      refine r_isub hZ dX0_cutBy_30 ?_
      obtain ⟨u2, eu2, H⟩ := ok_bind H
      obtain ⟨r3, er3, H⟩ := ok_bind H
      refine r_callV (As := [.ref p1, .int p2, .int ((((J 16) * s.1) / p3) - (J 8))]) (rest := []) (st1 := []) (N2 := 0) hZ dX0_cutBy_31 cw_X0_59_X0 rfl eu2 (s_X0_cutOnce er3) rfl rfl (by decide) (Nat.le_of_ble_eq_true rfl) (Nat.le_refl 0) (Nat.le_refl _) (Or.inl rfl) rfl ?_
      obtain ⟨x4, ex4, H⟩ := ok_bind H
      refine r_iincE (w := (J 1)) hZ dX0_cutBy_34 (by decide) rfl (by decide) ex4 (r_pick [0, 1, 2, 3, 4] (ls' := [(0, .ref p0), (1, .ref p1), (2, .int p2), (3, .int p3), (4, .int x4)]) rfl ?_)
      refine r_goto (tgt := 12) hZ dX0_cutBy_37 (by decide) ?_
      exact r_pick [0, 1, 2, 3, 4] (ls' := [(0, .ref p0), (1, .ref p1), (2, .int p2), (3, .int p3), (4, .int x4)]) rfl (ih _ (ki_l H))
def f_X0_cutBy  (h : Hp) (a0 : Nat) (a1 : Nat) (a2 : Int32) (a3 : Int32) : Option (Hp) :=
  (gR h a0 0 4).bind fun x1 =>
  (f_J7_fill_53178 h x1 (J 31)).bind fun r2 =>
  (some (J 0)).bind fun x3 =>
  (iter (b_X0_cutBy_12 a0 a1 a2 a3) FU (x3, r2)).bind fun e4 =>
  some e4
set_option maxRecDepth 100000 in
set_option maxHeartbeats 4000000 in
theorem s_X0_cutBy {n : Nat} {h : Hp} {a0 : Nat} {a1 : Nat} {a2 : Int32} {a3 : Int32}  {r : Hp} (hf : f_X0_cutBy  h a0 a1 a2 a3 = some r) : Ev 4 yX0_cutBy cX0_cutBy 5 none [.ref a0, .ref a1, .int a2, .int a3] n h none n r := by
  refine Ev_of RX0 rfl (by decide) (Nat.le_of_ble_eq_true rfl) (Nat.le_refl _) (Or.inl rfl) (fun Z hZ hF hN hI => ?_)
  have H : Ok (f_X0_cutBy  h a0 a1 a2 a3) (fun y => y = r) := ⟨_, hf, rfl⟩
  unfold f_X0_cutBy at H
  refine r_ls (ls' := [(0, .ref a0), (1, .ref a1), (2, .int a2), (3, .int a3)]) rfl ?_
  refine r_aload_n hZ dX0_cutBy_0 rfl ?_
  obtain ⟨x1, ex1, H⟩ := ok_bind H
  refine r_getR hZ fl_X0_15_0 dX0_cutBy_1 ex1 ?_
  refine r_bipush (v := (J 31)) hZ dX0_cutBy_4 (by decide) ?_
  obtain ⟨r2, er2, H⟩ := ok_bind H
  refine r_callS (As := [.ref x1, .int (J 31)]) (rest := []) (st1 := []) (N2 := 0) hZ dX0_cutBy_6 cw_X0_28 (s_J7_fill_53178 er2) rfl rfl (by decide) (Nat.le_of_ble_eq_true rfl) (Nat.le_refl 0) (Nat.le_refl _) (Or.inl rfl) rfl ?_
  refine r_iconst (v := (J 0)) hZ dX0_cutBy_9 (by decide) ?_
  obtain ⟨x3, ex3, H⟩ := ok_bind H
  refine r_topi ex3 ?_
  refine r_istore hZ dX0_cutBy_10 (by decide) (r_pick [0, 1, 2, 3, 4] (ls' := [(0, .ref a0), (1, .ref a1), (2, .int a2), (3, .int a3), (4, .int x3)]) rfl ?_)
  have H := ok_bindK H
  refine r_pick [0, 1, 2, 3, 4] (ls' := [(0, .ref a0), (1, .ref a1), (2, .int a2), (3, .int a3), (4, .int x3)]) rfl (l_X0_cutBy_12 hZ (fun e4 H => ?_) FU _ H)
  · have H := ok_some H
    subst H
    exact r_ret hZ hF dX0_cutBy_40
def f_X0_wearAt  (h : Hp) (a0 : Nat) (a1 : Int32) : Option (Hp) :=
  (gR h a0 0 4).bind fun x1 =>
  (gR h a0 0 4).bind fun x2 =>
  (aI h x2 a1).bind fun x3 =>
  (sI h x1 a1 (if (x3 - (J 1)) < (J 0) then (J 0) else (x3 - (J 1)))).bind fun h4 =>
  some h4
set_option maxRecDepth 100000 in
set_option maxHeartbeats 4000000 in
theorem s_X0_wearAt {n : Nat} {h : Hp} {a0 : Nat} {a1 : Int32}  {r : Hp} (hf : f_X0_wearAt  h a0 a1 = some r) : Ev 2 yX0_wearAt cX0_wearAt 2 none [.ref a0, .int a1] n h none n r := by
  refine Ev_of RX0 rfl (by decide) (Nat.le_of_ble_eq_true rfl) (Nat.le_refl _) (Or.inl rfl) (fun Z hZ hF hN hI => ?_)
  have H : Ok (f_X0_wearAt  h a0 a1) (fun y => y = r) := ⟨_, hf, rfl⟩
  unfold f_X0_wearAt at H
  refine r_ls (ls' := [(0, .ref a0), (1, .int a1)]) rfl ?_
  refine r_aload_n hZ dX0_wearAt_0 rfl ?_
  obtain ⟨x1, ex1, H⟩ := ok_bind H
  refine r_getR hZ fl_X0_15_0 dX0_wearAt_1 ex1 ?_
  refine r_iload_n hZ dX0_wearAt_4 rfl ?_
  refine r_aload_n hZ dX0_wearAt_5 rfl ?_
  obtain ⟨x2, ex2, H⟩ := ok_bind H
  refine r_getR hZ fl_X0_15_0 dX0_wearAt_6 ex2 ?_
  refine r_iload_n hZ dX0_wearAt_9 rfl ?_
  obtain ⟨x3, ex3, H⟩ := ok_bind H
  refine r_aI hZ dX0_wearAt_10 ex3 ?_
  refine r_iconst (v := (J 1)) hZ dX0_wearAt_11 (by decide) ?_
  refine r_isub hZ dX0_wearAt_12 ?_
  refine r_iconst (v := (J 0)) hZ dX0_wearAt_13 (by decide) ?_
  refine r_max hZ dX0_wearAt_14 wM_X0_56 (by decide) (Nat.le_of_ble_eq_true rfl) (Nat.le_refl 0) ?_
  obtain ⟨h4, eh4, H⟩ := ok_bind H
  refine r_sI hZ dX0_wearAt_17 eh4 ?_
  have H := ok_some H
  subst H
  exact r_ret hZ hF dX0_wearAt_18
def f_X0_heaviness  (h : Hp) (a0 : Nat) : Option (Int32) :=
  (gI h a0 0 2).bind fun x1 =>
  (isO h a0 0).bind fun u2 =>
  (f_X0_hard h a0).bind fun r3 =>
  (some (((J 100) + x1) + r3)).bind fun x4 =>
  (gI h a0 0 1).bind fun x5 =>
  (if x5 = (J 1) then
    (isO h a0 0).bind fun u6 =>
    (f_X0_thin h a0).bind fun r7 =>
    some (x4 + r7)
  else
    (if x5 = (J 2) then
      (isO h a0 0).bind fun u9 =>
      (f_X0_thin h a0).bind fun r10 =>
      some (x4 + r10)
    else
      (if x5 = (J 3) then
        (isO h a0 0).bind fun u12 =>
        (f_X0_thin h a0).bind fun r13 =>
        some ((J 2) * (x4 + r13))
      else
        (if x5 = (J 4) then
          (isO h a0 0).bind fun u15 =>
          (f_X0_top h a0).bind fun r16 =>
          some (x4 + r16)
        else
          some x4))))
set_option maxRecDepth 100000 in
set_option maxHeartbeats 4000000 in
theorem s_X0_heaviness {n : Nat} {h : Hp} {a0 : Nat}  {r : Int32} (hf : f_X0_heaviness  h a0 = some r) : Ev 4 yX0_heaviness cX0_heaviness 2 (some .int) [.ref a0] n h (some (.int r)) n h := by
  refine Ev_of RX0 rfl (by decide) (Nat.le_of_ble_eq_true rfl) (Nat.le_refl _) (Or.inl rfl) (fun Z hZ hF hN hI => ?_)
  have H : Ok (f_X0_heaviness  h a0) (fun y => y = r) := ⟨_, hf, rfl⟩
  unfold f_X0_heaviness at H
  refine r_ls (ls' := [(0, .ref a0)]) rfl ?_
  refine r_bipush (v := (J 100)) hZ dX0_heaviness_0 (by decide) ?_
  refine r_aload_n hZ dX0_heaviness_2 rfl ?_
  obtain ⟨x1, ex1, H⟩ := ok_bind H
  refine r_getI hZ fl_X0_11_0 dX0_heaviness_3 ex1 ?_
  refine r_iadd hZ dX0_heaviness_6 ?_
  refine r_aload_n hZ dX0_heaviness_7 rfl ?_
  obtain ⟨u2, eu2, H⟩ := ok_bind H
  obtain ⟨r3, er3, H⟩ := ok_bind H
  refine r_callV (As := []) (rest := [.int ((J 100) + x1)]) (st1 := [.int r3, .int ((J 100) + x1)]) (N2 := 0) hZ dX0_heaviness_8 cw_X0_67_X0 rfl eu2 (s_X0_hard er3) rfl rfl (by decide) (Nat.le_of_ble_eq_true rfl) (Nat.le_refl 0) (Nat.le_refl _) (Or.inl rfl) rfl ?_
  refine r_iadd hZ dX0_heaviness_11 ?_
  obtain ⟨x4, ex4, H⟩ := ok_bind H
  refine r_topi ex4 ?_
  refine r_istore_n hZ dX0_heaviness_12 (by decide) (r_pick [0, 1] (ls' := [(0, .ref a0), (1, .int x4)]) rfl ?_)
  refine r_aload_n hZ dX0_heaviness_13 rfl ?_
  obtain ⟨x5, ex5, H⟩ := ok_bind H
  refine r_getI hZ fl_X0_22_0 dX0_heaviness_14 ex5 ?_
  by_cases c8 : x5 = (J 1)
  · have hs : R Z 48 [(0, .ref a0), (1, .int x4)] [] n h 0 → R Z 17 [(0, .ref a0), (1, .int x4)] [.int x5] n h 0 := by
      exact fun k => r_tableIn hZ dX0_heaviness_17 (by rw [c8]; decide) (by rw [c8]; decide) (off := 31) (by rw [c8]; rfl) (by decide) k
    refine hs ?_
    clear hs
    have H := ok_t H c8
    refine r_iload_n hZ dX0_heaviness_48 rfl ?_
    refine r_aload_n hZ dX0_heaviness_49 rfl ?_
    obtain ⟨u6, eu6, H⟩ := ok_bind H
    obtain ⟨r7, er7, H⟩ := ok_bind H
    refine r_callV (As := []) (rest := [.int x4]) (st1 := [.int r7, .int x4]) (N2 := 0) hZ dX0_heaviness_50 cw_X0_71_X0 rfl eu6 (s_X0_thin er7) rfl rfl (by decide) (Nat.le_of_ble_eq_true rfl) (Nat.le_refl 0) (Nat.le_refl _) (Or.inl rfl) rfl ?_
    refine r_iadd hZ dX0_heaviness_53 ?_
    have H := ok_some H
    subst H
    exact r_iret hZ hF dX0_heaviness_54
  · have H := ok_f H c8
    by_cases c11 : x5 = (J 2)
    · have hs : R Z 55 [(0, .ref a0), (1, .int x4)] [] n h 0 → R Z 17 [(0, .ref a0), (1, .int x4)] [.int x5] n h 0 := by
        exact fun k => r_tableIn hZ dX0_heaviness_17 (by rw [c11]; decide) (by rw [c11]; decide) (off := 38) (by rw [c11]; rfl) (by decide) k
      refine hs ?_
      clear hs
      have H := ok_t H c11
      refine r_iload_n hZ dX0_heaviness_55 rfl ?_
      refine r_aload_n hZ dX0_heaviness_56 rfl ?_
      obtain ⟨u9, eu9, H⟩ := ok_bind H
      obtain ⟨r10, er10, H⟩ := ok_bind H
      refine r_callV (As := []) (rest := [.int x4]) (st1 := [.int r10, .int x4]) (N2 := 0) hZ dX0_heaviness_57 cw_X0_71_X0 rfl eu9 (s_X0_thin er10) rfl rfl (by decide) (Nat.le_of_ble_eq_true rfl) (Nat.le_refl 0) (Nat.le_refl _) (Or.inl rfl) rfl ?_
      refine r_iadd hZ dX0_heaviness_60 ?_
      have H := ok_some H
      subst H
      exact r_iret hZ hF dX0_heaviness_61
    · have H := ok_f H c11
      by_cases c14 : x5 = (J 3)
      · have hs : R Z 62 [(0, .ref a0), (1, .int x4)] [] n h 0 → R Z 17 [(0, .ref a0), (1, .int x4)] [.int x5] n h 0 := by
          exact fun k => r_tableIn hZ dX0_heaviness_17 (by rw [c14]; decide) (by rw [c14]; decide) (off := 45) (by rw [c14]; rfl) (by decide) k
        refine hs ?_
        clear hs
        have H := ok_t H c14
        refine r_iconst (v := (J 2)) hZ dX0_heaviness_62 (by decide) ?_
        refine r_iload_n hZ dX0_heaviness_63 rfl ?_
        refine r_aload_n hZ dX0_heaviness_64 rfl ?_
        obtain ⟨u12, eu12, H⟩ := ok_bind H
        obtain ⟨r13, er13, H⟩ := ok_bind H
        refine r_callV (As := []) (rest := [.int x4, .int (J 2)]) (st1 := [.int r13, .int x4, .int (J 2)]) (N2 := 0) hZ dX0_heaviness_65 cw_X0_71_X0 rfl eu12 (s_X0_thin er13) rfl rfl (by decide) (Nat.le_of_ble_eq_true rfl) (Nat.le_refl 0) (Nat.le_refl _) (Or.inl rfl) rfl ?_
        refine r_iadd hZ dX0_heaviness_68 ?_
        refine r_imul hZ dX0_heaviness_69 ?_
        have H := ok_some H
        subst H
        exact r_iret hZ hF dX0_heaviness_70
      · have H := ok_f H c14
        by_cases c17 : x5 = (J 4)
        · have hs : R Z 71 [(0, .ref a0), (1, .int x4)] [] n h 0 → R Z 17 [(0, .ref a0), (1, .int x4)] [.int x5] n h 0 := by
            exact fun k => r_tableIn hZ dX0_heaviness_17 (by rw [c17]; decide) (by rw [c17]; decide) (off := 54) (by rw [c17]; rfl) (by decide) k
          refine hs ?_
          clear hs
          have H := ok_t H c17
          refine r_iload_n hZ dX0_heaviness_71 rfl ?_
          refine r_aload_n hZ dX0_heaviness_72 rfl ?_
          obtain ⟨u15, eu15, H⟩ := ok_bind H
          obtain ⟨r16, er16, H⟩ := ok_bind H
          refine r_callV (As := []) (rest := [.int x4]) (st1 := [.int r16, .int x4]) (N2 := 0) hZ dX0_heaviness_73 cw_X0_74_X0 rfl eu15 (s_X0_top er16) rfl rfl (by decide) (Nat.le_of_ble_eq_true rfl) (Nat.le_refl 0) (Nat.le_refl _) (Or.inl rfl) rfl ?_
          refine r_iadd hZ dX0_heaviness_76 ?_
          have H := ok_some H
          subst H
          exact r_iret hZ hF dX0_heaviness_77
        · have H := ok_f H c17
          refine r_tableOut (tgt := 78) hZ dX0_heaviness_17 (by have := sw_n c8; have := sw_n c11; have := sw_n c14; have := sw_n c17; omega) (by decide) ?_
          refine r_iload_n hZ dX0_heaviness_78 rfl ?_
          have H := ok_some H
          subst H
          exact r_iret hZ hF dX0_heaviness_79
def f_X0_failureNumber  (h : Hp) (a0 : Nat) : Option (Int32) :=
  (gI h a0 0 1).bind fun x1 =>
  ((if x1 = (J 2) then
    (gI h a0 0 0).bind fun x4 =>
    (isO h a0 0).bind fun u5 =>
    (f_X0_thin h a0).bind fun r6 =>
    some ((x4 + (J 100)) + r6)
  else
    (gI h a0 0 0).bind fun x3 =>
    some x3)).bind fun (j2 : Int32) =>
  some j2
set_option maxRecDepth 100000 in
set_option maxHeartbeats 4000000 in
theorem s_X0_failureNumber {n : Nat} {h : Hp} {a0 : Nat}  {r : Int32} (hf : f_X0_failureNumber  h a0 = some r) : Ev 3 yX0_failureNumber cX0_failureNumber 1 (some .int) [.ref a0] n h (some (.int r)) n h := by
  refine Ev_of RX0 rfl (by decide) (Nat.le_of_ble_eq_true rfl) (Nat.le_refl _) (Or.inl rfl) (fun Z hZ hF hN hI => ?_)
  have H : Ok (f_X0_failureNumber  h a0) (fun y => y = r) := ⟨_, hf, rfl⟩
  unfold f_X0_failureNumber at H
  refine r_ls (ls' := [(0, .ref a0)]) rfl ?_
  refine r_aload_n hZ dX0_failureNumber_0 rfl ?_
  obtain ⟨x1, ex1, H⟩ := ok_bind H
  refine r_getI hZ fl_X0_22_0 dX0_failureNumber_1 ex1 ?_
  refine r_iconst (v := (J 2)) hZ dX0_failureNumber_4 (by decide) ?_
  refine ok_join (Q := fun j2 : Int32 => R Z 27 [] [.int j2] n h 0) H (fun j2 H => ?_) (fun H => ?_)
  · have H := ok_some H
    subst H
    exact r_iret hZ hF dX0_failureNumber_27
  · refine r_icmp_ne (tgt := 23) hZ dX0_failureNumber_5 (by decide) (fun c7 => ?_) (fun c7 => ?_)
    · have H := ok_f H c7
      refine r_aload_n hZ dX0_failureNumber_23 rfl ?_
      obtain ⟨x3, ex3, H⟩ := ok_bind H
      refine r_getI hZ fl_X0_19_0 dX0_failureNumber_24 ex3 ?_
      have H := ok_some H
      exact r_pick [] (ls' := []) rfl H
    · have H := ok_t H c7
      refine r_aload_n hZ dX0_failureNumber_8 rfl ?_
      obtain ⟨x4, ex4, H⟩ := ok_bind H
      refine r_getI hZ fl_X0_19_0 dX0_failureNumber_9 ex4 ?_
      refine r_bipush (v := (J 100)) hZ dX0_failureNumber_12 (by decide) ?_
      refine r_iadd hZ dX0_failureNumber_14 ?_
      refine r_aload_n hZ dX0_failureNumber_15 rfl ?_
      obtain ⟨u5, eu5, H⟩ := ok_bind H
      obtain ⟨r6, er6, H⟩ := ok_bind H
      refine r_callV (As := []) (rest := [.int (x4 + (J 100))]) (st1 := [.int r6, .int (x4 + (J 100))]) (N2 := 0) hZ dX0_failureNumber_16 cw_X0_71_X0 rfl eu5 (s_X0_thin er6) rfl rfl (by decide) (Nat.le_of_ble_eq_true rfl) (Nat.le_refl 0) (Nat.le_refl _) (Or.inl rfl) rfl ?_
      refine r_iadd hZ dX0_failureNumber_19 ?_
      refine r_goto (tgt := 27) hZ dX0_failureNumber_20 (by decide) ?_
      have H := ok_some H
      exact r_pick [] (ls' := []) rfl H
