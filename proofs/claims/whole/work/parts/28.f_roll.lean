def f_X2_init  (N2 n : Nat) (h : Hp) (a0 : Nat) : Option (Hp) :=
  (cap (n + 1) N2).bind fun u1 =>
  (pF (va_up h n (some (0, .inr (6, .inl fun _ => 0)))) a0 2 0 (.ref n)).bind fun h2 =>
  (cap ((n + 1) + 1) N2).bind fun u3 =>
  (pF (va_up h2 (n + 1) (some (0, .inr (6, .inl fun _ => 0)))) a0 2 1 (.ref (n + 1))).bind fun h4 =>
  (eqn ((n + 1) + 1) N2).bind fun u5 =>
  some h4
set_option maxRecDepth 100000 in
set_option maxHeartbeats 4000000 in
theorem s_X2_init {n : Nat} {h : Hp} {a0 : Nat}  {r : Hp} {N2 : Nat} (hB : n ≤ N2 ∧ N2 ≤ BB) (hf : f_X2_init  N2 n h a0 = some r) : Ev 2 yX2_init cX2_init 1 none [.ref a0] n h none N2 r := by
  refine Ev_of RX2 rfl (by decide) (Nat.le_of_ble_eq_true rfl) hB.1 (Or.inr hB.2) (fun Z hZ hF hN hI => ?_)
  have hN := hN hB.2
  have hI := hI rfl
  have H : Ok (f_X2_init  N2 n h a0) (fun y => y = r) := ⟨_, hf, rfl⟩
  unfold f_X2_init at H
  refine r_ls (ls' := [(0, .ref a0)]) rfl ?_
  refine r_aload_n hZ dX2_init_0 rfl ?_
  refine r_objinit hZ wi_X2_3 wi_i wi_c dX2_init_1 (by decide) (Nat.le_of_ble_eq_true rfl) ?_
  refine r_aload_n hZ dX2_init_4 rfl ?_
  refine r_bipush (v := (J 6)) hZ dX2_init_5 (by decide) ?_
  obtain ⟨u1, eu1, H⟩ := ok_bind H
  refine r_newI (len := 6) hZ hN wa_int (by decide) (by decide) (by decide) dX2_init_7 (cap_le eu1) (Nat.le_refl 0) ?_
  obtain ⟨h2, eh2, H⟩ := ok_bind H
  refine r_putF hZ hI fl_X2_9_2 dX2_init_9 eh2 rfl rfl rfl ?_
  refine r_aload_n hZ dX2_init_12 rfl ?_
  refine r_bipush (v := (J 6)) hZ dX2_init_13 (by decide) ?_
  obtain ⟨u3, eu3, H⟩ := ok_bind H
  refine r_newI (len := 6) hZ hN wa_int (by decide) (by decide) (by decide) dX2_init_15 (cap_le eu3) (Nat.le_refl 0) ?_
  obtain ⟨h4, eh4, H⟩ := ok_bind H
  refine r_putF hZ hI fl_X2_15_2 dX2_init_17 eh4 rfl rfl rfl ?_
  obtain ⟨u5, eu5, H⟩ := ok_bind H
  have H := ok_some H
  subst H
  have eu5 := eqn_eq eu5
  rw [eu5]
  exact r_ret hZ hF dX2_init_20
def f_X2_takeFrom  (h : Hp) (a0 : Nat) (a1 : Nat) : Option (Hp) :=
  (gI h a1 2 2).bind fun x1 =>
  (pF h a0 2 2 (.int x1)).bind fun h2 =>
  (gR h2 a1 2 0).bind fun x3 =>
  (gR h2 a0 2 0).bind fun x4 =>
  (cpI h2 x3 (J 0) x4 (J 0) (J 6)).bind fun h5 =>
  (gR h5 a1 2 1).bind fun x6 =>
  (gR h5 a0 2 1).bind fun x7 =>
  (cpI h5 x6 (J 0) x7 (J 0) (J 6)).bind fun h8 =>
  some h8
set_option maxRecDepth 100000 in
set_option maxHeartbeats 4000000 in
theorem s_X2_takeFrom {n : Nat} {h : Hp} {a0 : Nat} {a1 : Nat}  {r : Hp} (hf : f_X2_takeFrom  h a0 a1 = some r) : Ev 2 yX2_takeFrom cX2_takeFrom 2 none [.ref a0, .ref a1] n h none n r := by
  refine Ev_of RX2 rfl (by decide) (Nat.le_of_ble_eq_true rfl) (Nat.le_refl _) (Or.inl rfl) (fun Z hZ hF hN hI => ?_)
  have H : Ok (f_X2_takeFrom  h a0 a1) (fun y => y = r) := ⟨_, hf, rfl⟩
  unfold f_X2_takeFrom at H
  refine r_ls (ls' := [(0, .ref a0), (1, .ref a1)]) rfl ?_
  refine r_aload_n hZ dX2_takeFrom_0 rfl ?_
  refine r_aload_n hZ dX2_takeFrom_1 rfl ?_
  obtain ⟨x1, ex1, H⟩ := ok_bind H
  refine r_getI hZ fl_X2_18_2 dX2_takeFrom_2 ex1 ?_
  obtain ⟨h2, eh2, H⟩ := ok_bind H
  refine r_putf hZ fl_X2_18_2 dX2_takeFrom_5 eh2 rfl rfl ?_
  refine r_aload_n hZ dX2_takeFrom_8 rfl ?_
  obtain ⟨x3, ex3, H⟩ := ok_bind H
  refine r_getR hZ fl_X2_9_2 dX2_takeFrom_9 ex3 ?_
  refine r_iconst (v := (J 0)) hZ dX2_takeFrom_12 (by decide) ?_
  refine r_aload_n hZ dX2_takeFrom_13 rfl ?_
  obtain ⟨x4, ex4, H⟩ := ok_bind H
  refine r_getR hZ fl_X2_9_2 dX2_takeFrom_14 ex4 ?_
  refine r_iconst (v := (J 0)) hZ dX2_takeFrom_17 (by decide) ?_
  refine r_bipush (v := (J 6)) hZ dX2_takeFrom_18 (by decide) ?_
  obtain ⟨h5, eh5, H⟩ := ok_bind H
  refine r_cpI hZ dX2_takeFrom_20 wC_X2_22 eh5 (by decide) (Nat.le_of_ble_eq_true rfl) ?_
  refine r_aload_n hZ dX2_takeFrom_23 rfl ?_
  obtain ⟨x6, ex6, H⟩ := ok_bind H
  refine r_getR hZ fl_X2_15_2 dX2_takeFrom_24 ex6 ?_
  refine r_iconst (v := (J 0)) hZ dX2_takeFrom_27 (by decide) ?_
  refine r_aload_n hZ dX2_takeFrom_28 rfl ?_
  obtain ⟨x7, ex7, H⟩ := ok_bind H
  refine r_getR hZ fl_X2_15_2 dX2_takeFrom_29 ex7 ?_
  refine r_iconst (v := (J 0)) hZ dX2_takeFrom_32 (by decide) ?_
  refine r_bipush (v := (J 6)) hZ dX2_takeFrom_33 (by decide) ?_
  obtain ⟨h8, eh8, H⟩ := ok_bind H
  refine r_cpI hZ dX2_takeFrom_35 wC_X2_22 eh8 (by decide) (Nat.le_of_ble_eq_true rfl) ?_
  have H := ok_some H
  subst H
  exact r_ret hZ hF dX2_takeFrom_38
def f_X2_addPair  (h : Hp) (a0 : Nat) (a1 : Int32) (a2 : Int32) : Option (Hp) :=
  (gR h a0 2 0).bind fun x1 =>
  (gI h a0 2 2).bind fun x2 =>
  (sI h x1 x2 a1).bind fun h3 =>
  (gR h3 a0 2 1).bind fun x4 =>
  (gI h3 a0 2 2).bind fun x5 =>
  (sI h3 x4 x5 a2).bind fun h6 =>
  (gI h6 a0 2 2).bind fun x7 =>
  (pF h6 a0 2 2 (.int (x7 + (J 1)))).bind fun h8 =>
  some h8
set_option maxRecDepth 100000 in
set_option maxHeartbeats 4000000 in
theorem s_X2_addPair {n : Nat} {h : Hp} {a0 : Nat} {a1 : Int32} {a2 : Int32}  {r : Hp} (hf : f_X2_addPair  h a0 a1 a2 = some r) : Ev 2 yX2_addPair cX2_addPair 3 none [.ref a0, .int a1, .int a2] n h none n r := by
  refine Ev_of RX2 rfl (by decide) (Nat.le_of_ble_eq_true rfl) (Nat.le_refl _) (Or.inl rfl) (fun Z hZ hF hN hI => ?_)
  have H : Ok (f_X2_addPair  h a0 a1 a2) (fun y => y = r) := ⟨_, hf, rfl⟩
  unfold f_X2_addPair at H
  refine r_ls (ls' := [(0, .ref a0), (1, .int a1), (2, .int a2)]) rfl ?_
  refine r_aload_n hZ dX2_addPair_0 rfl ?_
  obtain ⟨x1, ex1, H⟩ := ok_bind H
  refine r_getR hZ fl_X2_9_2 dX2_addPair_1 ex1 ?_
  refine r_aload_n hZ dX2_addPair_4 rfl ?_
  obtain ⟨x2, ex2, H⟩ := ok_bind H
  refine r_getI hZ fl_X2_18_2 dX2_addPair_5 ex2 ?_
  refine r_iload_n hZ dX2_addPair_8 rfl ?_
  obtain ⟨h3, eh3, H⟩ := ok_bind H
  refine r_sI hZ dX2_addPair_9 eh3 ?_
  refine r_aload_n hZ dX2_addPair_10 rfl ?_
  obtain ⟨x4, ex4, H⟩ := ok_bind H
  refine r_getR hZ fl_X2_15_2 dX2_addPair_11 ex4 ?_
  refine r_aload_n hZ dX2_addPair_14 rfl ?_
  obtain ⟨x5, ex5, H⟩ := ok_bind H
  refine r_getI hZ fl_X2_18_2 dX2_addPair_15 ex5 ?_
  refine r_iload_n hZ dX2_addPair_18 rfl ?_
  obtain ⟨h6, eh6, H⟩ := ok_bind H
  refine r_sI hZ dX2_addPair_19 eh6 ?_
  refine r_aload_n hZ dX2_addPair_20 rfl ?_
  refine r_dup_a hZ dX2_addPair_21 ?_
  obtain ⟨x7, ex7, H⟩ := ok_bind H
  refine r_getI hZ fl_X2_18_2 dX2_addPair_22 ex7 ?_
  refine r_iconst (v := (J 1)) hZ dX2_addPair_25 (by decide) ?_
  refine r_iadd hZ dX2_addPair_26 ?_
  obtain ⟨h8, eh8, H⟩ := ok_bind H
  refine r_putf hZ fl_X2_18_2 dX2_addPair_27 eh8 rfl rfl ?_
  have H := ok_some H
  subst H
  exact r_ret hZ hF dX2_addPair_30
def f_X2_shareAt  (h : Hp) (a0 : Nat) (a1 : Int32) (a2 : Int32) : Option (Int32) :=
  (gR h a0 2 1).bind fun x1 =>
  (aI h x1 a1).bind fun x2 =>
  (gR h a0 2 0).bind fun x3 =>
  (aI h x3 a1).bind fun x4 =>
  some (x2 * (if (a2 - x4) < (J 0) then (J 0) else (a2 - x4)))
set_option maxRecDepth 100000 in
set_option maxHeartbeats 4000000 in
theorem s_X2_shareAt {n : Nat} {h : Hp} {a0 : Nat} {a1 : Int32} {a2 : Int32}  {r : Int32} (hf : f_X2_shareAt  h a0 a1 a2 = some r) : Ev 2 yX2_shareAt cX2_shareAt 3 (some .int) [.ref a0, .int a1, .int a2] n h (some (.int r)) n h := by
  refine Ev_of RX2 rfl (by decide) (Nat.le_of_ble_eq_true rfl) (Nat.le_refl _) (Or.inl rfl) (fun Z hZ hF hN hI => ?_)
  have H : Ok (f_X2_shareAt  h a0 a1 a2) (fun y => y = r) := ⟨_, hf, rfl⟩
  unfold f_X2_shareAt at H
  refine r_ls (ls' := [(0, .ref a0), (1, .int a1), (2, .int a2)]) rfl ?_
  refine r_aload_n hZ dX2_shareAt_0 rfl ?_
  obtain ⟨x1, ex1, H⟩ := ok_bind H
  refine r_getR hZ fl_X2_15_2 dX2_shareAt_1 ex1 ?_
  refine r_iload_n hZ dX2_shareAt_4 rfl ?_
  obtain ⟨x2, ex2, H⟩ := ok_bind H
  refine r_aI hZ dX2_shareAt_5 ex2 ?_
  refine r_iload_n hZ dX2_shareAt_6 rfl ?_
  refine r_aload_n hZ dX2_shareAt_7 rfl ?_
  obtain ⟨x3, ex3, H⟩ := ok_bind H
  refine r_getR hZ fl_X2_9_2 dX2_shareAt_8 ex3 ?_
  refine r_iload_n hZ dX2_shareAt_11 rfl ?_
  obtain ⟨x4, ex4, H⟩ := ok_bind H
  refine r_aI hZ dX2_shareAt_12 ex4 ?_
  refine r_isub hZ dX2_shareAt_13 ?_
  refine r_iconst (v := (J 0)) hZ dX2_shareAt_14 (by decide) ?_
  refine r_max hZ dX2_shareAt_15 wM_X2_28 (by decide) (Nat.le_of_ble_eq_true rfl) (Nat.le_refl 0) ?_
  refine r_imul hZ dX2_shareAt_18 ?_
  have H := ok_some H
  subst H
  exact r_iret hZ hF dX2_shareAt_19
def b_X2_sumAt_4 (h : Hp) (p0 : Nat) (p1 : Int32) (s : Int32 × Int32) : Option ((Int32 × Int32) ⊕ ((Int32))) :=
  (gI h p0 2 2).bind fun x1 =>
  (if x1 ≤ s.2 then
    some (.inr (s.1))
  else
    (isO h p0 2).bind fun u2 =>
    (f_X2_shareAt h p0 s.2 p1).bind fun r3 =>
    (some (s.1 + r3)).bind fun x4 =>
    (some (s.2 + (J 1))).bind fun x5 =>
    some (.inl (x4, x5)))
set_option maxRecDepth 100000 in
set_option maxHeartbeats 4000000 in
theorem l_X2_sumAt_4 {Z : Zc} (hZ : Fx cX2_sumAt RX2 4 3 0 Z) {n : Nat} {h : Hp} {p0 : Nat} {p1 : Int32} {P : ((Int32)) → Prop} (hx0 : ∀ e : Int32, P (e) → R Z 27 [(2, .int e)] [] n h 0) : ∀ (m : Nat) (s : Int32 × Int32), Ok (iter (b_X2_sumAt_4 h p0 p1) m s) P → R Z 4 [(0, .ref p0), (1, .int p1), (2, .int s.1), (3, .int s.2)] [] n h 0 := by
  intro m
  induction m with
  | zero => exact fun s H => ok_iter0 H
  | succ m ih =>
    intro s H
    have H := ok_iter H
    unfold b_X2_sumAt_4 at H
    refine r_iload_n hZ dX2_sumAt_4 rfl ?_
    refine r_aload_n hZ dX2_sumAt_5 rfl ?_
    obtain ⟨x1, ex1, H⟩ := ok_bind H
    refine r_getI hZ fl_X2_18_2 dX2_sumAt_6 ex1 ?_
    refine r_icmp_ge (tgt := 27) hZ dX2_sumAt_9 (by decide) (fun c6 => ?_) (fun c6 => ?_)
    · have H := ok_t H c6
      exact r_pick [2] (ls' := [(2, .int s.1)]) rfl (hx0 _ (ki_r H))
    · have H := ok_f H c6
      refine r_iload_n hZ dX2_sumAt_12 rfl ?_
      refine r_aload_n hZ dX2_sumAt_13 rfl ?_
      refine r_iload_n hZ dX2_sumAt_14 rfl ?_
      refine r_iload_n hZ dX2_sumAt_15 rfl ?_
      obtain ⟨u2, eu2, H⟩ := ok_bind H
      obtain ⟨r3, er3, H⟩ := ok_bind H
      refine r_callV (As := [.int s.2, .int p1]) (rest := [.int s.1]) (st1 := [.int r3, .int s.1]) (N2 := 0) hZ dX2_sumAt_16 cw_X2_34_X2 rfl eu2 (s_X2_shareAt er3) rfl rfl (by decide) (Nat.le_of_ble_eq_true rfl) (Nat.le_refl 0) (Nat.le_refl _) (Or.inl rfl) rfl ?_
      refine r_iadd hZ dX2_sumAt_19 ?_
      obtain ⟨x4, ex4, H⟩ := ok_bind H
      refine r_topi ex4 ?_
      refine r_istore_n hZ dX2_sumAt_20 (by decide) (r_pick [0, 1, 2, 3] (ls' := [(0, .ref p0), (1, .int p1), (2, .int x4), (3, .int s.2)]) rfl ?_)
      obtain ⟨x5, ex5, H⟩ := ok_bind H
      refine r_iincE (w := (J 1)) hZ dX2_sumAt_21 (by decide) rfl (by decide) ex5 (r_pick [0, 1, 2, 3] (ls' := [(0, .ref p0), (1, .int p1), (2, .int x4), (3, .int x5)]) rfl ?_)
      refine r_goto (tgt := 4) hZ dX2_sumAt_24 (by decide) ?_
      exact r_pick [0, 1, 2, 3] (ls' := [(0, .ref p0), (1, .int p1), (2, .int x4), (3, .int x5)]) rfl (ih _ (ki_l H))
def f_X2_sumAt  (h : Hp) (a0 : Nat) (a1 : Int32) : Option (Int32) :=
  (some (J 0)).bind fun x1 =>
  (some (J 0)).bind fun x2 =>
  (iter (b_X2_sumAt_4 h a0 a1) FU (x1, x2)).bind fun e3 =>
  some e3
set_option maxRecDepth 100000 in
set_option maxHeartbeats 4000000 in
theorem s_X2_sumAt {n : Nat} {h : Hp} {a0 : Nat} {a1 : Int32}  {r : Int32} (hf : f_X2_sumAt  h a0 a1 = some r) : Ev 3 yX2_sumAt cX2_sumAt 4 (some .int) [.ref a0, .int a1] n h (some (.int r)) n h := by
  refine Ev_of RX2 rfl (by decide) (Nat.le_of_ble_eq_true rfl) (Nat.le_refl _) (Or.inl rfl) (fun Z hZ hF hN hI => ?_)
  have H : Ok (f_X2_sumAt  h a0 a1) (fun y => y = r) := ⟨_, hf, rfl⟩
  unfold f_X2_sumAt at H
  refine r_ls (ls' := [(0, .ref a0), (1, .int a1)]) rfl ?_
  refine r_iconst (v := (J 0)) hZ dX2_sumAt_0 (by decide) ?_
  obtain ⟨x1, ex1, H⟩ := ok_bind H
  refine r_topi ex1 ?_
  refine r_istore_n hZ dX2_sumAt_1 (by decide) (r_pick [0, 1, 2] (ls' := [(0, .ref a0), (1, .int a1), (2, .int x1)]) rfl ?_)
  refine r_iconst (v := (J 0)) hZ dX2_sumAt_2 (by decide) ?_
  obtain ⟨x2, ex2, H⟩ := ok_bind H
  refine r_topi ex2 ?_
  refine r_istore_n hZ dX2_sumAt_3 (by decide) (r_pick [0, 1, 2, 3] (ls' := [(0, .ref a0), (1, .int a1), (2, .int x1), (3, .int x2)]) rfl ?_)
  have H := ok_bindK H
  refine r_pick [0, 1, 2, 3] (ls' := [(0, .ref a0), (1, .int a1), (2, .int x1), (3, .int x2)]) rfl (l_X2_sumAt_4 hZ (fun e3 H => ?_) FU _ H)
  · refine r_iload_n hZ dX2_sumAt_27 rfl ?_
    have H := ok_some H
    subst H
    exact r_iret hZ hF dX2_sumAt_28
def b_X2_leastPush_23 (h : Hp) (p0 : Nat) (p1 : Int32) (s : Int32 × Int32 × Int32) : Option ((Int32 × Int32 × Int32) ⊕ ((Int32))) :=
  (if (J 32) ≤ s.2.2 then
    some (.inr (s.1))
  else
    (if s.2.1 ≤ s.1 then
      some (.inr (s.1))
    else
      (nz (J 2)).bind fun u1 =>
      (some ((s.1 + s.2.1) / (J 2))).bind fun x2 =>
      (isO h p0 2).bind fun u3 =>
      (f_X2_sumAt h p0 x2).bind fun r4 =>
      ((if r4 < p1 then
        (some (x2 + (J 1))).bind fun x6 =>
        some (x6, s.2.1)
      else
        some (s.1, x2))).bind fun (j5 : Int32 × Int32) =>
      (some (s.2.2 + (J 1))).bind fun x8 =>
      some (.inl (j5.1, j5.2, x8))))
set_option maxRecDepth 100000 in
set_option maxHeartbeats 4000000 in
theorem l_X2_leastPush_23 {Z : Zc} (hZ : Fx cX2_leastPush RX2 6 4 0 Z) {n : Nat} {h : Hp} {p0 : Nat} {p1 : Int32} {P : ((Int32)) → Prop} (hx0 : ∀ e : Int32, P (e) → R Z 69 [(2, .int e)] [] n h 0) : ∀ (m : Nat) (s : Int32 × Int32 × Int32), Ok (iter (b_X2_leastPush_23 h p0 p1) m s) P → R Z 23 [(0, .ref p0), (1, .int p1), (2, .int s.1), (3, .int s.2.1), (4, .int s.2.2)] [] n h 0 := by
  intro m
  induction m with
  | zero => exact fun s H => ok_iter0 H
  | succ m ih =>
    intro s H
    have H := ok_iter H
    unfold b_X2_leastPush_23 at H
    refine r_iload hZ dX2_leastPush_23 rfl ?_
    refine r_bipush (v := (J 32)) hZ dX2_leastPush_25 (by decide) ?_
    refine r_icmp_ge (tgt := 69) hZ dX2_leastPush_27 (by decide) (fun c10 => ?_) (fun c10 => ?_)
    · have H := ok_t H c10
      exact r_pick [2] (ls' := [(2, .int s.1)]) rfl (hx0 _ (ki_r H))
    · have H := ok_f H c10
      refine r_iload_n hZ dX2_leastPush_30 rfl ?_
      refine r_iload_n hZ dX2_leastPush_31 rfl ?_
      refine r_icmp_ge (tgt := 69) hZ dX2_leastPush_32 (by decide) (fun c9 => ?_) (fun c9 => ?_)
      · have H := ok_t H c9
        exact r_pick [2] (ls' := [(2, .int s.1)]) rfl (hx0 _ (ki_r H))
      · have H := ok_f H c9
        refine r_iload_n hZ dX2_leastPush_35 rfl ?_
        refine r_iload_n hZ dX2_leastPush_36 rfl ?_
        refine r_iadd hZ dX2_leastPush_37 ?_
        refine r_iconst (v := (J 2)) hZ dX2_leastPush_38 (by decide) ?_
        obtain ⟨u1, eu1, H⟩ := ok_bind H
        refine r_idiv hZ dX2_leastPush_39 (nz_ne eu1) ?_
        obtain ⟨x2, ex2, H⟩ := ok_bind H
        refine r_topi ex2 ?_
        refine r_istore hZ dX2_leastPush_40 (by decide) (r_pick [0, 1, 2, 3, 4, 5] (ls' := [(0, .ref p0), (1, .int p1), (2, .int s.1), (3, .int s.2.1), (4, .int s.2.2), (5, .int x2)]) rfl ?_)
        refine r_aload_n hZ dX2_leastPush_42 rfl ?_
        refine r_iload hZ dX2_leastPush_43 rfl ?_
        obtain ⟨u3, eu3, H⟩ := ok_bind H
        obtain ⟨r4, er4, H⟩ := ok_bind H
        refine r_callV (As := [.int x2]) (rest := []) (st1 := [.int r4]) (N2 := 0) hZ dX2_leastPush_45 cw_X2_37_X2 rfl eu3 (s_X2_sumAt er4) rfl rfl (by decide) (Nat.le_of_ble_eq_true rfl) (Nat.le_refl 0) (Nat.le_refl _) (Or.inl rfl) rfl ?_
        refine r_iload_n hZ dX2_leastPush_48 rfl ?_
        refine ok_join (Q := fun j5 : Int32 × Int32 => R Z 63 [(0, .ref p0), (1, .int p1), (2, .int j5.1), (3, .int j5.2), (4, .int s.2.2)] [] n h 0) H (fun j5 H => ?_) (fun H => ?_)
        · obtain ⟨x8, ex8, H⟩ := ok_bind H
          refine r_iincE (w := (J 1)) hZ dX2_leastPush_63 (by decide) rfl (by decide) ex8 (r_pick [0, 1, 2, 3, 4] (ls' := [(0, .ref p0), (1, .int p1), (2, .int j5.1), (3, .int j5.2), (4, .int x8)]) rfl ?_)
          refine r_goto (tgt := 23) hZ dX2_leastPush_66 (by decide) ?_
          exact r_pick [0, 1, 2, 3, 4] (ls' := [(0, .ref p0), (1, .int p1), (2, .int j5.1), (3, .int j5.2), (4, .int x8)]) rfl (ih _ (ki_l H))
        · refine r_icmp_lt (tgt := 58) hZ dX2_leastPush_49 (by decide) (fun c7 => ?_) (fun c7 => ?_)
          · have H := ok_t H c7
            refine r_iload hZ dX2_leastPush_58 rfl ?_
            refine r_iconst (v := (J 1)) hZ dX2_leastPush_60 (by decide) ?_
            refine r_iadd hZ dX2_leastPush_61 ?_
            obtain ⟨x6, ex6, H⟩ := ok_bind H
            refine r_topi ex6 ?_
            refine r_istore_n hZ dX2_leastPush_62 (by decide) (r_pick [0, 1, 2, 3, 4] (ls' := [(0, .ref p0), (1, .int p1), (2, .int x6), (3, .int s.2.1), (4, .int s.2.2)]) rfl ?_)
            have H := ok_some H
            exact r_pick [0, 1, 2, 3, 4] (ls' := [(0, .ref p0), (1, .int p1), (2, .int x6), (3, .int s.2.1), (4, .int s.2.2)]) rfl H
          · have H := ok_f H c7
            refine r_iload hZ dX2_leastPush_52 rfl ?_
            refine r_istore_n hZ dX2_leastPush_54 (by decide) (r_pick [0, 1, 2, 3, 4] (ls' := [(0, .ref p0), (1, .int p1), (2, .int s.1), (3, .int x2), (4, .int s.2.2)]) rfl ?_)
            refine r_goto (tgt := 63) hZ dX2_leastPush_55 (by decide) ?_
            have H := ok_some H
            exact r_pick [0, 1, 2, 3, 4] (ls' := [(0, .ref p0), (1, .int p1), (2, .int s.1), (3, .int x2), (4, .int s.2.2)]) rfl H
def f_X2_leastPush  (h : Hp) (a0 : Nat) (a1 : Int32) : Option (Int32) :=
  (isO h a0 2).bind fun u1 =>
  (f_X2_sumAt h a0 (J 9999)).bind fun r2 =>
  (if a1 ≤ r2 then
    (some (J 0)).bind fun x3 =>
    (some (J 9999)).bind fun x4 =>
    (some (J 0)).bind fun x5 =>
    (iter (b_X2_leastPush_23 h a0 a1) FU (x3, x4, x5)).bind fun e6 =>
    some e6
  else
    some (J (-4)))
set_option maxRecDepth 100000 in
set_option maxHeartbeats 4000000 in
theorem s_X2_leastPush {n : Nat} {h : Hp} {a0 : Nat} {a1 : Int32}  {r : Int32} (hf : f_X2_leastPush  h a0 a1 = some r) : Ev 4 yX2_leastPush cX2_leastPush 6 (some .int) [.ref a0, .int a1] n h (some (.int r)) n h := by
  refine Ev_of RX2 rfl (by decide) (Nat.le_of_ble_eq_true rfl) (Nat.le_refl _) (Or.inl rfl) (fun Z hZ hF hN hI => ?_)
  have H : Ok (f_X2_leastPush  h a0 a1) (fun y => y = r) := ⟨_, hf, rfl⟩
  unfold f_X2_leastPush at H
  refine r_ls (ls' := [(0, .ref a0), (1, .int a1)]) rfl ?_
  refine r_aload_n hZ dX2_leastPush_0 rfl ?_
  refine r_sipush (v := (J 9999)) hZ dX2_leastPush_1 (by decide) ?_
  obtain ⟨u1, eu1, H⟩ := ok_bind H
  obtain ⟨r2, er2, H⟩ := ok_bind H
  refine r_callV (As := [.int (J 9999)]) (rest := []) (st1 := [.int r2]) (N2 := 0) hZ dX2_leastPush_4 cw_X2_37_X2 rfl eu1 (s_X2_sumAt er2) rfl rfl (by decide) (Nat.le_of_ble_eq_true rfl) (Nat.le_refl 0) (Nat.le_refl _) (Or.inl rfl) rfl ?_
  refine r_iload_n hZ dX2_leastPush_7 rfl ?_
  refine r_icmp_ge (tgt := 14) hZ dX2_leastPush_8 (by decide) (fun c7 => ?_) (fun c7 => ?_)
  · have H := ok_t H c7
    refine r_iconst (v := (J 0)) hZ dX2_leastPush_14 (by decide) ?_
    obtain ⟨x3, ex3, H⟩ := ok_bind H
    refine r_topi ex3 ?_
    refine r_istore_n hZ dX2_leastPush_15 (by decide) (r_pick [0, 1, 2] (ls' := [(0, .ref a0), (1, .int a1), (2, .int x3)]) rfl ?_)
    refine r_sipush (v := (J 9999)) hZ dX2_leastPush_16 (by decide) ?_
    obtain ⟨x4, ex4, H⟩ := ok_bind H
    refine r_topi ex4 ?_
    refine r_istore_n hZ dX2_leastPush_19 (by decide) (r_pick [0, 1, 2, 3] (ls' := [(0, .ref a0), (1, .int a1), (2, .int x3), (3, .int x4)]) rfl ?_)
    refine r_iconst (v := (J 0)) hZ dX2_leastPush_20 (by decide) ?_
    obtain ⟨x5, ex5, H⟩ := ok_bind H
    refine r_topi ex5 ?_
    refine r_istore hZ dX2_leastPush_21 (by decide) (r_pick [0, 1, 2, 3, 4] (ls' := [(0, .ref a0), (1, .int a1), (2, .int x3), (3, .int x4), (4, .int x5)]) rfl ?_)
    have H := ok_bindK H
    refine r_pick [0, 1, 2, 3, 4] (ls' := [(0, .ref a0), (1, .int a1), (2, .int x3), (3, .int x4), (4, .int x5)]) rfl (l_X2_leastPush_23 hZ (fun e6 H => ?_) FU _ H)
    · refine r_iload_n hZ dX2_leastPush_69 rfl ?_
      have H := ok_some H
      subst H
      exact r_iret hZ hF dX2_leastPush_70
  · have H := ok_f H c7
    refine r_bipush (v := (J (-4))) hZ dX2_leastPush_11 (by decide) ?_
    have H := ok_some H
    subst H
    exact r_iret hZ hF dX2_leastPush_13
def b_X2_bearersAt_4 (h : Hp) (p0 : Nat) (p1 : Int32) (s : Int32 × Int32) : Option ((Int32 × Int32) ⊕ ((Int32))) :=
  (gI h p0 2 2).bind fun x1 =>
  (if x1 ≤ s.2 then
    some (.inr (s.1))
  else
    (isO h p0 2).bind fun u2 =>
    (f_X2_shareAt h p0 s.2 p1).bind fun r3 =>
    ((if r3 ≤ 0 then
      some s.1
    else
      (some (s.1 ||| ((J 1) <<< (s.2 &&& 31)))).bind fun x5 =>
      some x5)).bind fun (j4 : Int32) =>
    (some (s.2 + (J 1))).bind fun x7 =>
    some (.inl (j4, x7)))
set_option maxRecDepth 100000 in
set_option maxHeartbeats 4000000 in
theorem l_X2_bearersAt_4 {Z : Zc} (hZ : Fx cX2_bearersAt RX2 4 3 0 Z) {n : Nat} {h : Hp} {p0 : Nat} {p1 : Int32} {P : ((Int32)) → Prop} (hx0 : ∀ e : Int32, P (e) → R Z 33 [(2, .int e)] [] n h 0) : ∀ (m : Nat) (s : Int32 × Int32), Ok (iter (b_X2_bearersAt_4 h p0 p1) m s) P → R Z 4 [(0, .ref p0), (1, .int p1), (2, .int s.1), (3, .int s.2)] [] n h 0 := by
  intro m
  induction m with
  | zero => exact fun s H => ok_iter0 H
  | succ m ih =>
    intro s H
    have H := ok_iter H
    unfold b_X2_bearersAt_4 at H
    refine r_iload_n hZ dX2_bearersAt_4 rfl ?_
    refine r_aload_n hZ dX2_bearersAt_5 rfl ?_
    obtain ⟨x1, ex1, H⟩ := ok_bind H
    refine r_getI hZ fl_X2_18_2 dX2_bearersAt_6 ex1 ?_
    refine r_icmp_ge (tgt := 33) hZ dX2_bearersAt_9 (by decide) (fun c8 => ?_) (fun c8 => ?_)
    · have H := ok_t H c8
      exact r_pick [2] (ls' := [(2, .int s.1)]) rfl (hx0 _ (ki_r H))
    · have H := ok_f H c8
      refine r_aload_n hZ dX2_bearersAt_12 rfl ?_
      refine r_iload_n hZ dX2_bearersAt_13 rfl ?_
      refine r_iload_n hZ dX2_bearersAt_14 rfl ?_
      obtain ⟨u2, eu2, H⟩ := ok_bind H
      obtain ⟨r3, er3, H⟩ := ok_bind H
      refine r_callV (As := [.int s.2, .int p1]) (rest := []) (st1 := [.int r3]) (N2 := 0) hZ dX2_bearersAt_15 cw_X2_34_X2 rfl eu2 (s_X2_shareAt er3) rfl rfl (by decide) (Nat.le_of_ble_eq_true rfl) (Nat.le_refl 0) (Nat.le_refl _) (Or.inl rfl) rfl ?_
      refine ok_join (Q := fun j4 : Int32 => R Z 27 [(0, .ref p0), (1, .int p1), (2, .int j4), (3, .int s.2)] [] n h 0) H (fun j4 H => ?_) (fun H => ?_)
      · obtain ⟨x7, ex7, H⟩ := ok_bind H
        refine r_iincE (w := (J 1)) hZ dX2_bearersAt_27 (by decide) rfl (by decide) ex7 (r_pick [0, 1, 2, 3] (ls' := [(0, .ref p0), (1, .int p1), (2, .int j4), (3, .int x7)]) rfl ?_)
        refine r_goto (tgt := 4) hZ dX2_bearersAt_30 (by decide) ?_
        exact r_pick [0, 1, 2, 3] (ls' := [(0, .ref p0), (1, .int p1), (2, .int j4), (3, .int x7)]) rfl (ih _ (ki_l H))
      · refine r_if_le (tgt := 27) hZ dX2_bearersAt_18 (by decide) (fun c6 => ?_) (fun c6 => ?_)
        · have H := ok_t H c6
          have H := ok_some H
          exact r_pick [0, 1, 2, 3] (ls' := [(0, .ref p0), (1, .int p1), (2, .int s.1), (3, .int s.2)]) rfl H
        · have H := ok_f H c6
          refine r_iload_n hZ dX2_bearersAt_21 rfl ?_
          refine r_iconst (v := (J 1)) hZ dX2_bearersAt_22 (by decide) ?_
          refine r_iload_n hZ dX2_bearersAt_23 rfl ?_
          refine r_ishl hZ dX2_bearersAt_24 ?_
          refine r_ior hZ dX2_bearersAt_25 ?_
          obtain ⟨x5, ex5, H⟩ := ok_bind H
          refine r_topi ex5 ?_
          refine r_istore_n hZ dX2_bearersAt_26 (by decide) (r_pick [0, 1, 2, 3] (ls' := [(0, .ref p0), (1, .int p1), (2, .int x5), (3, .int s.2)]) rfl ?_)
          have H := ok_some H
          exact r_pick [0, 1, 2, 3] (ls' := [(0, .ref p0), (1, .int p1), (2, .int x5), (3, .int s.2)]) rfl H
def f_X2_bearersAt  (h : Hp) (a0 : Nat) (a1 : Int32) : Option (Int32) :=
  (some (J 0)).bind fun x1 =>
  (some (J 0)).bind fun x2 =>
  (iter (b_X2_bearersAt_4 h a0 a1) FU (x1, x2)).bind fun e3 =>
  some e3
set_option maxRecDepth 100000 in
set_option maxHeartbeats 4000000 in
theorem s_X2_bearersAt {n : Nat} {h : Hp} {a0 : Nat} {a1 : Int32}  {r : Int32} (hf : f_X2_bearersAt  h a0 a1 = some r) : Ev 3 yX2_bearersAt cX2_bearersAt 4 (some .int) [.ref a0, .int a1] n h (some (.int r)) n h := by
  refine Ev_of RX2 rfl (by decide) (Nat.le_of_ble_eq_true rfl) (Nat.le_refl _) (Or.inl rfl) (fun Z hZ hF hN hI => ?_)
  have H : Ok (f_X2_bearersAt  h a0 a1) (fun y => y = r) := ⟨_, hf, rfl⟩
  unfold f_X2_bearersAt at H
  refine r_ls (ls' := [(0, .ref a0), (1, .int a1)]) rfl ?_
  refine r_iconst (v := (J 0)) hZ dX2_bearersAt_0 (by decide) ?_
  obtain ⟨x1, ex1, H⟩ := ok_bind H
  refine r_topi ex1 ?_
  refine r_istore_n hZ dX2_bearersAt_1 (by decide) (r_pick [0, 1, 2] (ls' := [(0, .ref a0), (1, .int a1), (2, .int x1)]) rfl ?_)
  refine r_iconst (v := (J 0)) hZ dX2_bearersAt_2 (by decide) ?_
  obtain ⟨x2, ex2, H⟩ := ok_bind H
  refine r_topi ex2 ?_
  refine r_istore_n hZ dX2_bearersAt_3 (by decide) (r_pick [0, 1, 2, 3] (ls' := [(0, .ref a0), (1, .int a1), (2, .int x1), (3, .int x2)]) rfl ?_)
  have H := ok_bindK H
  refine r_pick [0, 1, 2, 3] (ls' := [(0, .ref a0), (1, .int a1), (2, .int x1), (3, .int x2)]) rfl (l_X2_bearersAt_4 hZ (fun e3 H => ?_) FU _ H)
  · refine r_iload_n hZ dX2_bearersAt_33 rfl ?_
    have H := ok_some H
    subst H
    exact r_iret hZ hF dX2_bearersAt_34
def f_X5_init  (N2 n : Nat) (h : Hp) (a0 : Nat) : Option (Hp) :=
  (cap (n + 1) N2).bind fun u1 =>
  (cap ((n + 1) + 1) N2).bind fun u3 =>
  (f_X0_init ((n + 1) + 1) (n + 1) (va_up h n (some (0, .inl [.int 0, .int 0, .int 0, .int 0, .null]))) n).bind fun r2 =>
  (pF r2 a0 4 0 (.ref n)).bind fun h4 =>
  (cap (((n + 1) + 1) + 1) N2).bind fun u5 =>
  (cap ((((n + 1) + 1) + 1) + 1) N2).bind fun u7 =>
  (f_X0_init ((((n + 1) + 1) + 1) + 1) (((n + 1) + 1) + 1) (va_up h4 ((n + 1) + 1) (some (0, .inl [.int 0, .int 0, .int 0, .int 0, .null]))) ((n + 1) + 1)).bind fun r6 =>
  (pF r6 a0 4 1 (.ref ((n + 1) + 1))).bind fun h8 =>
  (cap (((((n + 1) + 1) + 1) + 1) + 1) N2).bind fun u9 =>
  (pF (va_up h8 ((((n + 1) + 1) + 1) + 1) (some (0, .inr (16, .inl fun _ => 0)))) a0 4 3 (.ref ((((n + 1) + 1) + 1) + 1))).bind fun h10 =>
  (eqn (((((n + 1) + 1) + 1) + 1) + 1) N2).bind fun u11 =>
  some h10
set_option maxRecDepth 100000 in
set_option maxHeartbeats 4000000 in
theorem s_X5_init {n : Nat} {h : Hp} {a0 : Nat}  {r : Hp} {N2 : Nat} (hB : n ≤ N2 ∧ N2 ≤ BB) (hf : f_X5_init  N2 n h a0 = some r) : Ev 3 yX5_init cX5_init 1 none [.ref a0] n h none N2 r := by
  refine Ev_of RX5 rfl (by decide) (Nat.le_of_ble_eq_true rfl) hB.1 (Or.inr hB.2) (fun Z hZ hF hN hI => ?_)
  have hN := hN hB.2
  have hI := hI rfl
  have H : Ok (f_X5_init  N2 n h a0) (fun y => y = r) := ⟨_, hf, rfl⟩
  unfold f_X5_init at H
  refine r_ls (ls' := [(0, .ref a0)]) rfl ?_
  refine r_aload_n hZ dX5_init_0 rfl ?_
  refine r_objinit hZ wi_X5_3 wi_i wi_c dX5_init_1 (by decide) (Nat.le_of_ble_eq_true rfl) ?_
  refine r_aload_n hZ dX5_init_4 rfl ?_
  obtain ⟨u1, eu1, H⟩ := ok_bind H
  refine r_new hZ hN wn_X5_9 dX5_init_5 (cap_le eu1) (Nat.le_refl 0) ?_
  refine r_dup_a hZ dX5_init_8 ?_
  obtain ⟨u3, eu3, H⟩ := ok_bind H
  obtain ⟨r2, er2, H⟩ := ok_bind H
  refine r_callIN (As := []) (rest := [.ref n, .ref a0]) (N2 := N2) hZ dX5_init_9 cw_X5_11 (s_X0_init ⟨Nat.le_add_right _ _, Nat.le_trans (cap_le eu3) (NX_bb hN)⟩ er2) rfl rfl (by decide) (Nat.le_of_ble_eq_true rfl) (Nat.le_refl 0) (Nat.le_add_right _ _) (Or.inr ⟨hN, cap_le eu3⟩) ?_
  obtain ⟨h4, eh4, H⟩ := ok_bind H
  refine r_putf hZ fl_X5_12_4 dX5_init_12 eh4 rfl rfl ?_
  refine r_aload_n hZ dX5_init_15 rfl ?_
  obtain ⟨u5, eu5, H⟩ := ok_bind H
  refine r_new hZ hN wn_X5_9 dX5_init_16 (cap_le eu5) (Nat.le_refl 0) ?_
  refine r_dup_a hZ dX5_init_19 ?_
  obtain ⟨u7, eu7, H⟩ := ok_bind H
  obtain ⟨r6, er6, H⟩ := ok_bind H
  refine r_callIN (As := []) (rest := [.ref ((n + 1) + 1), .ref a0]) (N2 := N2) hZ dX5_init_20 cw_X5_11 (s_X0_init ⟨Nat.le_add_right _ _, Nat.le_trans (cap_le eu7) (NX_bb hN)⟩ er6) rfl rfl (by decide) (Nat.le_of_ble_eq_true rfl) (Nat.le_refl 0) (Nat.le_add_right _ _) (Or.inr ⟨hN, cap_le eu7⟩) ?_
  obtain ⟨h8, eh8, H⟩ := ok_bind H
  refine r_putf hZ fl_X5_18_4 dX5_init_23 eh8 rfl rfl ?_
  refine r_aload_n hZ dX5_init_26 rfl ?_
  refine r_bipush (v := (J 16)) hZ dX5_init_27 (by decide) ?_
  obtain ⟨u9, eu9, H⟩ := ok_bind H
  refine r_newI (len := 16) hZ hN wa_int (by decide) (by decide) (by decide) dX5_init_29 (cap_le eu9) (Nat.le_refl 0) ?_
  obtain ⟨h10, eh10, H⟩ := ok_bind H
  refine r_putF hZ hI fl_X5_21_4 dX5_init_31 eh10 rfl rfl rfl ?_
  obtain ⟨u11, eu11, H⟩ := ok_bind H
  have H := ok_some H
  subst H
  have eu11 := eqn_eq eu11
  rw [eu11]
  exact r_ret hZ hF dX5_init_34
def f_X5_facing  (a0 : Int32) (a1 : Int32) : Option (Int32) :=
  (nz (J 16)).bind fun u1 =>
  some ((((J 15) - a0) + a1) - (((J 15) - a0) + a1) / (J 16) * (J 16))
set_option maxRecDepth 100000 in
set_option maxHeartbeats 4000000 in
theorem s_X5_facing {n : Nat} {h : Hp} {a0 : Int32} {a1 : Int32}  {r : Int32} (hf : f_X5_facing  a0 a1 = some r) : Ev 2 yX5_facing cX5_facing 2 (some .int) [.int a0, .int a1] n h (some (.int r)) n h := by
  refine Ev_of RX5 rfl (by decide) (Nat.le_of_ble_eq_true rfl) (Nat.le_refl _) (Or.inl rfl) (fun Z hZ hF hN hI => ?_)
  have H : Ok (f_X5_facing  a0 a1) (fun y => y = r) := ⟨_, hf, rfl⟩
  unfold f_X5_facing at H
  refine r_ls (ls' := [(0, .int a0), (1, .int a1)]) rfl ?_
  refine r_bipush (v := (J 15)) hZ dX5_facing_0 (by decide) ?_
  refine r_iload_n hZ dX5_facing_2 rfl ?_
  refine r_isub hZ dX5_facing_3 ?_
  refine r_iload_n hZ dX5_facing_4 rfl ?_
  refine r_iadd hZ dX5_facing_5 ?_
  refine r_bipush (v := (J 16)) hZ dX5_facing_6 (by decide) ?_
  obtain ⟨u1, eu1, H⟩ := ok_bind H
  refine r_irem hZ dX5_facing_8 (nz_ne eu1) ?_
  have H := ok_some H
  subst H
  exact r_iret hZ hF dX5_facing_9
def f_X5_bothAt  (h : Hp) (a0 : Nat) (a1 : Int32) (a2 : Int32) : Option (Int32) :=
  (gR h a0 4 0).bind fun x1 =>
  (gR h x1 0 4).bind fun x2 =>
  (aI h x2 a1).bind fun x3 =>
  (gR h a0 4 1).bind fun x4 =>
  (gR h x4 0 4).bind fun x5 =>
  (f_X5_facing a1 a2).bind fun r6 =>
  (aI h x5 r6).bind fun x7 =>
  some (x3 + x7)
set_option maxRecDepth 100000 in
set_option maxHeartbeats 4000000 in
theorem s_X5_bothAt {n : Nat} {h : Hp} {a0 : Nat} {a1 : Int32} {a2 : Int32}  {r : Int32} (hf : f_X5_bothAt  h a0 a1 a2 = some r) : Ev 3 yX5_bothAt cX5_bothAt 3 (some .int) [.ref a0, .int a1, .int a2] n h (some (.int r)) n h := by
  refine Ev_of RX5 rfl (by decide) (Nat.le_of_ble_eq_true rfl) (Nat.le_refl _) (Or.inl rfl) (fun Z hZ hF hN hI => ?_)
  have H : Ok (f_X5_bothAt  h a0 a1 a2) (fun y => y = r) := ⟨_, hf, rfl⟩
  unfold f_X5_bothAt at H
  refine r_ls (ls' := [(0, .ref a0), (1, .int a1), (2, .int a2)]) rfl ?_
  refine r_aload_n hZ dX5_bothAt_0 rfl ?_
  obtain ⟨x1, ex1, H⟩ := ok_bind H
  refine r_getR hZ fl_X5_12_4 dX5_bothAt_1 ex1 ?_
  obtain ⟨x2, ex2, H⟩ := ok_bind H
  refine r_getR hZ fl_X5_40_0 dX5_bothAt_4 ex2 ?_
  refine r_iload_n hZ dX5_bothAt_7 rfl ?_
  obtain ⟨x3, ex3, H⟩ := ok_bind H
  refine r_aI hZ dX5_bothAt_8 ex3 ?_
  refine r_aload_n hZ dX5_bothAt_9 rfl ?_
  obtain ⟨x4, ex4, H⟩ := ok_bind H
  refine r_getR hZ fl_X5_18_4 dX5_bothAt_10 ex4 ?_
  obtain ⟨x5, ex5, H⟩ := ok_bind H
  refine r_getR hZ fl_X5_40_0 dX5_bothAt_13 ex5 ?_
  refine r_iload_n hZ dX5_bothAt_16 rfl ?_
  refine r_iload_n hZ dX5_bothAt_17 rfl ?_
  obtain ⟨r6, er6, H⟩ := ok_bind H
  refine r_callS (As := [.int a1, .int a2]) (rest := [.ref x5, .int x3]) (st1 := [.int r6, .ref x5, .int x3]) (N2 := 0) hZ dX5_bothAt_18 cw_X5_43 (s_X5_facing er6) rfl rfl (by decide) (Nat.le_of_ble_eq_true rfl) (Nat.le_refl 0) (Nat.le_refl _) (Or.inl rfl) rfl ?_
  obtain ⟨x7, ex7, H⟩ := ok_bind H
  refine r_aI hZ dX5_bothAt_21 ex7 ?_
  refine r_iadd hZ dX5_bothAt_22 ?_
  have H := ok_some H
  subst H
  exact r_iret hZ hF dX5_bothAt_23
def b_X5_touchAt_12 (h : Hp) (p0 : Nat) (p1 : Int32) (s : Int32 × Int32 × Int32) : Option ((Int32 × Int32 × Int32) ⊕ ((Int32))) :=
  (if (J 16) ≤ s.2.2 then
    some (.inr (s.1))
  else
    (isO h p0 4).bind fun u1 =>
    (f_X5_bothAt h p0 s.2.2 p1).bind fun r2 =>
    ((if r2 ≤ s.2.1 then
      some (s.1, s.2.1)
    else
      some (s.2.2, r2))).bind fun (j3 : Int32 × Int32) =>
    (some (s.2.2 + (J 1))).bind fun x5 =>
    some (.inl (j3.1, j3.2, x5)))
set_option maxRecDepth 100000 in
set_option maxHeartbeats 4000000 in
theorem l_X5_touchAt_12 {Z : Zc} (hZ : Fx cX5_touchAt RX5 6 4 0 Z) {n : Nat} {h : Hp} {p0 : Nat} {p1 : Int32} {P : ((Int32)) → Prop} (hx0 : ∀ e : Int32, P (e) → R Z 46 [(2, .int e)] [] n h 0) : ∀ (m : Nat) (s : Int32 × Int32 × Int32), Ok (iter (b_X5_touchAt_12 h p0 p1) m s) P → R Z 12 [(0, .ref p0), (1, .int p1), (2, .int s.1), (3, .int s.2.1), (4, .int s.2.2)] [] n h 0 := by
  intro m
  induction m with
  | zero => exact fun s H => ok_iter0 H
  | succ m ih =>
    intro s H
    have H := ok_iter H
    unfold b_X5_touchAt_12 at H
    refine r_iload hZ dX5_touchAt_12 rfl ?_
    refine r_bipush (v := (J 16)) hZ dX5_touchAt_14 (by decide) ?_
    refine r_icmp_ge (tgt := 46) hZ dX5_touchAt_16 (by decide) (fun c6 => ?_) (fun c6 => ?_)
    · have H := ok_t H c6
      exact r_pick [2] (ls' := [(2, .int s.1)]) rfl (hx0 _ (ki_r H))
    · have H := ok_f H c6
      refine r_aload_n hZ dX5_touchAt_19 rfl ?_
      refine r_iload hZ dX5_touchAt_20 rfl ?_
      refine r_iload_n hZ dX5_touchAt_22 rfl ?_
      obtain ⟨u1, eu1, H⟩ := ok_bind H
      obtain ⟨r2, er2, H⟩ := ok_bind H
      refine r_callV (As := [.int s.2.2, .int p1]) (rest := []) (st1 := [.int r2]) (N2 := 0) hZ dX5_touchAt_23 cw_X5_36_X5 rfl eu1 (s_X5_bothAt er2) rfl rfl (by decide) (Nat.le_of_ble_eq_true rfl) (Nat.le_refl 0) (Nat.le_refl _) (Or.inl rfl) rfl ?_
      refine r_istore hZ dX5_touchAt_26 (by decide) (r_pick [0, 1, 2, 3, 4, 5] (ls' := [(0, .ref p0), (1, .int p1), (2, .int s.1), (3, .int s.2.1), (4, .int s.2.2), (5, .int r2)]) rfl ?_)
      refine r_iload hZ dX5_touchAt_28 rfl ?_
      refine r_iload_n hZ dX5_touchAt_30 rfl ?_
      refine ok_join (Q := fun j3 : Int32 × Int32 => R Z 40 [(0, .ref p0), (1, .int p1), (2, .int j3.1), (3, .int j3.2), (4, .int s.2.2)] [] n h 0) H (fun j3 H => ?_) (fun H => ?_)
      · obtain ⟨x5, ex5, H⟩ := ok_bind H
        refine r_iincE (w := (J 1)) hZ dX5_touchAt_40 (by decide) rfl (by decide) ex5 (r_pick [0, 1, 2, 3, 4] (ls' := [(0, .ref p0), (1, .int p1), (2, .int j3.1), (3, .int j3.2), (4, .int x5)]) rfl ?_)
        refine r_goto (tgt := 12) hZ dX5_touchAt_43 (by decide) ?_
        exact r_pick [0, 1, 2, 3, 4] (ls' := [(0, .ref p0), (1, .int p1), (2, .int j3.1), (3, .int j3.2), (4, .int x5)]) rfl (ih _ (ki_l H))
      · refine r_icmp_le (tgt := 40) hZ dX5_touchAt_31 (by decide) (fun c4 => ?_) (fun c4 => ?_)
        · have H := ok_t H c4
          have H := ok_some H
          exact r_pick [0, 1, 2, 3, 4] (ls' := [(0, .ref p0), (1, .int p1), (2, .int s.1), (3, .int s.2.1), (4, .int s.2.2)]) rfl H
        · have H := ok_f H c4
          refine r_iload hZ dX5_touchAt_34 rfl ?_
          refine r_istore_n hZ dX5_touchAt_36 (by decide) (r_pick [0, 1, 3, 4] (ls' := [(0, .ref p0), (1, .int p1), (3, .int r2), (4, .int s.2.2)]) rfl ?_)
          refine r_iload hZ dX5_touchAt_37 rfl ?_
          refine r_istore_n hZ dX5_touchAt_39 (by decide) (r_pick [0, 1, 2, 3, 4] (ls' := [(0, .ref p0), (1, .int p1), (2, .int s.2.2), (3, .int r2), (4, .int s.2.2)]) rfl ?_)
          have H := ok_some H
          exact r_pick [0, 1, 2, 3, 4] (ls' := [(0, .ref p0), (1, .int p1), (2, .int s.2.2), (3, .int r2), (4, .int s.2.2)]) rfl H
def f_X5_touchAt  (h : Hp) (a0 : Nat) (a1 : Int32) : Option (Int32) :=
  (some (J 0)).bind fun x1 =>
  (isO h a0 4).bind fun u2 =>
  (f_X5_bothAt h a0 (J 0) a1).bind fun r3 =>
  (some (J 1)).bind fun x4 =>
  (iter (b_X5_touchAt_12 h a0 a1) FU (x1, r3, x4)).bind fun e5 =>
  some e5
set_option maxRecDepth 100000 in
set_option maxHeartbeats 4000000 in
theorem s_X5_touchAt {n : Nat} {h : Hp} {a0 : Nat} {a1 : Int32}  {r : Int32} (hf : f_X5_touchAt  h a0 a1 = some r) : Ev 4 yX5_touchAt cX5_touchAt 6 (some .int) [.ref a0, .int a1] n h (some (.int r)) n h := by
  refine Ev_of RX5 rfl (by decide) (Nat.le_of_ble_eq_true rfl) (Nat.le_refl _) (Or.inl rfl) (fun Z hZ hF hN hI => ?_)
  have H : Ok (f_X5_touchAt  h a0 a1) (fun y => y = r) := ⟨_, hf, rfl⟩
  unfold f_X5_touchAt at H
  refine r_ls (ls' := [(0, .ref a0), (1, .int a1)]) rfl ?_
  refine r_iconst (v := (J 0)) hZ dX5_touchAt_0 (by decide) ?_
  obtain ⟨x1, ex1, H⟩ := ok_bind H
  refine r_topi ex1 ?_
  refine r_istore_n hZ dX5_touchAt_1 (by decide) (r_pick [0, 1, 2] (ls' := [(0, .ref a0), (1, .int a1), (2, .int x1)]) rfl ?_)
  refine r_aload_n hZ dX5_touchAt_2 rfl ?_
  refine r_iconst (v := (J 0)) hZ dX5_touchAt_3 (by decide) ?_
  refine r_iload_n hZ dX5_touchAt_4 rfl ?_
  obtain ⟨u2, eu2, H⟩ := ok_bind H
  obtain ⟨r3, er3, H⟩ := ok_bind H
  refine r_callV (As := [.int (J 0), .int a1]) (rest := []) (st1 := [.int r3]) (N2 := 0) hZ dX5_touchAt_5 cw_X5_36_X5 rfl eu2 (s_X5_bothAt er3) rfl rfl (by decide) (Nat.le_of_ble_eq_true rfl) (Nat.le_refl 0) (Nat.le_refl _) (Or.inl rfl) rfl ?_
  refine r_istore_n hZ dX5_touchAt_8 (by decide) (r_pick [0, 1, 2, 3] (ls' := [(0, .ref a0), (1, .int a1), (2, .int x1), (3, .int r3)]) rfl ?_)
  refine r_iconst (v := (J 1)) hZ dX5_touchAt_9 (by decide) ?_
  obtain ⟨x4, ex4, H⟩ := ok_bind H
  refine r_topi ex4 ?_
  refine r_istore hZ dX5_touchAt_10 (by decide) (r_pick [0, 1, 2, 3, 4] (ls' := [(0, .ref a0), (1, .int a1), (2, .int x1), (3, .int r3), (4, .int x4)]) rfl ?_)
  have H := ok_bindK H
  refine r_pick [0, 1, 2, 3, 4] (ls' := [(0, .ref a0), (1, .int a1), (2, .int x1), (3, .int r3), (4, .int x4)]) rfl (l_X5_touchAt_12 hZ (fun e5 H => ?_) FU _ H)
  · refine r_iload_n hZ dX5_touchAt_46 rfl ?_
    have H := ok_some H
    subst H
    exact r_iret hZ hF dX5_touchAt_47
def b_X5_measure_2 (p0 : Nat) (s : Int32 × Hp) : Option ((Int32 × Hp) ⊕ ((Hp))) :=
  (if (J 16) ≤ s.1 then
    some (.inr (s.2))
  else
    (gR s.2 p0 4 3).bind fun x1 =>
    (gI s.2 p0 4 2).bind fun x2 =>
    (isO s.2 p0 4).bind fun u3 =>
    (f_X5_touchAt s.2 p0 s.1).bind fun r4 =>
    (isO s.2 p0 4).bind fun u5 =>
    (f_X5_bothAt s.2 p0 r4 s.1).bind fun r6 =>
    (sI s.2 x1 s.1 (x2 - r6)).bind fun h7 =>
    (some (s.1 + (J 1))).bind fun x8 =>
    some (.inl (x8, h7)))
set_option maxRecDepth 100000 in
set_option maxHeartbeats 4000000 in
theorem l_X5_measure_2 {Z : Zc} (hZ : Fx cX5_measure RX5 2 5 0 Z) {n : Nat} {p0 : Nat} {P : ((Hp)) → Prop} (hx0 : ∀ e : Hp, P (e) → R Z 35 [] [] n e 0) : ∀ (m : Nat) (s : Int32 × Hp), Ok (iter (b_X5_measure_2 p0) m s) P → R Z 2 [(0, .ref p0), (1, .int s.1)] [] n s.2 0 := by
  intro m
  induction m with
  | zero => exact fun s H => ok_iter0 H
  | succ m ih =>
    intro s H
    have H := ok_iter H
    unfold b_X5_measure_2 at H
    refine r_iload_n hZ dX5_measure_2 rfl ?_
    refine r_bipush (v := (J 16)) hZ dX5_measure_3 (by decide) ?_
    refine r_icmp_ge (tgt := 35) hZ dX5_measure_5 (by decide) (fun c9 => ?_) (fun c9 => ?_)
    · have H := ok_t H c9
      exact r_pick [] (ls' := []) rfl (hx0 _ (ki_r H))
    · have H := ok_f H c9
      refine r_aload_n hZ dX5_measure_8 rfl ?_
      obtain ⟨x1, ex1, H⟩ := ok_bind H
      refine r_getR hZ fl_X5_21_4 dX5_measure_9 ex1 ?_
      refine r_iload_n hZ dX5_measure_12 rfl ?_
      refine r_aload_n hZ dX5_measure_13 rfl ?_
      obtain ⟨x2, ex2, H⟩ := ok_bind H
      refine r_getI hZ fl_X5_25_4 dX5_measure_14 ex2 ?_
      refine r_aload_n hZ dX5_measure_17 rfl ?_
      refine r_aload_n hZ dX5_measure_18 rfl ?_
      refine r_iload_n hZ dX5_measure_19 rfl ?_
      obtain ⟨u3, eu3, H⟩ := ok_bind H
      obtain ⟨r4, er4, H⟩ := ok_bind H
      refine r_callV (As := [.int s.1]) (rest := [.ref p0, .int x2, .int s.1, .ref x1]) (st1 := [.int r4, .ref p0, .int x2, .int s.1, .ref x1]) (N2 := 0) hZ dX5_measure_20 cw_X5_32_X5 rfl eu3 (s_X5_touchAt er4) rfl rfl (by decide) (Nat.le_of_ble_eq_true rfl) (Nat.le_refl 0) (Nat.le_refl _) (Or.inl rfl) rfl ?_
      refine r_iload_n hZ dX5_measure_23 rfl ?_
      obtain ⟨u5, eu5, H⟩ := ok_bind H
      obtain ⟨r6, er6, H⟩ := ok_bind H
      refine r_callV (As := [.int r4, .int s.1]) (rest := [.int x2, .int s.1, .ref x1]) (st1 := [.int r6, .int x2, .int s.1, .ref x1]) (N2 := 0) hZ dX5_measure_24 cw_X5_36_X5 rfl eu5 (s_X5_bothAt er6) rfl rfl (by decide) (Nat.le_of_ble_eq_true rfl) (Nat.le_refl 0) (Nat.le_refl _) (Or.inl rfl) rfl ?_
      refine r_isub hZ dX5_measure_27 ?_
      obtain ⟨h7, eh7, H⟩ := ok_bind H
      refine r_sI hZ dX5_measure_28 eh7 ?_
      obtain ⟨x8, ex8, H⟩ := ok_bind H
      refine r_iincE (w := (J 1)) hZ dX5_measure_29 (by decide) rfl (by decide) ex8 (r_pick [0, 1] (ls' := [(0, .ref p0), (1, .int x8)]) rfl ?_)
      refine r_goto (tgt := 2) hZ dX5_measure_32 (by decide) ?_
      exact r_pick [0, 1] (ls' := [(0, .ref p0), (1, .int x8)]) rfl (ih _ (ki_l H))
def f_X5_measure  (h : Hp) (a0 : Nat) : Option (Hp) :=
  (some (J 0)).bind fun x1 =>
  (iter (b_X5_measure_2 a0) FU (x1, h)).bind fun e2 =>
  some e2
set_option maxRecDepth 100000 in
set_option maxHeartbeats 4000000 in
theorem s_X5_measure {n : Nat} {h : Hp} {a0 : Nat}  {r : Hp} (hf : f_X5_measure  h a0 = some r) : Ev 5 yX5_measure cX5_measure 2 none [.ref a0] n h none n r := by
  refine Ev_of RX5 rfl (by decide) (Nat.le_of_ble_eq_true rfl) (Nat.le_refl _) (Or.inl rfl) (fun Z hZ hF hN hI => ?_)
  have H : Ok (f_X5_measure  h a0) (fun y => y = r) := ⟨_, hf, rfl⟩
  unfold f_X5_measure at H
  refine r_ls (ls' := [(0, .ref a0)]) rfl ?_
  refine r_iconst (v := (J 0)) hZ dX5_measure_0 (by decide) ?_
  obtain ⟨x1, ex1, H⟩ := ok_bind H
  refine r_topi ex1 ?_
  refine r_istore_n hZ dX5_measure_1 (by decide) (r_pick [0, 1] (ls' := [(0, .ref a0), (1, .int x1)]) rfl ?_)
  have H := ok_bindK H
  refine r_pick [0, 1] (ls' := [(0, .ref a0), (1, .int x1)]) rfl (l_X5_measure_2 hZ (fun e2 H => ?_) FU _ H)
  · have H := ok_some H
    subst H
    exact r_ret hZ hF dX5_measure_35
def f_X5_roll  (h : Hp) (a0 : Nat) (a1 : Nat) (a2 : Nat) (a3 : Int32) : Option (Hp) :=
  (pF h a0 4 0 (.ref a1)).bind fun h1 =>
  (pF h1 a0 4 1 (.ref a2)).bind fun h2 =>
  (pF h2 a0 4 2 (.int a3)).bind fun h3 =>
  (isO h3 a0 4).bind fun u4 =>
  (f_X5_measure h3 a0).bind fun r5 =>
  some r5
set_option maxRecDepth 100000 in
set_option maxHeartbeats 4000000 in
theorem s_X5_roll {n : Nat} {h : Hp} {a0 : Nat} {a1 : Nat} {a2 : Nat} {a3 : Int32}  {r : Hp} (hf : f_X5_roll  h a0 a1 a2 a3 = some r) : Ev 6 yX5_roll cX5_roll 4 none [.ref a0, .ref a1, .ref a2, .int a3] n h none n r := by
  refine Ev_of RX5 rfl (by decide) (Nat.le_of_ble_eq_true rfl) (Nat.le_refl _) (Or.inl rfl) (fun Z hZ hF hN hI => ?_)
  have H : Ok (f_X5_roll  h a0 a1 a2 a3) (fun y => y = r) := ⟨_, hf, rfl⟩
  unfold f_X5_roll at H
  refine r_ls (ls' := [(0, .ref a0), (1, .ref a1), (2, .ref a2), (3, .int a3)]) rfl ?_
  refine r_aload_n hZ dX5_roll_0 rfl ?_
  refine r_aload_n hZ dX5_roll_1 rfl ?_
  obtain ⟨h1, eh1, H⟩ := ok_bind H
  refine r_putf hZ fl_X5_12_4 dX5_roll_2 eh1 rfl rfl ?_
  refine r_aload_n hZ dX5_roll_5 rfl ?_
  refine r_aload_n hZ dX5_roll_6 rfl ?_
  obtain ⟨h2, eh2, H⟩ := ok_bind H
  refine r_putf hZ fl_X5_18_4 dX5_roll_7 eh2 rfl rfl ?_
  refine r_aload_n hZ dX5_roll_10 rfl ?_
  refine r_iload_n hZ dX5_roll_11 rfl ?_
  obtain ⟨h3, eh3, H⟩ := ok_bind H
  refine r_putf hZ fl_X5_25_4 dX5_roll_12 eh3 rfl rfl ?_
  refine r_aload_n hZ dX5_roll_15 rfl ?_
  obtain ⟨u4, eu4, H⟩ := ok_bind H
  obtain ⟨r5, er5, H⟩ := ok_bind H
  refine r_callV (As := []) (rest := []) (st1 := []) (N2 := 0) hZ dX5_roll_16 cw_X5_29_X5 rfl eu4 (s_X5_measure er5) rfl rfl (by decide) (Nat.le_of_ble_eq_true rfl) (Nat.le_refl 0) (Nat.le_refl _) (Or.inl rfl) rfl ?_
  have H := ok_some H
  subst H
  exact r_ret hZ hF dX5_roll_19
def b_X5_firstJam_2 (h : Hp) (p0 : Nat) (s : Int32) : Option ((Int32) ⊕ ((Unit) ⊕ (Int32))) :=
  (if (J 16) ≤ s then
    some (.inr (.inl ()))
  else
    (gR h p0 4 3).bind fun x1 =>
    (aI h x1 s).bind fun x2 =>
    (if 0 ≤ x2 then
      (some (s + (J 1))).bind fun x3 =>
      some (.inl x3)
    else
      some (.inr (.inr s))))
set_option maxRecDepth 100000 in
set_option maxHeartbeats 4000000 in
theorem l_X5_firstJam_2 {Z : Zc} (hZ : Fx cX5_firstJam RX5 2 2 0 Z) {n : Nat} {h : Hp} {p0 : Nat} {P : ((Unit) ⊕ (Int32)) → Prop} (hx0 : ∀ e : Unit, P (.inl e) → R Z 25 [] [] n h 0) (hx1 : ∀ e : Int32, P (.inr e) → R Z 17 [(1, .int e)] [] n h 0) : ∀ (m : Nat) (s : Int32), Ok (iter (b_X5_firstJam_2 h p0) m s) P → R Z 2 [(0, .ref p0), (1, .int s)] [] n h 0 := by
  intro m
  induction m with
  | zero => exact fun s H => ok_iter0 H
  | succ m ih =>
    intro s H
    have H := ok_iter H
    unfold b_X5_firstJam_2 at H
    refine r_iload_n hZ dX5_firstJam_2 rfl ?_
    refine r_bipush (v := (J 16)) hZ dX5_firstJam_3 (by decide) ?_
    refine r_icmp_ge (tgt := 25) hZ dX5_firstJam_5 (by decide) (fun c5 => ?_) (fun c5 => ?_)
    · have H := ok_t H c5
      exact r_pick [] (ls' := []) rfl (hx0 _ (ki_r H))
    · have H := ok_f H c5
      refine r_aload_n hZ dX5_firstJam_8 rfl ?_
      obtain ⟨x1, ex1, H⟩ := ok_bind H
      refine r_getR hZ fl_X5_21_4 dX5_firstJam_9 ex1 ?_
      refine r_iload_n hZ dX5_firstJam_12 rfl ?_
      obtain ⟨x2, ex2, H⟩ := ok_bind H
      refine r_aI hZ dX5_firstJam_13 ex2 ?_
      refine r_if_ge (tgt := 19) hZ dX5_firstJam_14 (by decide) (fun c4 => ?_) (fun c4 => ?_)
      · have H := ok_t H c4
        obtain ⟨x3, ex3, H⟩ := ok_bind H
        refine r_iincE (w := (J 1)) hZ dX5_firstJam_19 (by decide) rfl (by decide) ex3 (r_pick [0, 1] (ls' := [(0, .ref p0), (1, .int x3)]) rfl ?_)
        refine r_goto (tgt := 2) hZ dX5_firstJam_22 (by decide) ?_
        exact r_pick [0, 1] (ls' := [(0, .ref p0), (1, .int x3)]) rfl (ih _ (ki_l H))
      · have H := ok_f H c4
        exact r_pick [1] (ls' := [(1, .int s)]) rfl (hx1 _ (ki_r H))
def f_X5_firstJam  (h : Hp) (a0 : Nat) : Option (Int32) :=
  (some (J 0)).bind fun x1 =>
  (iter (b_X5_firstJam_2 h a0) FU x1).bind fun e2 =>
  (match e2 with
  | .inl e3 =>
    some (J (-4))
  | .inr e4 =>
    some e4)
set_option maxRecDepth 100000 in
set_option maxHeartbeats 4000000 in
theorem s_X5_firstJam {n : Nat} {h : Hp} {a0 : Nat}  {r : Int32} (hf : f_X5_firstJam  h a0 = some r) : Ev 2 yX5_firstJam cX5_firstJam 2 (some .int) [.ref a0] n h (some (.int r)) n h := by
  refine Ev_of RX5 rfl (by decide) (Nat.le_of_ble_eq_true rfl) (Nat.le_refl _) (Or.inl rfl) (fun Z hZ hF hN hI => ?_)
  have H : Ok (f_X5_firstJam  h a0) (fun y => y = r) := ⟨_, hf, rfl⟩
  unfold f_X5_firstJam at H
  refine r_ls (ls' := [(0, .ref a0)]) rfl ?_
  refine r_iconst (v := (J 0)) hZ dX5_firstJam_0 (by decide) ?_
  obtain ⟨x1, ex1, H⟩ := ok_bind H
  refine r_topi ex1 ?_
  refine r_istore_n hZ dX5_firstJam_1 (by decide) (r_pick [0, 1] (ls' := [(0, .ref a0), (1, .int x1)]) rfl ?_)
  have H := ok_bindK H
  refine r_pick [0, 1] (ls' := [(0, .ref a0), (1, .int x1)]) rfl (l_X5_firstJam_2 hZ (fun e3 H => ?_) (fun e4 H => ?_) FU _ H)
  · refine r_bipush (v := (J (-4))) hZ dX5_firstJam_25 (by decide) ?_
    have H := ok_some H
    subst H
    exact r_iret hZ hF dX5_firstJam_27
  · refine r_iload_n hZ dX5_firstJam_17 rfl ?_
    have H := ok_some H
    subst H
    exact r_iret hZ hF dX5_firstJam_18
def b_X5_leastOff_9 (h : Hp) (p0 : Nat) (s : Int32 × Int32) : Option ((Int32 × Int32) ⊕ ((Int32))) :=
  (if (J 16) ≤ s.2 then
    some (.inr (s.1))
  else
    (gR h p0 4 3).bind fun x1 =>
    (aI h x1 s.2).bind fun x2 =>
    (some (if x2 < s.1 then x2 else s.1)).bind fun x3 =>
    (some (s.2 + (J 1))).bind fun x4 =>
    some (.inl (x3, x4)))
set_option maxRecDepth 100000 in
set_option maxHeartbeats 4000000 in
theorem l_X5_leastOff_9 {Z : Zc} (hZ : Fx cX5_leastOff RX5 3 2 0 Z) {n : Nat} {h : Hp} {p0 : Nat} {P : ((Int32)) → Prop} (hx0 : ∀ e : Int32, P (e) → R Z 32 [(1, .int e)] [] n h 0) : ∀ (m : Nat) (s : Int32 × Int32), Ok (iter (b_X5_leastOff_9 h p0) m s) P → R Z 9 [(0, .ref p0), (1, .int s.1), (2, .int s.2)] [] n h 0 := by
  intro m
  induction m with
  | zero => exact fun s H => ok_iter0 H
  | succ m ih =>
    intro s H
    have H := ok_iter H
    unfold b_X5_leastOff_9 at H
    refine r_iload_n hZ dX5_leastOff_9 rfl ?_
    refine r_bipush (v := (J 16)) hZ dX5_leastOff_10 (by decide) ?_
    refine r_icmp_ge (tgt := 32) hZ dX5_leastOff_12 (by decide) (fun c5 => ?_) (fun c5 => ?_)
    · have H := ok_t H c5
      exact r_pick [1] (ls' := [(1, .int s.1)]) rfl (hx0 _ (ki_r H))
    · have H := ok_f H c5
      refine r_iload_n hZ dX5_leastOff_15 rfl ?_
      refine r_aload_n hZ dX5_leastOff_16 rfl ?_
      obtain ⟨x1, ex1, H⟩ := ok_bind H
      refine r_getR hZ fl_X5_21_4 dX5_leastOff_17 ex1 ?_
      refine r_iload_n hZ dX5_leastOff_20 rfl ?_
      obtain ⟨x2, ex2, H⟩ := ok_bind H
      refine r_aI hZ dX5_leastOff_21 ex2 ?_
      refine r_min hZ dX5_leastOff_22 wM_X5_46 (by decide) (Nat.le_of_ble_eq_true rfl) (Nat.le_refl 0) ?_
      obtain ⟨x3, ex3, H⟩ := ok_bind H
      refine r_topi ex3 ?_
      refine r_istore_n hZ dX5_leastOff_25 (by decide) (r_pick [0, 1, 2] (ls' := [(0, .ref p0), (1, .int x3), (2, .int s.2)]) rfl ?_)
      obtain ⟨x4, ex4, H⟩ := ok_bind H
      refine r_iincE (w := (J 1)) hZ dX5_leastOff_26 (by decide) rfl (by decide) ex4 (r_pick [0, 1, 2] (ls' := [(0, .ref p0), (1, .int x3), (2, .int x4)]) rfl ?_)
      refine r_goto (tgt := 9) hZ dX5_leastOff_29 (by decide) ?_
      exact r_pick [0, 1, 2] (ls' := [(0, .ref p0), (1, .int x3), (2, .int x4)]) rfl (ih _ (ki_l H))
def f_X5_leastOff  (h : Hp) (a0 : Nat) : Option (Int32) :=
  (gR h a0 4 3).bind fun x1 =>
  (aI h x1 (J 0)).bind fun x2 =>
  (some (J 1)).bind fun x3 =>
  (iter (b_X5_leastOff_9 h a0) FU (x2, x3)).bind fun e4 =>
  some e4
set_option maxRecDepth 100000 in
set_option maxHeartbeats 4000000 in
theorem s_X5_leastOff {n : Nat} {h : Hp} {a0 : Nat}  {r : Int32} (hf : f_X5_leastOff  h a0 = some r) : Ev 2 yX5_leastOff cX5_leastOff 3 (some .int) [.ref a0] n h (some (.int r)) n h := by
  refine Ev_of RX5 rfl (by decide) (Nat.le_of_ble_eq_true rfl) (Nat.le_refl _) (Or.inl rfl) (fun Z hZ hF hN hI => ?_)
  have H : Ok (f_X5_leastOff  h a0) (fun y => y = r) := ⟨_, hf, rfl⟩
  unfold f_X5_leastOff at H
  refine r_ls (ls' := [(0, .ref a0)]) rfl ?_
  refine r_aload_n hZ dX5_leastOff_0 rfl ?_
  obtain ⟨x1, ex1, H⟩ := ok_bind H
  refine r_getR hZ fl_X5_21_4 dX5_leastOff_1 ex1 ?_
  refine r_iconst (v := (J 0)) hZ dX5_leastOff_4 (by decide) ?_
  obtain ⟨x2, ex2, H⟩ := ok_bind H
  refine r_aI hZ dX5_leastOff_5 ex2 ?_
  refine r_istore_n hZ dX5_leastOff_6 (by decide) (r_pick [0, 1] (ls' := [(0, .ref a0), (1, .int x2)]) rfl ?_)
  refine r_iconst (v := (J 1)) hZ dX5_leastOff_7 (by decide) ?_
  obtain ⟨x3, ex3, H⟩ := ok_bind H
  refine r_topi ex3 ?_
  refine r_istore_n hZ dX5_leastOff_8 (by decide) (r_pick [0, 1, 2] (ls' := [(0, .ref a0), (1, .int x2), (2, .int x3)]) rfl ?_)
  have H := ok_bindK H
  refine r_pick [0, 1, 2] (ls' := [(0, .ref a0), (1, .int x2), (2, .int x3)]) rfl (l_X5_leastOff_9 hZ (fun e4 H => ?_) FU _ H)
  · refine r_iload_n hZ dX5_leastOff_32 rfl ?_
    have H := ok_some H
    subst H
    exact r_iret hZ hF dX5_leastOff_33
def b_X5_spread_9 (h : Hp) (p0 : Nat) (s : Int32 × Int32) : Option ((Int32 × Int32) ⊕ ((Int32))) :=
  (if (J 16) ≤ s.2 then
    some (.inr (s.1))
  else
    (gR h p0 4 3).bind fun x1 =>
    (aI h x1 s.2).bind fun x2 =>
    (some (if s.1 < x2 then x2 else s.1)).bind fun x3 =>
    (some (s.2 + (J 1))).bind fun x4 =>
    some (.inl (x3, x4)))
set_option maxRecDepth 100000 in
set_option maxHeartbeats 4000000 in
theorem l_X5_spread_9 {Z : Zc} (hZ : Fx cX5_spread RX5 3 3 0 Z) {n : Nat} {h : Hp} {p0 : Nat} {P : ((Int32)) → Prop} (hx0 : ∀ e : Int32, P (e) → R Z 32 [(0, .ref p0), (1, .int e)] [] n h 0) : ∀ (m : Nat) (s : Int32 × Int32), Ok (iter (b_X5_spread_9 h p0) m s) P → R Z 9 [(0, .ref p0), (1, .int s.1), (2, .int s.2)] [] n h 0 := by
  intro m
  induction m with
  | zero => exact fun s H => ok_iter0 H
  | succ m ih =>
    intro s H
    have H := ok_iter H
    unfold b_X5_spread_9 at H
    refine r_iload_n hZ dX5_spread_9 rfl ?_
    refine r_bipush (v := (J 16)) hZ dX5_spread_10 (by decide) ?_
    refine r_icmp_ge (tgt := 32) hZ dX5_spread_12 (by decide) (fun c5 => ?_) (fun c5 => ?_)
    · have H := ok_t H c5
      exact r_pick [0, 1] (ls' := [(0, .ref p0), (1, .int s.1)]) rfl (hx0 _ (ki_r H))
    · have H := ok_f H c5
      refine r_iload_n hZ dX5_spread_15 rfl ?_
      refine r_aload_n hZ dX5_spread_16 rfl ?_
      obtain ⟨x1, ex1, H⟩ := ok_bind H
      refine r_getR hZ fl_X5_21_4 dX5_spread_17 ex1 ?_
      refine r_iload_n hZ dX5_spread_20 rfl ?_
      obtain ⟨x2, ex2, H⟩ := ok_bind H
      refine r_aI hZ dX5_spread_21 ex2 ?_
      refine r_max hZ dX5_spread_22 wM_X5_51 (by decide) (Nat.le_of_ble_eq_true rfl) (Nat.le_refl 0) ?_
      obtain ⟨x3, ex3, H⟩ := ok_bind H
      refine r_topi ex3 ?_
      refine r_istore_n hZ dX5_spread_25 (by decide) (r_pick [0, 1, 2] (ls' := [(0, .ref p0), (1, .int x3), (2, .int s.2)]) rfl ?_)
      obtain ⟨x4, ex4, H⟩ := ok_bind H
      refine r_iincE (w := (J 1)) hZ dX5_spread_26 (by decide) rfl (by decide) ex4 (r_pick [0, 1, 2] (ls' := [(0, .ref p0), (1, .int x3), (2, .int x4)]) rfl ?_)
      refine r_goto (tgt := 9) hZ dX5_spread_29 (by decide) ?_
      exact r_pick [0, 1, 2] (ls' := [(0, .ref p0), (1, .int x3), (2, .int x4)]) rfl (ih _ (ki_l H))
def f_X5_spread  (h : Hp) (a0 : Nat) : Option (Int32) :=
  (gR h a0 4 3).bind fun x1 =>
  (aI h x1 (J 0)).bind fun x2 =>
  (some (J 1)).bind fun x3 =>
  (iter (b_X5_spread_9 h a0) FU (x2, x3)).bind fun e4 =>
  (isO h a0 4).bind fun u5 =>
  (f_X5_leastOff h a0).bind fun r6 =>
  some (e4 - r6)
set_option maxRecDepth 100000 in
set_option maxHeartbeats 4000000 in
theorem s_X5_spread {n : Nat} {h : Hp} {a0 : Nat}  {r : Int32} (hf : f_X5_spread  h a0 = some r) : Ev 3 yX5_spread cX5_spread 3 (some .int) [.ref a0] n h (some (.int r)) n h := by
  refine Ev_of RX5 rfl (by decide) (Nat.le_of_ble_eq_true rfl) (Nat.le_refl _) (Or.inl rfl) (fun Z hZ hF hN hI => ?_)
  have H : Ok (f_X5_spread  h a0) (fun y => y = r) := ⟨_, hf, rfl⟩
  unfold f_X5_spread at H
  refine r_ls (ls' := [(0, .ref a0)]) rfl ?_
  refine r_aload_n hZ dX5_spread_0 rfl ?_
  obtain ⟨x1, ex1, H⟩ := ok_bind H
  refine r_getR hZ fl_X5_21_4 dX5_spread_1 ex1 ?_
  refine r_iconst (v := (J 0)) hZ dX5_spread_4 (by decide) ?_
  obtain ⟨x2, ex2, H⟩ := ok_bind H
  refine r_aI hZ dX5_spread_5 ex2 ?_
  refine r_istore_n hZ dX5_spread_6 (by decide) (r_pick [0, 1] (ls' := [(0, .ref a0), (1, .int x2)]) rfl ?_)
  refine r_iconst (v := (J 1)) hZ dX5_spread_7 (by decide) ?_
  obtain ⟨x3, ex3, H⟩ := ok_bind H
  refine r_topi ex3 ?_
  refine r_istore_n hZ dX5_spread_8 (by decide) (r_pick [0, 1, 2] (ls' := [(0, .ref a0), (1, .int x2), (2, .int x3)]) rfl ?_)
  have H := ok_bindK H
  refine r_pick [0, 1, 2] (ls' := [(0, .ref a0), (1, .int x2), (2, .int x3)]) rfl (l_X5_spread_9 hZ (fun e4 H => ?_) FU _ H)
  · refine r_iload_n hZ dX5_spread_32 rfl ?_
    refine r_aload_n hZ dX5_spread_33 rfl ?_
    obtain ⟨u5, eu5, H⟩ := ok_bind H
    obtain ⟨r6, er6, H⟩ := ok_bind H
    refine r_callV (As := []) (rest := [.int e4]) (st1 := [.int r6, .int e4]) (N2 := 0) hZ dX5_spread_34 cw_X5_54_X5 rfl eu5 (s_X5_leastOff er6) rfl rfl (by decide) (Nat.le_of_ble_eq_true rfl) (Nat.le_refl 0) (Nat.le_refl _) (Or.inl rfl) rfl ?_
    refine r_isub hZ dX5_spread_37 ?_
    have H := ok_some H
    subst H
    exact r_iret hZ hF dX5_spread_38
def b_X5_loudness_8 (h : Hp) (p0 : Nat) (p1 : Int32) (s : Int64 × Int64 × Int32) : Option ((Int64 × Int64 × Int32) ⊕ ((Int64 × Int64))) :=
  (if (J 16) ≤ s.2.2 then
    some (.inr ((s.1, s.2.1)))
  else
    (nz (J 16)).bind fun u1 =>
    (some ((p1 * s.2.2) - (p1 * s.2.2) / (J 16) * (J 16))).bind fun x2 =>
    (gR h p0 4 3).bind fun x3 =>
    (aI h x3 s.2.2).bind fun x4 =>
    (aS 2 x2).bind fun x5 =>
    (some (s.1 + ((x4 * x5).toInt64))).bind fun x6 =>
    (gR h p0 4 3).bind fun x7 =>
    (aI h x7 s.2.2).bind fun x8 =>
    (nz (J 16)).bind fun u9 =>
    (aS 2 ((x2 + (J 12)) - (x2 + (J 12)) / (J 16) * (J 16))).bind fun x10 =>
    (some (s.2.1 + ((x8 * x10).toInt64))).bind fun x11 =>
    (some (s.2.2 + (J 1))).bind fun x12 =>
    some (.inl (x6, x11, x12)))
set_option maxRecDepth 100000 in
set_option maxHeartbeats 4000000 in
theorem l_X5_loudness_8 {Z : Zc} (hZ : Fx cX5_loudness RX5 8 2 0 Z) {n : Nat} {h : Hp} {p0 : Nat} {p1 : Int32} {P : ((Int64 × Int64)) → Prop} (hx0 : ∀ e : Int64 × Int64, P (e) → R Z 74 [(2, .long e.1), (4, .long e.2)] [] n h 0) : ∀ (m : Nat) (s : Int64 × Int64 × Int32), Ok (iter (b_X5_loudness_8 h p0 p1) m s) P → R Z 8 [(0, .ref p0), (1, .int p1), (2, .long s.1), (4, .long s.2.1), (6, .int s.2.2)] [] n h 0 := by
  intro m
  induction m with
  | zero => exact fun s H => ok_iter0 H
  | succ m ih =>
    intro s H
    have H := ok_iter H
    unfold b_X5_loudness_8 at H
    refine r_iload hZ dX5_loudness_8 rfl ?_
    refine r_bipush (v := (J 16)) hZ dX5_loudness_10 (by decide) ?_
    refine r_icmp_ge (tgt := 74) hZ dX5_loudness_12 (by decide) (fun c13 => ?_) (fun c13 => ?_)
    · have H := ok_t H c13
      exact r_pick [2, 4] (ls' := [(2, .long s.1), (4, .long s.2.1)]) rfl (hx0 _ (ki_r H))
    · have H := ok_f H c13
      refine r_iload_n hZ dX5_loudness_15 rfl ?_
      refine r_iload hZ dX5_loudness_16 rfl ?_
      refine r_imul hZ dX5_loudness_18 ?_
      refine r_bipush (v := (J 16)) hZ dX5_loudness_19 (by decide) ?_
      obtain ⟨u1, eu1, H⟩ := ok_bind H
      refine r_irem hZ dX5_loudness_21 (nz_ne eu1) ?_
      obtain ⟨x2, ex2, H⟩ := ok_bind H
      refine r_topi ex2 ?_
      refine r_istore hZ dX5_loudness_22 (by decide) (r_pick [0, 1, 2, 4, 6, 7] (ls' := [(0, .ref p0), (1, .int p1), (2, .long s.1), (4, .long s.2.1), (6, .int s.2.2), (7, .int x2)]) rfl ?_)
      refine r_lload_n hZ dX5_loudness_24 rfl ?_
      refine r_aload_n hZ dX5_loudness_25 rfl ?_
      obtain ⟨x3, ex3, H⟩ := ok_bind H
      refine r_getR hZ fl_X5_21_4 dX5_loudness_26 ex3 ?_
      refine r_iload hZ dX5_loudness_29 rfl ?_
      obtain ⟨x4, ex4, H⟩ := ok_bind H
      refine r_aI hZ dX5_loudness_31 ex4 ?_
      refine r_gets (j := 2) hZ (by decide) dX5_loudness_32 ws_X5_58 ?_
      refine r_iload hZ dX5_loudness_35 rfl ?_
      obtain ⟨x5, ex5, H⟩ := ok_bind H
      refine r_aS hZ (by decide) dX5_loudness_37 ex5 ?_
      refine r_imul hZ dX5_loudness_38 ?_
      refine r_i2l hZ dX5_loudness_39 ?_
      refine r_ladd hZ dX5_loudness_40 ?_
      obtain ⟨x6, ex6, H⟩ := ok_bind H
      refine r_topl ex6 ?_
      refine r_lstore_n hZ dX5_loudness_41 (by decide) (r_pick [0, 1, 2, 4, 6, 7] (ls' := [(0, .ref p0), (1, .int p1), (2, .long x6), (4, .long s.2.1), (6, .int s.2.2), (7, .int x2)]) rfl ?_)
      refine r_lload hZ dX5_loudness_42 rfl ?_
      refine r_aload_n hZ dX5_loudness_44 rfl ?_
      obtain ⟨x7, ex7, H⟩ := ok_bind H
      refine r_getR hZ fl_X5_21_4 dX5_loudness_45 ex7 ?_
      refine r_iload hZ dX5_loudness_48 rfl ?_
      obtain ⟨x8, ex8, H⟩ := ok_bind H
      refine r_aI hZ dX5_loudness_50 ex8 ?_
      refine r_gets (j := 2) hZ (by decide) dX5_loudness_51 ws_X5_58 ?_
      refine r_iload hZ dX5_loudness_54 rfl ?_
      refine r_bipush (v := (J 12)) hZ dX5_loudness_56 (by decide) ?_
      refine r_iadd hZ dX5_loudness_58 ?_
      refine r_bipush (v := (J 16)) hZ dX5_loudness_59 (by decide) ?_
      obtain ⟨u9, eu9, H⟩ := ok_bind H
      refine r_irem hZ dX5_loudness_61 (nz_ne eu9) ?_
      obtain ⟨x10, ex10, H⟩ := ok_bind H
      refine r_aS hZ (by decide) dX5_loudness_62 ex10 ?_
      refine r_imul hZ dX5_loudness_63 ?_
      refine r_i2l hZ dX5_loudness_64 ?_
      refine r_ladd hZ dX5_loudness_65 ?_
      obtain ⟨x11, ex11, H⟩ := ok_bind H
      refine r_topl ex11 ?_
      refine r_lstore hZ dX5_loudness_66 (by decide) (r_pick [0, 1, 2, 4, 6] (ls' := [(0, .ref p0), (1, .int p1), (2, .long x6), (4, .long x11), (6, .int s.2.2)]) rfl ?_)
      obtain ⟨x12, ex12, H⟩ := ok_bind H
      refine r_iincE (w := (J 1)) hZ dX5_loudness_68 (by decide) rfl (by decide) ex12 (r_pick [0, 1, 2, 4, 6] (ls' := [(0, .ref p0), (1, .int p1), (2, .long x6), (4, .long x11), (6, .int x12)]) rfl ?_)
      refine r_goto (tgt := 8) hZ dX5_loudness_71 (by decide) ?_
      exact r_pick [0, 1, 2, 4, 6] (ls' := [(0, .ref p0), (1, .int p1), (2, .long x6), (4, .long x11), (6, .int x12)]) rfl (ih _ (ki_l H))
def f_X5_loudness  (h : Hp) (a0 : Nat) (a1 : Int32) : Option (Int64) :=
  (some (K 0)).bind fun x1 =>
  (some (K 0)).bind fun x2 =>
  (some (J 0)).bind fun x3 =>
  (iter (b_X5_loudness_8 h a0 a1) FU (x1, x2, x3)).bind fun e4 =>
  (nzL (K 1000000)).bind fun u5 =>
  some (((e4.1 * e4.1) + (e4.2 * e4.2)) / (K 1000000))
set_option maxRecDepth 100000 in
set_option maxHeartbeats 4000000 in
theorem s_X5_loudness {n : Nat} {h : Hp} {a0 : Nat} {a1 : Int32}  {r : Int64} (hf : f_X5_loudness  h a0 a1 = some r) : Ev 2 yX5_loudness cX5_loudness 8 (some .long) [.ref a0, .int a1] n h (some (.long r)) n h := by
  refine Ev_of RX5 rfl (by decide) (Nat.le_of_ble_eq_true rfl) (Nat.le_refl _) (Or.inl rfl) (fun Z hZ hF hN hI => ?_)
  have H : Ok (f_X5_loudness  h a0 a1) (fun y => y = r) := ⟨_, hf, rfl⟩
  unfold f_X5_loudness at H
  refine r_ls (ls' := [(0, .ref a0), (1, .int a1)]) rfl ?_
  refine r_lconst (v := (K 0)) hZ dX5_loudness_0 (by decide) ?_
  obtain ⟨x1, ex1, H⟩ := ok_bind H
  refine r_topl ex1 ?_
  refine r_lstore_n hZ dX5_loudness_1 (by decide) (r_pick [0, 1, 2] (ls' := [(0, .ref a0), (1, .int a1), (2, .long x1)]) rfl ?_)
  refine r_lconst (v := (K 0)) hZ dX5_loudness_2 (by decide) ?_
  obtain ⟨x2, ex2, H⟩ := ok_bind H
  refine r_topl ex2 ?_
  refine r_lstore hZ dX5_loudness_3 (by decide) (r_pick [0, 1, 2, 4] (ls' := [(0, .ref a0), (1, .int a1), (2, .long x1), (4, .long x2)]) rfl ?_)
  refine r_iconst (v := (J 0)) hZ dX5_loudness_5 (by decide) ?_
  obtain ⟨x3, ex3, H⟩ := ok_bind H
  refine r_topi ex3 ?_
  refine r_istore hZ dX5_loudness_6 (by decide) (r_pick [0, 1, 2, 4, 6] (ls' := [(0, .ref a0), (1, .int a1), (2, .long x1), (4, .long x2), (6, .int x3)]) rfl ?_)
  have H := ok_bindK H
  refine r_pick [0, 1, 2, 4, 6] (ls' := [(0, .ref a0), (1, .int a1), (2, .long x1), (4, .long x2), (6, .int x3)]) rfl (l_X5_loudness_8 hZ (fun e4 H => ?_) FU _ H)
  · refine r_lload_n hZ dX5_loudness_74 rfl ?_
    refine r_lload_n hZ dX5_loudness_75 rfl ?_
    refine r_lmul hZ dX5_loudness_76 ?_
    refine r_lload hZ dX5_loudness_77 rfl ?_
    refine r_lload hZ dX5_loudness_79 rfl ?_
    refine r_lmul hZ dX5_loudness_81 ?_
    refine r_ladd hZ dX5_loudness_82 ?_
    refine r_ldc2 (v := (K 1000000)) hZ wc_X5_61 dX5_loudness_83 ?_
    obtain ⟨u5, eu5, H⟩ := ok_bind H
    refine r_ldiv hZ dX5_loudness_86 (nzL_ne eu5) ?_
    have H := ok_some H
    subst H
    exact r_lret hZ hF dX5_loudness_87
def b_X5_loudestTone_4 (h : Hp) (p0 : Nat) (s : Int32 × Int32) : Option ((Int32 × Int32) ⊕ ((Int32))) :=
  (if (J 8) < s.2 then
    some (.inr (s.1))
  else
    (isO h p0 4).bind fun u1 =>
    (f_X5_loudness h p0 s.2).bind fun r2 =>
    (isO h p0 4).bind fun u3 =>
    (f_X5_loudness h p0 s.1).bind fun r4 =>
    ((if (lg_cmp r2 r4) ≤ 0 then
      some s.1
    else
      some s.2)).bind fun (j5 : Int32) =>
    (some (s.2 + (J 1))).bind fun x7 =>
    some (.inl (j5, x7)))
set_option maxRecDepth 100000 in
set_option maxHeartbeats 4000000 in
theorem l_X5_loudestTone_4 {Z : Zc} (hZ : Fx cX5_loudestTone RX5 3 3 0 Z) {n : Nat} {h : Hp} {p0 : Nat} {P : ((Int32)) → Prop} (hx0 : ∀ e : Int32, P (e) → R Z 32 [(1, .int e)] [] n h 0) : ∀ (m : Nat) (s : Int32 × Int32), Ok (iter (b_X5_loudestTone_4 h p0) m s) P → R Z 4 [(0, .ref p0), (1, .int s.1), (2, .int s.2)] [] n h 0 := by
  intro m
  induction m with
  | zero => exact fun s H => ok_iter0 H
  | succ m ih =>
    intro s H
    have H := ok_iter H
    unfold b_X5_loudestTone_4 at H
    refine r_iload_n hZ dX5_loudestTone_4 rfl ?_
    refine r_bipush (v := (J 8)) hZ dX5_loudestTone_5 (by decide) ?_
    refine r_icmp_gt (tgt := 32) hZ dX5_loudestTone_7 (by decide) (fun c8 => ?_) (fun c8 => ?_)
    · have H := ok_t H c8
      exact r_pick [1] (ls' := [(1, .int s.1)]) rfl (hx0 _ (ki_r H))
    · have H := ok_f H c8
      refine r_aload_n hZ dX5_loudestTone_10 rfl ?_
      refine r_iload_n hZ dX5_loudestTone_11 rfl ?_
      obtain ⟨u1, eu1, H⟩ := ok_bind H
      obtain ⟨r2, er2, H⟩ := ok_bind H
      refine r_callV (As := [.int s.2]) (rest := []) (st1 := [.long r2]) (N2 := 0) hZ dX5_loudestTone_12 cw_X5_63_X5 rfl eu1 (s_X5_loudness er2) rfl rfl (by decide) (Nat.le_of_ble_eq_true rfl) (Nat.le_refl 0) (Nat.le_refl _) (Or.inl rfl) rfl ?_
      refine r_aload_n hZ dX5_loudestTone_15 rfl ?_
      refine r_iload_n hZ dX5_loudestTone_16 rfl ?_
      obtain ⟨u3, eu3, H⟩ := ok_bind H
      obtain ⟨r4, er4, H⟩ := ok_bind H
      refine r_callV (As := [.int s.1]) (rest := [.long r2]) (st1 := [.long r4, .long r2]) (N2 := 0) hZ dX5_loudestTone_17 cw_X5_63_X5 rfl eu3 (s_X5_loudness er4) rfl rfl (by decide) (Nat.le_of_ble_eq_true rfl) (Nat.le_refl 0) (Nat.le_refl _) (Or.inl rfl) rfl ?_
      refine r_lcmp hZ dX5_loudestTone_20 ?_
      refine ok_join (Q := fun j5 : Int32 => R Z 26 [(0, .ref p0), (1, .int j5), (2, .int s.2)] [] n h 0) H (fun j5 H => ?_) (fun H => ?_)
      · obtain ⟨x7, ex7, H⟩ := ok_bind H
        refine r_iincE (w := (J 1)) hZ dX5_loudestTone_26 (by decide) rfl (by decide) ex7 (r_pick [0, 1, 2] (ls' := [(0, .ref p0), (1, .int j5), (2, .int x7)]) rfl ?_)
        refine r_goto (tgt := 4) hZ dX5_loudestTone_29 (by decide) ?_
        exact r_pick [0, 1, 2] (ls' := [(0, .ref p0), (1, .int j5), (2, .int x7)]) rfl (ih _ (ki_l H))
      · refine r_if_le (tgt := 26) hZ dX5_loudestTone_21 (by decide) (fun c6 => ?_) (fun c6 => ?_)
        · have H := ok_t H c6
          have H := ok_some H
          exact r_pick [0, 1, 2] (ls' := [(0, .ref p0), (1, .int s.1), (2, .int s.2)]) rfl H
        · have H := ok_f H c6
          refine r_iload_n hZ dX5_loudestTone_24 rfl ?_
          refine r_istore_n hZ dX5_loudestTone_25 (by decide) (r_pick [0, 1, 2] (ls' := [(0, .ref p0), (1, .int s.2), (2, .int s.2)]) rfl ?_)
          have H := ok_some H
          exact r_pick [0, 1, 2] (ls' := [(0, .ref p0), (1, .int s.2), (2, .int s.2)]) rfl H
def f_X5_loudestTone  (h : Hp) (a0 : Nat) : Option (Int32) :=
  (some (J 1)).bind fun x1 =>
  (some (J 2)).bind fun x2 =>
  (iter (b_X5_loudestTone_4 h a0) FU (x1, x2)).bind fun e3 =>
  some e3
set_option maxRecDepth 100000 in
set_option maxHeartbeats 4000000 in
theorem s_X5_loudestTone {n : Nat} {h : Hp} {a0 : Nat}  {r : Int32} (hf : f_X5_loudestTone  h a0 = some r) : Ev 3 yX5_loudestTone cX5_loudestTone 3 (some .int) [.ref a0] n h (some (.int r)) n h := by
  refine Ev_of RX5 rfl (by decide) (Nat.le_of_ble_eq_true rfl) (Nat.le_refl _) (Or.inl rfl) (fun Z hZ hF hN hI => ?_)
  have H : Ok (f_X5_loudestTone  h a0) (fun y => y = r) := ⟨_, hf, rfl⟩
  unfold f_X5_loudestTone at H
  refine r_ls (ls' := [(0, .ref a0)]) rfl ?_
  refine r_iconst (v := (J 1)) hZ dX5_loudestTone_0 (by decide) ?_
  obtain ⟨x1, ex1, H⟩ := ok_bind H
  refine r_topi ex1 ?_
  refine r_istore_n hZ dX5_loudestTone_1 (by decide) (r_pick [0, 1] (ls' := [(0, .ref a0), (1, .int x1)]) rfl ?_)
  refine r_iconst (v := (J 2)) hZ dX5_loudestTone_2 (by decide) ?_
  obtain ⟨x2, ex2, H⟩ := ok_bind H
  refine r_topi ex2 ?_
  refine r_istore_n hZ dX5_loudestTone_3 (by decide) (r_pick [0, 1, 2] (ls' := [(0, .ref a0), (1, .int x1), (2, .int x2)]) rfl ?_)
  have H := ok_bindK H
  refine r_pick [0, 1, 2] (ls' := [(0, .ref a0), (1, .int x1), (2, .int x2)]) rfl (l_X5_loudestTone_4 hZ (fun e3 H => ?_) FU _ H)
  · refine r_iload_n hZ dX5_loudestTone_32 rfl ?_
    have H := ok_some H
    subst H
    exact r_iret hZ hF dX5_loudestTone_33
def b_X5_wearRound_43 (p0 : Nat) (p2 : Int32) (p3 : Int32) (s : Int32 × Hp) : Option ((Int32 × Hp) ⊕ ((Hp))) :=
  (if (J 16) ≤ s.1 then
    some (.inr (s.2))
  else
    (isO s.2 p0 4).bind fun u1 =>
    (f_X5_touchAt s.2 p0 s.1).bind fun r2 =>
    ((if p2 = 0 then
      some s.2
    else
      (gR s.2 p0 4 0).bind fun x4 =>
      (isO s.2 x4 0).bind fun u5 =>
      (f_X0_wearAt s.2 x4 r2).bind fun r6 =>
      some r6)).bind fun (j3 : Hp) =>
    ((if p3 = 0 then
      some j3
    else
      (gR j3 p0 4 1).bind fun x9 =>
      (f_X5_facing r2 s.1).bind fun r10 =>
      (isO j3 x9 0).bind fun u11 =>
      (f_X0_wearAt j3 x9 r10).bind fun r12 =>
      some r12)).bind fun (j8 : Hp) =>
    (some (s.1 + (J 1))).bind fun x14 =>
    some (.inl (x14, j8)))
set_option maxRecDepth 100000 in
set_option maxHeartbeats 4000000 in
theorem l_X5_wearRound_43 {Z : Zc} (hZ : Fx cX5_wearRound RX5 6 5 0 Z) {n : Nat} {p0 : Nat} {p2 : Int32} {p3 : Int32} {P : ((Hp)) → Prop} (hx0 : ∀ e : Hp, P (e) → R Z 95 [] [] n e 0) : ∀ (m : Nat) (s : Int32 × Hp), Ok (iter (b_X5_wearRound_43 p0 p2 p3) m s) P → R Z 43 [(0, .ref p0), (2, .int p2), (3, .int p3), (4, .int s.1)] [] n s.2 0 := by
  intro m
  induction m with
  | zero => exact fun s H => ok_iter0 H
  | succ m ih =>
    intro s H
    have H := ok_iter H
    unfold b_X5_wearRound_43 at H
    refine r_iload hZ dX5_wearRound_43 rfl ?_
    refine r_bipush (v := (J 16)) hZ dX5_wearRound_45 (by decide) ?_
    refine r_icmp_ge (tgt := 95) hZ dX5_wearRound_47 (by decide) (fun c15 => ?_) (fun c15 => ?_)
    · have H := ok_t H c15
      exact r_pick [] (ls' := []) rfl (hx0 _ (ki_r H))
    · have H := ok_f H c15
      refine r_aload_n hZ dX5_wearRound_50 rfl ?_
      refine r_iload hZ dX5_wearRound_51 rfl ?_
      obtain ⟨u1, eu1, H⟩ := ok_bind H
      obtain ⟨r2, er2, H⟩ := ok_bind H
      refine r_callV (As := [.int s.1]) (rest := []) (st1 := [.int r2]) (N2 := 0) hZ dX5_wearRound_53 cw_X5_32_X5 rfl eu1 (s_X5_touchAt er2) rfl rfl (by decide) (Nat.le_of_ble_eq_true rfl) (Nat.le_refl 0) (Nat.le_refl _) (Or.inl rfl) rfl ?_
      refine r_istore hZ dX5_wearRound_56 (by decide) (r_pick [0, 2, 3, 4, 5] (ls' := [(0, .ref p0), (2, .int p2), (3, .int p3), (4, .int s.1), (5, .int r2)]) rfl ?_)
      refine r_iload_n hZ dX5_wearRound_58 rfl ?_
      refine ok_join (Q := fun j3 : Hp => R Z 71 [(0, .ref p0), (2, .int p2), (3, .int p3), (4, .int s.1), (5, .int r2)] [] n j3 0) H (fun j3 H => ?_) (fun H => ?_)
      · refine r_iload_n hZ dX5_wearRound_71 rfl ?_
        refine ok_join (Q := fun j8 : Hp => R Z 89 [(0, .ref p0), (2, .int p2), (3, .int p3), (4, .int s.1)] [] n j8 0) H (fun j8 H => ?_) (fun H => ?_)
        · obtain ⟨x14, ex14, H⟩ := ok_bind H
          refine r_iincE (w := (J 1)) hZ dX5_wearRound_89 (by decide) rfl (by decide) ex14 (r_pick [0, 2, 3, 4] (ls' := [(0, .ref p0), (2, .int p2), (3, .int p3), (4, .int x14)]) rfl ?_)
          refine r_goto (tgt := 43) hZ dX5_wearRound_92 (by decide) ?_
          exact r_pick [0, 2, 3, 4] (ls' := [(0, .ref p0), (2, .int p2), (3, .int p3), (4, .int x14)]) rfl (ih _ (ki_l H))
        · refine r_if_eq (tgt := 89) hZ dX5_wearRound_72 (by decide) (fun c13 => ?_) (fun c13 => ?_)
          · have H := ok_t H c13
            have H := ok_some H
            exact r_pick [0, 2, 3, 4] (ls' := [(0, .ref p0), (2, .int p2), (3, .int p3), (4, .int s.1)]) rfl H
          · have H := ok_f H c13
            refine r_aload_n hZ dX5_wearRound_75 rfl ?_
            obtain ⟨x9, ex9, H⟩ := ok_bind H
            refine r_getR hZ fl_X5_18_4 dX5_wearRound_76 ex9 ?_
            refine r_iload hZ dX5_wearRound_79 rfl ?_
            refine r_iload hZ dX5_wearRound_81 rfl ?_
            obtain ⟨r10, er10, H⟩ := ok_bind H
            refine r_callS (As := [.int r2, .int s.1]) (rest := [.ref x9]) (st1 := [.int r10, .ref x9]) (N2 := 0) hZ dX5_wearRound_83 cw_X5_43 (s_X5_facing er10) rfl rfl (by decide) (Nat.le_of_ble_eq_true rfl) (Nat.le_refl 0) (Nat.le_refl _) (Or.inl rfl) rfl ?_
            obtain ⟨u11, eu11, H⟩ := ok_bind H
            obtain ⟨r12, er12, H⟩ := ok_bind H
            refine r_callV (As := [.int r10]) (rest := []) (st1 := []) (N2 := 0) hZ dX5_wearRound_86 cw_X5_70_X0 rfl eu11 (s_X0_wearAt er12) rfl rfl (by decide) (Nat.le_of_ble_eq_true rfl) (Nat.le_refl 0) (Nat.le_refl _) (Or.inl rfl) rfl ?_
            have H := ok_some H
            exact r_pick [0, 2, 3, 4] (ls' := [(0, .ref p0), (2, .int p2), (3, .int p3), (4, .int s.1)]) rfl H
      · refine r_if_eq (tgt := 71) hZ dX5_wearRound_59 (by decide) (fun c7 => ?_) (fun c7 => ?_)
        · have H := ok_t H c7
          have H := ok_some H
          exact r_pick [0, 2, 3, 4, 5] (ls' := [(0, .ref p0), (2, .int p2), (3, .int p3), (4, .int s.1), (5, .int r2)]) rfl H
        · have H := ok_f H c7
          refine r_aload_n hZ dX5_wearRound_62 rfl ?_
          obtain ⟨x4, ex4, H⟩ := ok_bind H
          refine r_getR hZ fl_X5_12_4 dX5_wearRound_63 ex4 ?_
          refine r_iload hZ dX5_wearRound_66 rfl ?_
          obtain ⟨u5, eu5, H⟩ := ok_bind H
          obtain ⟨r6, er6, H⟩ := ok_bind H
          refine r_callV (As := [.int r2]) (rest := []) (st1 := []) (N2 := 0) hZ dX5_wearRound_68 cw_X5_70_X0 rfl eu5 (s_X0_wearAt er6) rfl rfl (by decide) (Nat.le_of_ble_eq_true rfl) (Nat.le_refl 0) (Nat.le_refl _) (Or.inl rfl) rfl ?_
          have H := ok_some H
          exact r_pick [0, 2, 3, 4, 5] (ls' := [(0, .ref p0), (2, .int p2), (3, .int p3), (4, .int s.1), (5, .int r2)]) rfl H
def f_X5_wearRound  (h : Hp) (a0 : Nat) (a1 : Int32) : Option (Hp) :=
  (gR h a0 4 0).bind fun x1 =>
  (isO h x1 0).bind fun u2 =>
  (f_X0_hard h x1).bind fun r3 =>
  (nz (J 10)).bind fun u4 =>
  ((if (a1 / (J 10)) ≤ r3 then
    some (J 0)
  else
    some (J 1))).bind fun (j5 : Int32) =>
  (gR h a0 4 1).bind fun x7 =>
  (isO h x7 0).bind fun u8 =>
  (f_X0_hard h x7).bind fun r9 =>
  (nz (J 10)).bind fun u10 =>
  ((if (a1 / (J 10)) ≤ r9 then
    some (J 0)
  else
    some (J 1))).bind fun (j11 : Int32) =>
  (some (J 0)).bind fun x13 =>
  (iter (b_X5_wearRound_43 a0 j5 j11) FU (x13, h)).bind fun e14 =>
  some e14
set_option maxRecDepth 100000 in
set_option maxHeartbeats 4000000 in
theorem s_X5_wearRound {n : Nat} {h : Hp} {a0 : Nat} {a1 : Int32}  {r : Hp} (hf : f_X5_wearRound  h a0 a1 = some r) : Ev 5 yX5_wearRound cX5_wearRound 6 none [.ref a0, .int a1] n h none n r := by
  refine Ev_of RX5 rfl (by decide) (Nat.le_of_ble_eq_true rfl) (Nat.le_refl _) (Or.inl rfl) (fun Z hZ hF hN hI => ?_)
  have H : Ok (f_X5_wearRound  h a0 a1) (fun y => y = r) := ⟨_, hf, rfl⟩
  unfold f_X5_wearRound at H
  refine r_ls (ls' := [(0, .ref a0), (1, .int a1)]) rfl ?_
  refine r_aload_n hZ dX5_wearRound_0 rfl ?_
  obtain ⟨x1, ex1, H⟩ := ok_bind H
  refine r_getR hZ fl_X5_12_4 dX5_wearRound_1 ex1 ?_
  obtain ⟨u2, eu2, H⟩ := ok_bind H
  obtain ⟨r3, er3, H⟩ := ok_bind H
  refine r_callV (As := []) (rest := []) (st1 := [.int r3]) (N2 := 0) hZ dX5_wearRound_4 cw_X5_67_X0 rfl eu2 (s_X0_hard er3) rfl rfl (by decide) (Nat.le_of_ble_eq_true rfl) (Nat.le_refl 0) (Nat.le_refl _) (Or.inl rfl) rfl ?_
  refine r_iload_n hZ dX5_wearRound_7 rfl ?_
  refine r_bipush (v := (J 10)) hZ dX5_wearRound_8 (by decide) ?_
  obtain ⟨u4, eu4, H⟩ := ok_bind H
  refine r_idiv hZ dX5_wearRound_10 (nz_ne eu4) ?_
  refine ok_join (Q := fun j5 : Int32 => R Z 19 [(0, .ref a0), (1, .int a1)] [.int j5] n h 0) H (fun j5 H => ?_) (fun H => ?_)
  · refine r_istore_n hZ dX5_wearRound_19 (by decide) (r_pick [0, 1, 2] (ls' := [(0, .ref a0), (1, .int a1), (2, .int j5)]) rfl ?_)
    refine r_aload_n hZ dX5_wearRound_20 rfl ?_
    obtain ⟨x7, ex7, H⟩ := ok_bind H
    refine r_getR hZ fl_X5_18_4 dX5_wearRound_21 ex7 ?_
    obtain ⟨u8, eu8, H⟩ := ok_bind H
    obtain ⟨r9, er9, H⟩ := ok_bind H
    refine r_callV (As := []) (rest := []) (st1 := [.int r9]) (N2 := 0) hZ dX5_wearRound_24 cw_X5_67_X0 rfl eu8 (s_X0_hard er9) rfl rfl (by decide) (Nat.le_of_ble_eq_true rfl) (Nat.le_refl 0) (Nat.le_refl _) (Or.inl rfl) rfl ?_
    refine r_iload_n hZ dX5_wearRound_27 rfl ?_
    refine r_bipush (v := (J 10)) hZ dX5_wearRound_28 (by decide) ?_
    obtain ⟨u10, eu10, H⟩ := ok_bind H
    refine r_idiv hZ dX5_wearRound_30 (nz_ne eu10) ?_
    refine ok_join (Q := fun j11 : Int32 => R Z 39 [(0, .ref a0), (2, .int j5)] [.int j11] n h 0) H (fun j11 H => ?_) (fun H => ?_)
    · refine r_istore_n hZ dX5_wearRound_39 (by decide) (r_pick [0, 2, 3] (ls' := [(0, .ref a0), (2, .int j5), (3, .int j11)]) rfl ?_)
      refine r_iconst (v := (J 0)) hZ dX5_wearRound_40 (by decide) ?_
      obtain ⟨x13, ex13, H⟩ := ok_bind H
      refine r_topi ex13 ?_
      refine r_istore hZ dX5_wearRound_41 (by decide) (r_pick [0, 2, 3, 4] (ls' := [(0, .ref a0), (2, .int j5), (3, .int j11), (4, .int x13)]) rfl ?_)
      have H := ok_bindK H
      refine r_pick [0, 2, 3, 4] (ls' := [(0, .ref a0), (2, .int j5), (3, .int j11), (4, .int x13)]) rfl (l_X5_wearRound_43 hZ (fun e14 H => ?_) FU _ H)
      · have H := ok_some H
        subst H
        exact r_ret hZ hF dX5_wearRound_95
    · refine r_icmp_ge (tgt := 38) hZ dX5_wearRound_31 (by decide) (fun c12 => ?_) (fun c12 => ?_)
      · have H := ok_t H c12
        refine r_iconst (v := (J 0)) hZ dX5_wearRound_38 (by decide) ?_
        have H := ok_some H
        exact r_pick [0, 2] (ls' := [(0, .ref a0), (2, .int j5)]) rfl H
      · have H := ok_f H c12
        refine r_iconst (v := (J 1)) hZ dX5_wearRound_34 (by decide) ?_
        refine r_goto (tgt := 39) hZ dX5_wearRound_35 (by decide) ?_
        have H := ok_some H
        exact r_pick [0, 2] (ls' := [(0, .ref a0), (2, .int j5)]) rfl H
  · refine r_icmp_ge (tgt := 18) hZ dX5_wearRound_11 (by decide) (fun c6 => ?_) (fun c6 => ?_)
    · have H := ok_t H c6
      refine r_iconst (v := (J 0)) hZ dX5_wearRound_18 (by decide) ?_
      have H := ok_some H
      exact r_pick [0, 1] (ls' := [(0, .ref a0), (1, .int a1)]) rfl H
    · have H := ok_f H c6
      refine r_iconst (v := (J 1)) hZ dX5_wearRound_14 (by decide) ?_
      refine r_goto (tgt := 19) hZ dX5_wearRound_15 (by decide) ?_
      have H := ok_some H
      exact r_pick [0, 1] (ls' := [(0, .ref a0), (1, .int a1)]) rfl H
def f_X5_tellFields  (h : Hp) (a0 : Nat) (a1 : Nat) (a2 : Int32) : Option (Hp) :=
  (isO h a0 4).bind fun u1 =>
  (f_X5_loudestTone h a0).bind fun r2 =>
  (isO h a0 4).bind fun u3 =>
  (f_X5_spread h a0).bind fun r4 =>
  (sI h a1 (J 0) r4).bind fun h5 =>
  (isO h5 a0 4).bind fun u6 =>
  (f_X5_leastOff h5 a0).bind fun r7 =>
  (sI h5 a1 (J 1) r7).bind fun h8 =>
  (sI h8 a1 (J 2) r2).bind fun h9 =>
  (isO h9 a0 4).bind fun u10 =>
  (f_X5_loudness h9 a0 r2).bind fun r11 =>
  (sI h9 a1 (J 3) ((if (K 9999) < r11 then (K 9999) else r11).toInt32)).bind fun h12 =>
  (sI h12 a1 (J 4) a2).bind fun h13 =>
  (gR h13 a0 4 0).bind fun x14 =>
  (isO h13 x14 0).bind fun u15 =>
  (f_X0_thin h13 x14).bind fun r16 =>
  (sI h13 a1 (J 5) r16).bind fun h17 =>
  (gR h17 a0 4 1).bind fun x18 =>
  (isO h17 x18 0).bind fun u19 =>
  (f_X0_thin h17 x18).bind fun r20 =>
  (sI h17 a1 (J 6) r20).bind fun h21 =>
  some h21
set_option maxRecDepth 100000 in
set_option maxHeartbeats 4000000 in
theorem s_X5_tellFields {n : Nat} {h : Hp} {a0 : Nat} {a1 : Nat} {a2 : Int32}  {r : Hp} (hf : f_X5_tellFields  h a0 a1 a2 = some r) : Ev 4 yX5_tellFields cX5_tellFields 4 none [.ref a0, .ref a1, .int a2] n h none n r := by
  refine Ev_of RX5 rfl (by decide) (Nat.le_of_ble_eq_true rfl) (Nat.le_refl _) (Or.inl rfl) (fun Z hZ hF hN hI => ?_)
  have H : Ok (f_X5_tellFields  h a0 a1 a2) (fun y => y = r) := ⟨_, hf, rfl⟩
  unfold f_X5_tellFields at H
  refine r_ls (ls' := [(0, .ref a0), (1, .ref a1), (2, .int a2)]) rfl ?_
  refine r_aload_n hZ dX5_tellFields_0 rfl ?_
  obtain ⟨u1, eu1, H⟩ := ok_bind H
  obtain ⟨r2, er2, H⟩ := ok_bind H
  refine r_callV (As := []) (rest := []) (st1 := [.int r2]) (N2 := 0) hZ dX5_tellFields_1 cw_X5_74_X5 rfl eu1 (s_X5_loudestTone er2) rfl rfl (by decide) (Nat.le_of_ble_eq_true rfl) (Nat.le_refl 0) (Nat.le_refl _) (Or.inl rfl) rfl ?_
  refine r_istore_n hZ dX5_tellFields_4 (by decide) (r_pick [0, 1, 2, 3] (ls' := [(0, .ref a0), (1, .ref a1), (2, .int a2), (3, .int r2)]) rfl ?_)
  refine r_aload_n hZ dX5_tellFields_5 rfl ?_
  refine r_iconst (v := (J 0)) hZ dX5_tellFields_6 (by decide) ?_
  refine r_aload_n hZ dX5_tellFields_7 rfl ?_
  obtain ⟨u3, eu3, H⟩ := ok_bind H
  obtain ⟨r4, er4, H⟩ := ok_bind H
  refine r_callV (As := []) (rest := [.int (J 0), .ref a1]) (st1 := [.int r4, .int (J 0), .ref a1]) (N2 := 0) hZ dX5_tellFields_8 cw_X5_77_X5 rfl eu3 (s_X5_spread er4) rfl rfl (by decide) (Nat.le_of_ble_eq_true rfl) (Nat.le_refl 0) (Nat.le_refl _) (Or.inl rfl) rfl ?_
  obtain ⟨h5, eh5, H⟩ := ok_bind H
  refine r_sI hZ dX5_tellFields_11 eh5 ?_
  refine r_aload_n hZ dX5_tellFields_12 rfl ?_
  refine r_iconst (v := (J 1)) hZ dX5_tellFields_13 (by decide) ?_
  refine r_aload_n hZ dX5_tellFields_14 rfl ?_
  obtain ⟨u6, eu6, H⟩ := ok_bind H
  obtain ⟨r7, er7, H⟩ := ok_bind H
  refine r_callV (As := []) (rest := [.int (J 1), .ref a1]) (st1 := [.int r7, .int (J 1), .ref a1]) (N2 := 0) hZ dX5_tellFields_15 cw_X5_54_X5 rfl eu6 (s_X5_leastOff er7) rfl rfl (by decide) (Nat.le_of_ble_eq_true rfl) (Nat.le_refl 0) (Nat.le_refl _) (Or.inl rfl) rfl ?_
  obtain ⟨h8, eh8, H⟩ := ok_bind H
  refine r_sI hZ dX5_tellFields_18 eh8 ?_
  refine r_aload_n hZ dX5_tellFields_19 rfl ?_
  refine r_iconst (v := (J 2)) hZ dX5_tellFields_20 (by decide) ?_
  refine r_iload_n hZ dX5_tellFields_21 rfl ?_
  obtain ⟨h9, eh9, H⟩ := ok_bind H
  refine r_sI hZ dX5_tellFields_22 eh9 ?_
  refine r_aload_n hZ dX5_tellFields_23 rfl ?_
  refine r_iconst (v := (J 3)) hZ dX5_tellFields_24 (by decide) ?_
  refine r_aload_n hZ dX5_tellFields_25 rfl ?_
  refine r_iload_n hZ dX5_tellFields_26 rfl ?_
  obtain ⟨u10, eu10, H⟩ := ok_bind H
  obtain ⟨r11, er11, H⟩ := ok_bind H
  refine r_callV (As := [.int r2]) (rest := [.int (J 3), .ref a1]) (st1 := [.long r11, .int (J 3), .ref a1]) (N2 := 0) hZ dX5_tellFields_27 cw_X5_63_X5 rfl eu10 (s_X5_loudness er11) rfl rfl (by decide) (Nat.le_of_ble_eq_true rfl) (Nat.le_refl 0) (Nat.le_refl _) (Or.inl rfl) rfl ?_
  refine r_ldc2 (v := (K 9999)) hZ wc_X5_80 dX5_tellFields_30 ?_
  refine r_minL hZ dX5_tellFields_33 wM_X5_82 (by decide) (Nat.le_of_ble_eq_true rfl) (Nat.le_refl 0) ?_
  refine r_l2i hZ dX5_tellFields_36 ?_
  obtain ⟨h12, eh12, H⟩ := ok_bind H
  refine r_sI hZ dX5_tellFields_37 eh12 ?_
  refine r_aload_n hZ dX5_tellFields_38 rfl ?_
  refine r_iconst (v := (J 4)) hZ dX5_tellFields_39 (by decide) ?_
  refine r_iload_n hZ dX5_tellFields_40 rfl ?_
  obtain ⟨h13, eh13, H⟩ := ok_bind H
  refine r_sI hZ dX5_tellFields_41 eh13 ?_
  refine r_aload_n hZ dX5_tellFields_42 rfl ?_
  refine r_iconst (v := (J 5)) hZ dX5_tellFields_43 (by decide) ?_
  refine r_aload_n hZ dX5_tellFields_44 rfl ?_
  obtain ⟨x14, ex14, H⟩ := ok_bind H
  refine r_getR hZ fl_X5_12_4 dX5_tellFields_45 ex14 ?_
  obtain ⟨u15, eu15, H⟩ := ok_bind H
  obtain ⟨r16, er16, H⟩ := ok_bind H
  refine r_callV (As := []) (rest := [.int (J 5), .ref a1]) (st1 := [.int r16, .int (J 5), .ref a1]) (N2 := 0) hZ dX5_tellFields_48 cw_X5_85_X0 rfl eu15 (s_X0_thin er16) rfl rfl (by decide) (Nat.le_of_ble_eq_true rfl) (Nat.le_refl 0) (Nat.le_refl _) (Or.inl rfl) rfl ?_
  obtain ⟨h17, eh17, H⟩ := ok_bind H
  refine r_sI hZ dX5_tellFields_51 eh17 ?_
  refine r_aload_n hZ dX5_tellFields_52 rfl ?_
  refine r_bipush (v := (J 6)) hZ dX5_tellFields_53 (by decide) ?_
  refine r_aload_n hZ dX5_tellFields_55 rfl ?_
  obtain ⟨x18, ex18, H⟩ := ok_bind H
  refine r_getR hZ fl_X5_18_4 dX5_tellFields_56 ex18 ?_
  obtain ⟨u19, eu19, H⟩ := ok_bind H
  obtain ⟨r20, er20, H⟩ := ok_bind H
  refine r_callV (As := []) (rest := [.int (J 6), .ref a1]) (st1 := [.int r20, .int (J 6), .ref a1]) (N2 := 0) hZ dX5_tellFields_59 cw_X5_85_X0 rfl eu19 (s_X0_thin er20) rfl rfl (by decide) (Nat.le_of_ble_eq_true rfl) (Nat.le_refl 0) (Nat.le_refl _) (Or.inl rfl) rfl ?_
  obtain ⟨h21, eh21, H⟩ := ok_bind H
  refine r_sI hZ dX5_tellFields_62 eh21 ?_
  have H := ok_some H
  subst H
  exact r_ret hZ hF dX5_tellFields_63
def f_X6_init  (N2 n : Nat) (h : Hp) (a0 : Nat) : Option (Hp) :=
  (cap (n + 1 + 12) N2).bind fun u1 =>
  (pF (hM n h 12 120) a0 5 0 (.ref n)).bind fun h2 =>
  (cap ((n + 1 + 12) + 1) N2).bind fun u3 =>
  (pF (va_up h2 (n + 1 + 12) (some (0, .inr (12, .inl fun _ => 0)))) a0 5 1 (.ref (n + 1 + 12))).bind fun h4 =>
  (eqn ((n + 1 + 12) + 1) N2).bind fun u5 =>
  some h4
set_option maxRecDepth 100000 in
set_option maxHeartbeats 4000000 in
theorem s_X6_init {n : Nat} {h : Hp} {a0 : Nat}  {r : Hp} {N2 : Nat} (hB : n ≤ N2 ∧ N2 ≤ BB) (hf : f_X6_init  N2 n h a0 = some r) : Ev 2 yX6_init cX6_init 1 none [.ref a0] n h none N2 r := by
  refine Ev_of RX6 rfl (by decide) (Nat.le_of_ble_eq_true rfl) hB.1 (Or.inr hB.2) (fun Z hZ hF hN hI => ?_)
  have hN := hN hB.2
  have hI := hI rfl
  have H : Ok (f_X6_init  N2 n h a0) (fun y => y = r) := ⟨_, hf, rfl⟩
  unfold f_X6_init at H
  refine r_ls (ls' := [(0, .ref a0)]) rfl ?_
  refine r_aload_n hZ dX6_init_0 rfl ?_
  refine r_objinit hZ wi_X6_3 wi_i wi_c dX6_init_1 (by decide) (Nat.le_of_ble_eq_true rfl) ?_
  refine r_aload_n hZ dX6_init_4 rfl ?_
  refine r_bipush (v := (J 12)) hZ dX6_init_5 (by decide) ?_
  refine r_bipush (v := (J 120)) hZ dX6_init_7 (by decide) ?_
  obtain ⟨u1, eu1, H⟩ := ok_bind H
  refine r_multi (N' := 12) (K' := 120) hZ hN wm_X6_9 wa_int (by decide) (by decide) (by decide) (by decide) (by decide) (by decide) dX6_init_9 (cap_le eu1) (Nat.le_refl 0) ?_
  obtain ⟨h2, eh2, H⟩ := ok_bind H
  refine r_putF hZ hI fl_X6_11_5 dX6_init_13 eh2 rfl rfl rfl ?_
  refine r_aload_n hZ dX6_init_16 rfl ?_
  refine r_bipush (v := (J 12)) hZ dX6_init_17 (by decide) ?_
  obtain ⟨u3, eu3, H⟩ := ok_bind H
  refine r_newI (len := 12) hZ hN wa_int (by decide) (by decide) (by decide) dX6_init_19 (cap_le eu3) (Nat.le_refl 0) ?_
  obtain ⟨h4, eh4, H⟩ := ok_bind H
  refine r_putF hZ hI fl_X6_16_5 dX6_init_21 eh4 rfl rfl rfl ?_
  obtain ⟨u5, eu5, H⟩ := ok_bind H
  have H := ok_some H
  subst H
  have eu5 := eqn_eq eu5
  rw [eu5]
  exact r_ret hZ hF dX6_init_24
def f_X6_addRule  (h : Hp) (a0 : Nat) (a1 : Nat) (a2 : Int32) : Option (Hp) :=
  (gR h a0 5 0).bind fun x1 =>
  (gI h a0 5 2).bind fun x2 =>
  (aR h x1 5 x2).bind fun x3 =>
  (cpI h a1 (J 0) x3 (J 0) a2).bind fun h4 =>
  (gR h4 a0 5 1).bind fun x5 =>
  (gI h4 a0 5 2).bind fun x6 =>
  (sI h4 x5 x6 a2).bind fun h7 =>
  (gI h7 a0 5 2).bind fun x8 =>
  (pF h7 a0 5 2 (.int (x8 + (J 1)))).bind fun h9 =>
  some h9
set_option maxRecDepth 100000 in
set_option maxHeartbeats 4000000 in
theorem s_X6_addRule {n : Nat} {h : Hp} {a0 : Nat} {a1 : Nat} {a2 : Int32}  {r : Hp} (hf : f_X6_addRule  h a0 a1 a2 = some r) : Ev 2 yX6_addRule cX6_addRule 3 none [.ref a0, .ref a1, .int a2] n h none n r := by
  refine Ev_of RX6 rfl (by decide) (Nat.le_of_ble_eq_true rfl) (Nat.le_refl _) (Or.inl rfl) (fun Z hZ hF hN hI => ?_)
  have H : Ok (f_X6_addRule  h a0 a1 a2) (fun y => y = r) := ⟨_, hf, rfl⟩
  unfold f_X6_addRule at H
  refine r_ls (ls' := [(0, .ref a0), (1, .ref a1), (2, .int a2)]) rfl ?_
  refine r_aload_n hZ dX6_addRule_0 rfl ?_
  refine r_iconst (v := (J 0)) hZ dX6_addRule_1 (by decide) ?_
  refine r_aload_n hZ dX6_addRule_2 rfl ?_
  obtain ⟨x1, ex1, H⟩ := ok_bind H
  refine r_getR hZ fl_X6_11_5 dX6_addRule_3 ex1 ?_
  refine r_aload_n hZ dX6_addRule_6 rfl ?_
  obtain ⟨x2, ex2, H⟩ := ok_bind H
  refine r_getI hZ fl_X6_20_5 dX6_addRule_7 ex2 ?_
  obtain ⟨x3, ex3, H⟩ := ok_bind H
  refine r_aR hZ dX6_addRule_10 ex3 (fun _ => rfl) (Or.inr rfl) ?_
  refine r_iconst (v := (J 0)) hZ dX6_addRule_11 (by decide) ?_
  refine r_iload_n hZ dX6_addRule_12 rfl ?_
  obtain ⟨h4, eh4, H⟩ := ok_bind H
  refine r_cpI hZ dX6_addRule_13 wC_X6_28 eh4 (by decide) (Nat.le_of_ble_eq_true rfl) ?_
  refine r_aload_n hZ dX6_addRule_16 rfl ?_
  obtain ⟨x5, ex5, H⟩ := ok_bind H
  refine r_getR hZ fl_X6_16_5 dX6_addRule_17 ex5 ?_
  refine r_aload_n hZ dX6_addRule_20 rfl ?_
  obtain ⟨x6, ex6, H⟩ := ok_bind H
  refine r_getI hZ fl_X6_20_5 dX6_addRule_21 ex6 ?_
  refine r_iload_n hZ dX6_addRule_24 rfl ?_
  obtain ⟨h7, eh7, H⟩ := ok_bind H
  refine r_sI hZ dX6_addRule_25 eh7 ?_
  refine r_aload_n hZ dX6_addRule_26 rfl ?_
  refine r_dup_a hZ dX6_addRule_27 ?_
  obtain ⟨x8, ex8, H⟩ := ok_bind H
  refine r_getI hZ fl_X6_20_5 dX6_addRule_28 ex8 ?_
  refine r_iconst (v := (J 1)) hZ dX6_addRule_31 (by decide) ?_
  refine r_iadd hZ dX6_addRule_32 ?_
  obtain ⟨h9, eh9, H⟩ := ok_bind H
  refine r_putf hZ fl_X6_20_5 dX6_addRule_33 eh9 rfl rfl ?_
  have H := ok_some H
  subst H
  exact r_ret hZ hF dX6_addRule_36
def b_X6_takeFrom_7 (p0 : Nat) (p1 : Nat) (s : Int32 × Hp) : Option ((Int32 × Hp) ⊕ ((Hp))) :=
  (gI s.2 p1 5 2).bind fun x1 =>
  (if x1 ≤ s.1 then
    some (.inr (s.2))
  else
    (gR s.2 p1 5 0).bind fun x2 =>
    (aR s.2 x2 5 s.1).bind fun x3 =>
    (gR s.2 p1 5 1).bind fun x4 =>
    (aI s.2 x4 s.1).bind fun x5 =>
    (isO s.2 p0 5).bind fun u6 =>
    (f_X6_addRule s.2 p0 x3 x5).bind fun r7 =>
    (some (s.1 + (J 1))).bind fun x8 =>
    some (.inl (x8, r7)))
set_option maxRecDepth 100000 in
set_option maxHeartbeats 4000000 in
theorem l_X6_takeFrom_7 {Z : Zc} (hZ : Fx cX6_takeFrom RX6 3 3 0 Z) {n : Nat} {p0 : Nat} {p1 : Nat} {P : ((Hp)) → Prop} (hx0 : ∀ e : Hp, P (e) → R Z 37 [] [] n e 0) : ∀ (m : Nat) (s : Int32 × Hp), Ok (iter (b_X6_takeFrom_7 p0 p1) m s) P → R Z 7 [(0, .ref p0), (1, .ref p1), (2, .int s.1)] [] n s.2 0 := by
  intro m
  induction m with
  | zero => exact fun s H => ok_iter0 H
  | succ m ih =>
    intro s H
    have H := ok_iter H
    unfold b_X6_takeFrom_7 at H
    refine r_iload_n hZ dX6_takeFrom_7 rfl ?_
    refine r_aload_n hZ dX6_takeFrom_8 rfl ?_
    obtain ⟨x1, ex1, H⟩ := ok_bind H
    refine r_getI hZ fl_X6_20_5 dX6_takeFrom_9 ex1 ?_
    refine r_icmp_ge (tgt := 37) hZ dX6_takeFrom_12 (by decide) (fun c9 => ?_) (fun c9 => ?_)
    · have H := ok_t H c9
      exact r_pick [] (ls' := []) rfl (hx0 _ (ki_r H))
    · have H := ok_f H c9
      refine r_aload_n hZ dX6_takeFrom_15 rfl ?_
      refine r_aload_n hZ dX6_takeFrom_16 rfl ?_
      obtain ⟨x2, ex2, H⟩ := ok_bind H
      refine r_getR hZ fl_X6_11_5 dX6_takeFrom_17 ex2 ?_
      refine r_iload_n hZ dX6_takeFrom_20 rfl ?_
      obtain ⟨x3, ex3, H⟩ := ok_bind H
      refine r_aR hZ dX6_takeFrom_21 ex3 (fun _ => rfl) (Or.inr rfl) ?_
      refine r_aload_n hZ dX6_takeFrom_22 rfl ?_
      obtain ⟨x4, ex4, H⟩ := ok_bind H
      refine r_getR hZ fl_X6_16_5 dX6_takeFrom_23 ex4 ?_
      refine r_iload_n hZ dX6_takeFrom_26 rfl ?_
      obtain ⟨x5, ex5, H⟩ := ok_bind H
      refine r_aI hZ dX6_takeFrom_27 ex5 ?_
      obtain ⟨u6, eu6, H⟩ := ok_bind H
      obtain ⟨r7, er7, H⟩ := ok_bind H
      refine r_callV (As := [.ref x3, .int x5]) (rest := []) (st1 := []) (N2 := 0) hZ dX6_takeFrom_28 cw_X6_24_X6 rfl eu6 (s_X6_addRule er7) rfl rfl (by decide) (Nat.le_of_ble_eq_true rfl) (Nat.le_refl 0) (Nat.le_refl _) (Or.inl rfl) rfl ?_
      obtain ⟨x8, ex8, H⟩ := ok_bind H
      refine r_iincE (w := (J 1)) hZ dX6_takeFrom_31 (by decide) rfl (by decide) ex8 (r_pick [0, 1, 2] (ls' := [(0, .ref p0), (1, .ref p1), (2, .int x8)]) rfl ?_)
      refine r_goto (tgt := 7) hZ dX6_takeFrom_34 (by decide) ?_
      exact r_pick [0, 1, 2] (ls' := [(0, .ref p0), (1, .ref p1), (2, .int x8)]) rfl (ih _ (ki_l H))
def f_X6_takeFrom  (h : Hp) (a0 : Nat) (a1 : Nat) : Option (Hp) :=
  (pF h a0 5 2 (.int (J 0))).bind fun h1 =>
  (some (J 0)).bind fun x2 =>
  (iter (b_X6_takeFrom_7 a0 a1) FU (x2, h1)).bind fun e3 =>
  some e3
set_option maxRecDepth 100000 in
set_option maxHeartbeats 4000000 in
theorem s_X6_takeFrom {n : Nat} {h : Hp} {a0 : Nat} {a1 : Nat}  {r : Hp} (hf : f_X6_takeFrom  h a0 a1 = some r) : Ev 3 yX6_takeFrom cX6_takeFrom 3 none [.ref a0, .ref a1] n h none n r := by
  refine Ev_of RX6 rfl (by decide) (Nat.le_of_ble_eq_true rfl) (Nat.le_refl _) (Or.inl rfl) (fun Z hZ hF hN hI => ?_)
  have H : Ok (f_X6_takeFrom  h a0 a1) (fun y => y = r) := ⟨_, hf, rfl⟩
  unfold f_X6_takeFrom at H
  refine r_ls (ls' := [(0, .ref a0), (1, .ref a1)]) rfl ?_
  refine r_aload_n hZ dX6_takeFrom_0 rfl ?_
  refine r_iconst (v := (J 0)) hZ dX6_takeFrom_1 (by decide) ?_
  obtain ⟨h1, eh1, H⟩ := ok_bind H
  refine r_putf hZ fl_X6_20_5 dX6_takeFrom_2 eh1 rfl rfl ?_
  refine r_iconst (v := (J 0)) hZ dX6_takeFrom_5 (by decide) ?_
  obtain ⟨x2, ex2, H⟩ := ok_bind H
  refine r_topi ex2 ?_
  refine r_istore_n hZ dX6_takeFrom_6 (by decide) (r_pick [0, 1, 2] (ls' := [(0, .ref a0), (1, .ref a1), (2, .int x2)]) rfl ?_)
  have H := ok_bindK H
  refine r_pick [0, 1, 2] (ls' := [(0, .ref a0), (1, .ref a1), (2, .int x2)]) rfl (l_X6_takeFrom_7 hZ (fun e3 H => ?_) FU _ H)
  · have H := ok_some H
    subst H
    exact r_ret hZ hF dX6_takeFrom_37
