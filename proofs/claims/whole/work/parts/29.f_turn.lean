def f_X1_init  (N2 n : Nat) (h : Hp) (a0 : Nat) : Option (Hp) :=
  (cap (n + 1) N2).bind fun u1 =>
  (pF (va_up h n (some (3, .inr (12, .inr (.inr (.inr (.inr fun _ => none))))))) a0 1 0 (.ref n)).bind fun h2 =>
  (cap ((n + 1) + 1) N2).bind fun u3 =>
  (pF (va_up h2 (n + 1) (some (1, .inr (12, .inr (.inl fun _ => 0))))) a0 1 5 (.ref (n + 1))).bind fun h4 =>
  (cap (((n + 1) + 1) + 1) N2).bind fun u5 =>
  (pF (va_up h4 ((n + 1) + 1) (some (0, .inr (12, .inl fun _ => 0)))) a0 1 6 (.ref ((n + 1) + 1))).bind fun h6 =>
  (cap ((((n + 1) + 1) + 1) + 1) N2).bind fun u7 =>
  (pF (va_up h6 (((n + 1) + 1) + 1) (some (0, .inr (12, .inl fun _ => 0)))) a0 1 7 (.ref (((n + 1) + 1) + 1))).bind fun h8 =>
  (eqn ((((n + 1) + 1) + 1) + 1) N2).bind fun u9 =>
  some h8
set_option maxRecDepth 100000 in
set_option maxHeartbeats 4000000 in
theorem s_X1_init {n : Nat} {h : Hp} {a0 : Nat}  {r : Hp} {N2 : Nat} (hB : n ≤ N2 ∧ N2 ≤ BB) (hf : f_X1_init  N2 n h a0 = some r) : Ev 2 yX1_init cX1_init 1 none [.ref a0] n h none N2 r := by
  refine Ev_of RX1 rfl (by decide) (Nat.le_of_ble_eq_true rfl) hB.1 (Or.inr hB.2) (fun Z hZ hF hN hI => ?_)
  have hN := hN hB.2
  have hI := hI rfl
  have H : Ok (f_X1_init  N2 n h a0) (fun y => y = r) := ⟨_, hf, rfl⟩
  unfold f_X1_init at H
  refine r_ls (ls' := [(0, .ref a0)]) rfl ?_
  refine r_aload_n hZ dX1_init_0 rfl ?_
  refine r_objinit hZ wi_X1_3 wi_i wi_c dX1_init_1 (by decide) (Nat.le_of_ble_eq_true rfl) ?_
  refine r_aload_n hZ dX1_init_4 rfl ?_
  refine r_bipush (v := (J 12)) hZ dX1_init_5 (by decide) ?_
  obtain ⟨u1, eu1, H⟩ := ok_bind H
  refine r_newQ (t0 := 3) (len := 12) hZ hN wq_X1_9 (Or.inl rfl) (fun _ => rfl) (by decide) (by decide) (by decide) dX1_init_7 (cap_le eu1) (Nat.le_refl 0) ?_
  obtain ⟨h2, eh2, H⟩ := ok_bind H
  refine r_putF hZ hI fl_X1_11_1 dX1_init_10 eh2 rfl rfl rfl ?_
  refine r_aload_n hZ dX1_init_13 rfl ?_
  refine r_bipush (v := (J 12)) hZ dX1_init_14 (by decide) ?_
  obtain ⟨u3, eu3, H⟩ := ok_bind H
  refine r_newL (len := 12) hZ hN wa_long (by decide) (by decide) (by decide) dX1_init_16 (cap_le eu3) (Nat.le_refl 0) ?_
  obtain ⟨h4, eh4, H⟩ := ok_bind H
  refine r_putF hZ hI fl_X1_17_1 dX1_init_18 eh4 rfl rfl rfl ?_
  refine r_aload_n hZ dX1_init_21 rfl ?_
  refine r_bipush (v := (J 12)) hZ dX1_init_22 (by decide) ?_
  obtain ⟨u5, eu5, H⟩ := ok_bind H
  refine r_newI (len := 12) hZ hN wa_int (by decide) (by decide) (by decide) dX1_init_24 (cap_le eu5) (Nat.le_refl 0) ?_
  obtain ⟨h6, eh6, H⟩ := ok_bind H
  refine r_putF hZ hI fl_X1_21_1 dX1_init_26 eh6 rfl rfl rfl ?_
  refine r_aload_n hZ dX1_init_29 rfl ?_
  refine r_bipush (v := (J 12)) hZ dX1_init_30 (by decide) ?_
  obtain ⟨u7, eu7, H⟩ := ok_bind H
  refine r_newI (len := 12) hZ hN wa_int (by decide) (by decide) (by decide) dX1_init_32 (cap_le eu7) (Nat.le_refl 0) ?_
  obtain ⟨h8, eh8, H⟩ := ok_bind H
  refine r_putF hZ hI fl_X1_25_1 dX1_init_34 eh8 rfl rfl rfl ?_
  obtain ⟨u9, eu9, H⟩ := ok_bind H
  have H := ok_some H
  subst H
  have eu9 := eqn_eq eu9
  rw [eu9]
  exact r_ret hZ hF dX1_init_37
def f_X1_addSets  (h : Hp) (a0 : Nat) (a1 : Int32) (a2 : Int32) (a3 : Int32) : Option (Hp) :=
  (gI h a0 1 8).bind fun x1 =>
  (pF h a0 1 8 (.int (x1 + a1))).bind fun h2 =>
  (gR h2 a0 1 7).bind fun x3 =>
  (aI h2 x3 a2).bind fun x4 =>
  (sI h2 x3 a2 (x4 + a1)).bind fun h5 =>
  ((if a3 = a2 then
    some h5
  else
    (gR h5 a0 1 7).bind fun x7 =>
    (aI h5 x7 a3).bind fun x8 =>
    (sI h5 x7 a3 (x8 + a1)).bind fun h9 =>
    some h9)).bind fun (j6 : Hp) =>
  some j6
set_option maxRecDepth 100000 in
set_option maxHeartbeats 4000000 in
theorem s_X1_addSets {n : Nat} {h : Hp} {a0 : Nat} {a1 : Int32} {a2 : Int32} {a3 : Int32}  {r : Hp} (hf : f_X1_addSets  h a0 a1 a2 a3 = some r) : Ev 2 yX1_addSets cX1_addSets 4 none [.ref a0, .int a1, .int a2, .int a3] n h none n r := by
  refine Ev_of RX1 rfl (by decide) (Nat.le_of_ble_eq_true rfl) (Nat.le_refl _) (Or.inl rfl) (fun Z hZ hF hN hI => ?_)
  have H : Ok (f_X1_addSets  h a0 a1 a2 a3) (fun y => y = r) := ⟨_, hf, rfl⟩
  unfold f_X1_addSets at H
  refine r_ls (ls' := [(0, .ref a0), (1, .int a1), (2, .int a2), (3, .int a3)]) rfl ?_
  refine r_aload_n hZ dX1_addSets_0 rfl ?_
  refine r_dup_a hZ dX1_addSets_1 ?_
  obtain ⟨x1, ex1, H⟩ := ok_bind H
  refine r_getI hZ fl_X1_55_1 dX1_addSets_2 ex1 ?_
  refine r_iload_n hZ dX1_addSets_5 rfl ?_
  refine r_iadd hZ dX1_addSets_6 ?_
  obtain ⟨h2, eh2, H⟩ := ok_bind H
  refine r_putf hZ fl_X1_55_1 dX1_addSets_7 eh2 rfl rfl ?_
  refine r_aload_n hZ dX1_addSets_10 rfl ?_
  obtain ⟨x3, ex3, H⟩ := ok_bind H
  refine r_getR hZ fl_X1_25_1 dX1_addSets_11 ex3 ?_
  refine r_iload_n hZ dX1_addSets_14 rfl ?_
  refine r_dup2_ia hZ dX1_addSets_15 ?_
  obtain ⟨x4, ex4, H⟩ := ok_bind H
  refine r_aI hZ dX1_addSets_16 ex4 ?_
  refine r_iload_n hZ dX1_addSets_17 rfl ?_
  refine r_iadd hZ dX1_addSets_18 ?_
  obtain ⟨h5, eh5, H⟩ := ok_bind H
  refine r_sI hZ dX1_addSets_19 eh5 ?_
  refine r_iload_n hZ dX1_addSets_20 rfl ?_
  refine r_iload_n hZ dX1_addSets_21 rfl ?_
  refine ok_join (Q := fun j6 : Hp => R Z 35 [] [] n j6 0) H (fun j6 H => ?_) (fun H => ?_)
  · have H := ok_some H
    subst H
    exact r_ret hZ hF dX1_addSets_35
  · refine r_icmp_eq (tgt := 35) hZ dX1_addSets_22 (by decide) (fun c10 => ?_) (fun c10 => ?_)
    · have H := ok_t H c10
      have H := ok_some H
      exact r_pick [] (ls' := []) rfl H
    · have H := ok_f H c10
      refine r_aload_n hZ dX1_addSets_25 rfl ?_
      obtain ⟨x7, ex7, H⟩ := ok_bind H
      refine r_getR hZ fl_X1_25_1 dX1_addSets_26 ex7 ?_
      refine r_iload_n hZ dX1_addSets_29 rfl ?_
      refine r_dup2_ia hZ dX1_addSets_30 ?_
      obtain ⟨x8, ex8, H⟩ := ok_bind H
      refine r_aI hZ dX1_addSets_31 ex8 ?_
      refine r_iload_n hZ dX1_addSets_32 rfl ?_
      refine r_iadd hZ dX1_addSets_33 ?_
      obtain ⟨h9, eh9, H⟩ := ok_bind H
      refine r_sI hZ dX1_addSets_34 eh9 ?_
      have H := ok_some H
      exact r_pick [] (ls' := []) rfl H
def f_X1_isInside  (h : Hp) (a0 : Nat) (a1 : Int64) : Option (Int32) :=
  (gL h a0 1 3).bind fun x1 =>
  ((if (lg_cmp (a1 &&& (x1 ^^^ (K (-1)))) (K 0)) = 0 then
    some (J 1)
  else
    some (J 0))).bind fun (j2 : Int32) =>
  (bz j2).bind fun u4 =>
  some j2
set_option maxRecDepth 100000 in
set_option maxHeartbeats 4000000 in
theorem s_X1_isInside {n : Nat} {h : Hp} {a0 : Nat} {a1 : Int64}  {r : Int32} (hf : f_X1_isInside  h a0 a1 = some r) : Ev 2 yX1_isInside cX1_isInside 3 (some .boolean) [.ref a0, .long a1] n h (some (.int r)) n h := by
  refine Ev_of RX1 rfl (by decide) (Nat.le_of_ble_eq_true rfl) (Nat.le_refl _) (Or.inl rfl) (fun Z hZ hF hN hI => ?_)
  have H : Ok (f_X1_isInside  h a0 a1) (fun y => y = r) := ⟨_, hf, rfl⟩
  unfold f_X1_isInside at H
  refine r_ls (ls' := [(0, .ref a0), (1, .long a1)]) rfl ?_
  refine r_lload_n hZ dX1_isInside_0 rfl ?_
  refine r_aload_n hZ dX1_isInside_1 rfl ?_
  obtain ⟨x1, ex1, H⟩ := ok_bind H
  refine r_getL hZ fl_X1_51_1 dX1_isInside_2 ex1 ?_
  refine r_ldc2 (v := (K (-1))) hZ wc_X1_87 dX1_isInside_5 ?_
  refine r_lxor hZ dX1_isInside_8 ?_
  refine r_land hZ dX1_isInside_9 ?_
  refine r_lconst (v := (K 0)) hZ dX1_isInside_10 (by decide) ?_
  refine r_lcmp hZ dX1_isInside_11 ?_
  refine ok_join (Q := fun j2 : Int32 => R Z 20 [] [.int j2] n h 0) H (fun j2 H => ?_) (fun H => ?_)
  · obtain ⟨u4, eu4, H⟩ := ok_bind H
    have H := ok_some H
    subst H
    exact r_zret hZ hF eu4 dX1_isInside_20
  · refine r_if_ne (tgt := 19) hZ dX1_isInside_12 (by decide) (fun c3 => ?_) (fun c3 => ?_)
    · have H := ok_f H c3
      refine r_iconst (v := (J 0)) hZ dX1_isInside_19 (by decide) ?_
      have H := ok_some H
      exact r_pick [] (ls' := []) rfl H
    · have H := ok_t H c3
      refine r_iconst (v := (J 1)) hZ dX1_isInside_15 (by decide) ?_
      refine r_goto (tgt := 20) hZ dX1_isInside_16 (by decide) ?_
      have H := ok_some H
      exact r_pick [] (ls' := []) rfl H
def b_X1_soundAt_22 (h : Hp) (p0 : Nat) (p3 : Int32) (s : Int64 × Int32) : Option ((Int64 × Int32) ⊕ ((Int64))) :=
  (gI h p0 1 2).bind fun x1 =>
  (if x1 ≤ s.2 then
    some (.inr (s.1))
  else
    (some (s.1 ||| ((K 1) <<< (s.2.toInt64 &&& 63)))).bind fun x2 =>
    (some (s.2 + p3)).bind fun x3 =>
    some (.inl (x2, x3)))
set_option maxRecDepth 100000 in
set_option maxHeartbeats 4000000 in
theorem l_X1_soundAt_22 {Z : Zc} (hZ : Fx cX1_soundAt RX1 7 2 0 Z) {n : Nat} {h : Hp} {p0 : Nat} {p3 : Int32} {P : ((Int64)) → Prop} (hx0 : ∀ e : Int64, P (e) → R Z 49 [(4, .long e)] [] n h 0) : ∀ (m : Nat) (s : Int64 × Int32), Ok (iter (b_X1_soundAt_22 h p0 p3) m s) P → R Z 22 [(0, .ref p0), (3, .int p3), (4, .long s.1), (6, .int s.2)] [] n h 0 := by
  intro m
  induction m with
  | zero => exact fun s H => ok_iter0 H
  | succ m ih =>
    intro s H
    have H := ok_iter H
    unfold b_X1_soundAt_22 at H
    refine r_iload hZ dX1_soundAt_22 rfl ?_
    refine r_aload_n hZ dX1_soundAt_24 rfl ?_
    obtain ⟨x1, ex1, H⟩ := ok_bind H
    refine r_getI hZ fl_X1_74_1 dX1_soundAt_25 ex1 ?_
    refine r_icmp_ge (tgt := 49) hZ dX1_soundAt_28 (by decide) (fun c4 => ?_) (fun c4 => ?_)
    · have H := ok_t H c4
      exact r_pick [4] (ls' := [(4, .long s.1)]) rfl (hx0 _ (ki_r H))
    · have H := ok_f H c4
      refine r_lload hZ dX1_soundAt_31 rfl ?_
      refine r_lconst (v := (K 1)) hZ dX1_soundAt_33 (by decide) ?_
      refine r_iload hZ dX1_soundAt_34 rfl ?_
      refine r_lshl hZ dX1_soundAt_36 ?_
      refine r_lor hZ dX1_soundAt_37 ?_
      obtain ⟨x2, ex2, H⟩ := ok_bind H
      refine r_topl ex2 ?_
      refine r_lstore hZ dX1_soundAt_38 (by decide) (r_pick [0, 3, 4, 6] (ls' := [(0, .ref p0), (3, .int p3), (4, .long x2), (6, .int s.2)]) rfl ?_)
      refine r_iload hZ dX1_soundAt_40 rfl ?_
      refine r_iload_n hZ dX1_soundAt_42 rfl ?_
      refine r_iadd hZ dX1_soundAt_43 ?_
      obtain ⟨x3, ex3, H⟩ := ok_bind H
      refine r_topi ex3 ?_
      refine r_istore hZ dX1_soundAt_44 (by decide) (r_pick [0, 3, 4, 6] (ls' := [(0, .ref p0), (3, .int p3), (4, .long x2), (6, .int x3)]) rfl ?_)
      refine r_goto (tgt := 22) hZ dX1_soundAt_46 (by decide) ?_
      exact r_pick [0, 3, 4, 6] (ls' := [(0, .ref p0), (3, .int p3), (4, .long x2), (6, .int x3)]) rfl (ih _ (ki_l H))
def f_X1_soundAt  (h : Hp) (a0 : Nat) (a1 : Int32) (a2 : Int32) : Option (Int64) :=
  (gR h a0 1 0).bind fun x1 =>
  (aR h x1 3 a1).bind fun x2 =>
  (gI h x2 0 2).bind fun x3 =>
  (some (if x3 < (J 1) then (J 1) else x3)).bind fun x4 =>
  (some (K 0)).bind fun x5 =>
  (nz x4).bind fun u6 =>
  (some (a2 - a2 / x4 * x4)).bind fun x7 =>
  (iter (b_X1_soundAt_22 h a0 x4) FU (x5, x7)).bind fun e8 =>
  some e8
set_option maxRecDepth 100000 in
set_option maxHeartbeats 4000000 in
theorem s_X1_soundAt {n : Nat} {h : Hp} {a0 : Nat} {a1 : Int32} {a2 : Int32}  {r : Int64} (hf : f_X1_soundAt  h a0 a1 a2 = some r) : Ev 2 yX1_soundAt cX1_soundAt 7 (some .long) [.ref a0, .int a1, .int a2] n h (some (.long r)) n h := by
  refine Ev_of RX1 rfl (by decide) (Nat.le_of_ble_eq_true rfl) (Nat.le_refl _) (Or.inl rfl) (fun Z hZ hF hN hI => ?_)
  have H : Ok (f_X1_soundAt  h a0 a1 a2) (fun y => y = r) := ⟨_, hf, rfl⟩
  unfold f_X1_soundAt at H
  refine r_ls (ls' := [(0, .ref a0), (1, .int a1), (2, .int a2)]) rfl ?_
  refine r_aload_n hZ dX1_soundAt_0 rfl ?_
  obtain ⟨x1, ex1, H⟩ := ok_bind H
  refine r_getR hZ fl_X1_11_1 dX1_soundAt_1 ex1 ?_
  refine r_iload_n hZ dX1_soundAt_4 rfl ?_
  obtain ⟨x2, ex2, H⟩ := ok_bind H
  refine r_aR hZ dX1_soundAt_5 ex2 (fun _ => rfl) (Or.inl ⟨_, rfl⟩) ?_
  obtain ⟨x3, ex3, H⟩ := ok_bind H
  refine r_getI hZ fl_X1_81_0 dX1_soundAt_6 ex3 ?_
  refine r_iconst (v := (J 1)) hZ dX1_soundAt_9 (by decide) ?_
  refine r_max hZ dX1_soundAt_10 wM_X1_84 (by decide) (Nat.le_of_ble_eq_true rfl) (Nat.le_refl 0) ?_
  obtain ⟨x4, ex4, H⟩ := ok_bind H
  refine r_topi ex4 ?_
  refine r_istore_n hZ dX1_soundAt_13 (by decide) (r_pick [0, 2, 3] (ls' := [(0, .ref a0), (2, .int a2), (3, .int x4)]) rfl ?_)
  refine r_lconst (v := (K 0)) hZ dX1_soundAt_14 (by decide) ?_
  obtain ⟨x5, ex5, H⟩ := ok_bind H
  refine r_topl ex5 ?_
  refine r_lstore hZ dX1_soundAt_15 (by decide) (r_pick [0, 2, 3, 4] (ls' := [(0, .ref a0), (2, .int a2), (3, .int x4), (4, .long x5)]) rfl ?_)
  refine r_iload_n hZ dX1_soundAt_17 rfl ?_
  refine r_iload_n hZ dX1_soundAt_18 rfl ?_
  obtain ⟨u6, eu6, H⟩ := ok_bind H
  refine r_irem hZ dX1_soundAt_19 (nz_ne eu6) ?_
  obtain ⟨x7, ex7, H⟩ := ok_bind H
  refine r_topi ex7 ?_
  refine r_istore hZ dX1_soundAt_20 (by decide) (r_pick [0, 3, 4, 6] (ls' := [(0, .ref a0), (3, .int x4), (4, .long x5), (6, .int x7)]) rfl ?_)
  have H := ok_bindK H
  refine r_pick [0, 3, 4, 6] (ls' := [(0, .ref a0), (3, .int x4), (4, .long x5), (6, .int x7)]) rfl (l_X1_soundAt_22 hZ (fun e8 H => ?_) FU _ H)
  · refine r_lload hZ dX1_soundAt_49 rfl ?_
    have H := ok_some H
    subst H
    exact r_lret hZ hF dX1_soundAt_51
def b_X1_countInside_24 (h : Hp) (p0 : Nat) (p1 : Int32) (p2 : Int32) (s : Int32 × Int32) : Option ((Int32 × Int32) ⊕ ((Int32))) :=
  (gI h p0 1 2).bind fun x1 =>
  (if (if x1 < p2 then x1 else p2) ≤ s.2 then
    some (.inr (s.1))
  else
    (isO h p0 1).bind fun u2 =>
    (f_X1_soundAt h p0 p1 s.2).bind fun r3 =>
    (isO h p0 1).bind fun u4 =>
    (f_X1_isInside h p0 r3).bind fun r5 =>
    ((if r5 = 0 then
      some (J 0)
    else
      some (J 1))).bind fun (j6 : Int32) =>
    (some (s.1 + j6)).bind fun x8 =>
    (some (s.2 + (J 1))).bind fun x9 =>
    some (.inl (x8, x9)))
set_option maxRecDepth 100000 in
set_option maxHeartbeats 4000000 in
theorem l_X1_countInside_24 {Z : Zc} (hZ : Fx cX1_countInside RX1 5 3 0 Z) {n : Nat} {h : Hp} {p0 : Nat} {p1 : Int32} {p2 : Int32} {P : ((Int32)) → Prop} (hx0 : ∀ e : Int32, P (e) → R Z 65 [(3, .int e)] [] n h 0) : ∀ (m : Nat) (s : Int32 × Int32), Ok (iter (b_X1_countInside_24 h p0 p1 p2) m s) P → R Z 24 [(0, .ref p0), (1, .int p1), (2, .int p2), (3, .int s.1), (4, .int s.2)] [] n h 0 := by
  intro m
  induction m with
  | zero => exact fun s H => ok_iter0 H
  | succ m ih =>
    intro s H
    have H := ok_iter H
    unfold b_X1_countInside_24 at H
    refine r_iload hZ dX1_countInside_24 rfl ?_
    refine r_iload_n hZ dX1_countInside_26 rfl ?_
    refine r_aload_n hZ dX1_countInside_27 rfl ?_
    obtain ⟨x1, ex1, H⟩ := ok_bind H
    refine r_getI hZ fl_X1_74_1 dX1_countInside_28 ex1 ?_
    refine r_min hZ dX1_countInside_31 wM_X1_69 (by decide) (Nat.le_of_ble_eq_true rfl) (Nat.le_refl 0) ?_
    refine r_icmp_ge (tgt := 65) hZ dX1_countInside_34 (by decide) (fun c10 => ?_) (fun c10 => ?_)
    · have H := ok_t H c10
      exact r_pick [3] (ls' := [(3, .int s.1)]) rfl (hx0 _ (ki_r H))
    · have H := ok_f H c10
      refine r_iload_n hZ dX1_countInside_37 rfl ?_
      refine r_aload_n hZ dX1_countInside_38 rfl ?_
      refine r_aload_n hZ dX1_countInside_39 rfl ?_
      refine r_iload_n hZ dX1_countInside_40 rfl ?_
      refine r_iload hZ dX1_countInside_41 rfl ?_
      obtain ⟨u2, eu2, H⟩ := ok_bind H
      obtain ⟨r3, er3, H⟩ := ok_bind H
      refine r_callV (As := [.int p1, .int s.2]) (rest := [.ref p0, .int s.1]) (st1 := [.long r3, .ref p0, .int s.1]) (N2 := 0) hZ dX1_countInside_43 cw_X1_43_X1 rfl eu2 (s_X1_soundAt er3) rfl rfl (by decide) (Nat.le_of_ble_eq_true rfl) (Nat.le_refl 0) (Nat.le_refl _) (Or.inl rfl) rfl ?_
      obtain ⟨u4, eu4, H⟩ := ok_bind H
      obtain ⟨r5, er5, H⟩ := ok_bind H
      refine r_callV (As := [.long r3]) (rest := [.int s.1]) (st1 := [.int r5, .int s.1]) (N2 := 0) hZ dX1_countInside_46 cw_X1_89_X1 rfl eu4 (s_X1_isInside er5) rfl rfl (by decide) (Nat.le_of_ble_eq_true rfl) (Nat.le_refl 0) (Nat.le_refl _) (Or.inl rfl) rfl ?_
      refine ok_join (Q := fun j6 : Int32 => R Z 57 [(0, .ref p0), (1, .int p1), (2, .int p2), (4, .int s.2)] [.int j6, .int s.1] n h 0) H (fun j6 H => ?_) (fun H => ?_)
      · refine r_iadd hZ dX1_countInside_57 ?_
        obtain ⟨x8, ex8, H⟩ := ok_bind H
        refine r_topi ex8 ?_
        refine r_istore_n hZ dX1_countInside_58 (by decide) (r_pick [0, 1, 2, 3, 4] (ls' := [(0, .ref p0), (1, .int p1), (2, .int p2), (3, .int x8), (4, .int s.2)]) rfl ?_)
        obtain ⟨x9, ex9, H⟩ := ok_bind H
        refine r_iincE (w := (J 1)) hZ dX1_countInside_59 (by decide) rfl (by decide) ex9 (r_pick [0, 1, 2, 3, 4] (ls' := [(0, .ref p0), (1, .int p1), (2, .int p2), (3, .int x8), (4, .int x9)]) rfl ?_)
        refine r_goto (tgt := 24) hZ dX1_countInside_62 (by decide) ?_
        exact r_pick [0, 1, 2, 3, 4] (ls' := [(0, .ref p0), (1, .int p1), (2, .int p2), (3, .int x8), (4, .int x9)]) rfl (ih _ (ki_l H))
      · refine r_if_eq (tgt := 56) hZ dX1_countInside_49 (by decide) (fun c7 => ?_) (fun c7 => ?_)
        · have H := ok_t H c7
          refine r_iconst (v := (J 0)) hZ dX1_countInside_56 (by decide) ?_
          have H := ok_some H
          exact r_pick [0, 1, 2, 4] (ls' := [(0, .ref p0), (1, .int p1), (2, .int p2), (4, .int s.2)]) rfl H
        · have H := ok_f H c7
          refine r_iconst (v := (J 1)) hZ dX1_countInside_52 (by decide) ?_
          refine r_goto (tgt := 57) hZ dX1_countInside_53 (by decide) ?_
          have H := ok_some H
          exact r_pick [0, 1, 2, 4] (ls' := [(0, .ref p0), (1, .int p1), (2, .int p2), (4, .int s.2)]) rfl H
def f_X1_countInside  (h : Hp) (a0 : Nat) (a1 : Int32) : Option (Int32) :=
  (gR h a0 1 0).bind fun x1 =>
  (aR h x1 3 a1).bind fun x2 =>
  (gI h x2 0 2).bind fun x3 =>
  (gI h a0 1 2).bind fun x4 =>
  (some (if (x3 - x4) < (J 0) then (J 0) else (x3 - x4))).bind fun x5 =>
  (some (J 0)).bind fun x6 =>
  (iter (b_X1_countInside_24 h a0 a1 x3) FU (x5, x6)).bind fun e7 =>
  some e7
set_option maxRecDepth 100000 in
set_option maxHeartbeats 4000000 in
theorem s_X1_countInside {n : Nat} {h : Hp} {a0 : Nat} {a1 : Int32}  {r : Int32} (hf : f_X1_countInside  h a0 a1 = some r) : Ev 3 yX1_countInside cX1_countInside 5 (some .int) [.ref a0, .int a1] n h (some (.int r)) n h := by
  refine Ev_of RX1 rfl (by decide) (Nat.le_of_ble_eq_true rfl) (Nat.le_refl _) (Or.inl rfl) (fun Z hZ hF hN hI => ?_)
  have H : Ok (f_X1_countInside  h a0 a1) (fun y => y = r) := ⟨_, hf, rfl⟩
  unfold f_X1_countInside at H
  refine r_ls (ls' := [(0, .ref a0), (1, .int a1)]) rfl ?_
  refine r_aload_n hZ dX1_countInside_0 rfl ?_
  obtain ⟨x1, ex1, H⟩ := ok_bind H
  refine r_getR hZ fl_X1_11_1 dX1_countInside_1 ex1 ?_
  refine r_iload_n hZ dX1_countInside_4 rfl ?_
  obtain ⟨x2, ex2, H⟩ := ok_bind H
  refine r_aR hZ dX1_countInside_5 ex2 (fun _ => rfl) (Or.inl ⟨_, rfl⟩) ?_
  obtain ⟨x3, ex3, H⟩ := ok_bind H
  refine r_getI hZ fl_X1_81_0 dX1_countInside_6 ex3 ?_
  refine r_istore_n hZ dX1_countInside_9 (by decide) (r_pick [0, 1, 2] (ls' := [(0, .ref a0), (1, .int a1), (2, .int x3)]) rfl ?_)
  refine r_iload_n hZ dX1_countInside_10 rfl ?_
  refine r_aload_n hZ dX1_countInside_11 rfl ?_
  obtain ⟨x4, ex4, H⟩ := ok_bind H
  refine r_getI hZ fl_X1_74_1 dX1_countInside_12 ex4 ?_
  refine r_isub hZ dX1_countInside_15 ?_
  refine r_iconst (v := (J 0)) hZ dX1_countInside_16 (by decide) ?_
  refine r_max hZ dX1_countInside_17 wM_X1_84 (by decide) (Nat.le_of_ble_eq_true rfl) (Nat.le_refl 0) ?_
  obtain ⟨x5, ex5, H⟩ := ok_bind H
  refine r_topi ex5 ?_
  refine r_istore_n hZ dX1_countInside_20 (by decide) (r_pick [0, 1, 2, 3] (ls' := [(0, .ref a0), (1, .int a1), (2, .int x3), (3, .int x5)]) rfl ?_)
  refine r_iconst (v := (J 0)) hZ dX1_countInside_21 (by decide) ?_
  obtain ⟨x6, ex6, H⟩ := ok_bind H
  refine r_topi ex6 ?_
  refine r_istore hZ dX1_countInside_22 (by decide) (r_pick [0, 1, 2, 3, 4] (ls' := [(0, .ref a0), (1, .int a1), (2, .int x3), (3, .int x5), (4, .int x6)]) rfl ?_)
  have H := ok_bindK H
  refine r_pick [0, 1, 2, 3, 4] (ls' := [(0, .ref a0), (1, .int a1), (2, .int x3), (3, .int x5), (4, .int x6)]) rfl (l_X1_countInside_24 hZ (fun e7 H => ?_) FU _ H)
  · refine r_iload_n hZ dX1_countInside_65 rfl ?_
    have H := ok_some H
    subst H
    exact r_iret hZ hF dX1_countInside_66
def b_X1_firstTick_2 (p0 : Int64) (s : Int32) : Option ((Int32) ⊕ ((Unit) ⊕ (Int32))) :=
  (if (J 60) ≤ s then
    some (.inr (.inl ()))
  else
    (if (lg_cmp ((p0 >>> (s.toInt64 &&& 63)) &&& (K 1)) (K 0)) = 0 then
      (some (s + (J 1))).bind fun x1 =>
      some (.inl x1)
    else
      some (.inr (.inr s))))
set_option maxRecDepth 100000 in
set_option maxHeartbeats 4000000 in
theorem l_X1_firstTick_2 {Z : Zc} (hZ : Fx cX1_firstTick RX1 3 2 0 Z) {n : Nat} {h : Hp} {p0 : Int64} {P : ((Unit) ⊕ (Int32)) → Prop} (hx0 : ∀ e : Unit, P (.inl e) → R Z 26 [] [] n h 0) (hx1 : ∀ e : Int32, P (.inr e) → R Z 18 [(2, .int e)] [] n h 0) : ∀ (m : Nat) (s : Int32), Ok (iter (b_X1_firstTick_2 p0) m s) P → R Z 2 [(0, .long p0), (2, .int s)] [] n h 0 := by
  intro m
  induction m with
  | zero => exact fun s H => ok_iter0 H
  | succ m ih =>
    intro s H
    have H := ok_iter H
    unfold b_X1_firstTick_2 at H
    refine r_iload_n hZ dX1_firstTick_2 rfl ?_
    refine r_bipush (v := (J 60)) hZ dX1_firstTick_3 (by decide) ?_
    refine r_icmp_ge (tgt := 26) hZ dX1_firstTick_5 (by decide) (fun c3 => ?_) (fun c3 => ?_)
    · have H := ok_t H c3
      exact r_pick [] (ls' := []) rfl (hx0 _ (ki_r H))
    · have H := ok_f H c3
      refine r_lload_n hZ dX1_firstTick_8 rfl ?_
      refine r_iload_n hZ dX1_firstTick_9 rfl ?_
      refine r_lshr hZ dX1_firstTick_10 ?_
      refine r_lconst (v := (K 1)) hZ dX1_firstTick_11 (by decide) ?_
      refine r_land hZ dX1_firstTick_12 ?_
      refine r_lconst (v := (K 0)) hZ dX1_firstTick_13 (by decide) ?_
      refine r_lcmp hZ dX1_firstTick_14 ?_
      refine r_if_eq (tgt := 20) hZ dX1_firstTick_15 (by decide) (fun c2 => ?_) (fun c2 => ?_)
      · have H := ok_t H c2
        obtain ⟨x1, ex1, H⟩ := ok_bind H
        refine r_iincE (w := (J 1)) hZ dX1_firstTick_20 (by decide) rfl (by decide) ex1 (r_pick [0, 2] (ls' := [(0, .long p0), (2, .int x1)]) rfl ?_)
        refine r_goto (tgt := 2) hZ dX1_firstTick_23 (by decide) ?_
        exact r_pick [0, 2] (ls' := [(0, .long p0), (2, .int x1)]) rfl (ih _ (ki_l H))
      · have H := ok_f H c2
        exact r_pick [2] (ls' := [(2, .int s)]) rfl (hx1 _ (ki_r H))
def f_X1_firstTick  (a0 : Int64) : Option (Int32) :=
  (some (J 0)).bind fun x1 =>
  (iter (b_X1_firstTick_2 a0) FU x1).bind fun e2 =>
  (match e2 with
  | .inl e3 =>
    some (J 0)
  | .inr e4 =>
    some e4)
set_option maxRecDepth 100000 in
set_option maxHeartbeats 4000000 in
theorem s_X1_firstTick {n : Nat} {h : Hp} {a0 : Int64}  {r : Int32} (hf : f_X1_firstTick  a0 = some r) : Ev 2 yX1_firstTick cX1_firstTick 3 (some .int) [.long a0] n h (some (.int r)) n h := by
  refine Ev_of RX1 rfl (by decide) (Nat.le_of_ble_eq_true rfl) (Nat.le_refl _) (Or.inl rfl) (fun Z hZ hF hN hI => ?_)
  have H : Ok (f_X1_firstTick  a0) (fun y => y = r) := ⟨_, hf, rfl⟩
  unfold f_X1_firstTick at H
  refine r_ls (ls' := [(0, .long a0)]) rfl ?_
  refine r_iconst (v := (J 0)) hZ dX1_firstTick_0 (by decide) ?_
  obtain ⟨x1, ex1, H⟩ := ok_bind H
  refine r_topi ex1 ?_
  refine r_istore_n hZ dX1_firstTick_1 (by decide) (r_pick [0, 2] (ls' := [(0, .long a0), (2, .int x1)]) rfl ?_)
  have H := ok_bindK H
  refine r_pick [0, 2] (ls' := [(0, .long a0), (2, .int x1)]) rfl (l_X1_firstTick_2 hZ (fun e3 H => ?_) (fun e4 H => ?_) FU _ H)
  · refine r_iconst (v := (J 0)) hZ dX1_firstTick_26 (by decide) ?_
    have H := ok_some H
    subst H
    exact r_iret hZ hF dX1_firstTick_27
  · refine r_iload_n hZ dX1_firstTick_18 rfl ?_
    have H := ok_some H
    subst H
    exact r_iret hZ hF dX1_firstTick_19
def f_X1_countBeside  (h : Hp) (a0 : Nat) (a1 : Int32) (a2 : Int32) : Option (Int32) :=
  (gR h a0 1 5).bind fun x1 =>
  (aL h x1 a1).bind fun x2 =>
  (isO h a0 1).bind fun u3 =>
  (f_X1_isInside h a0 x2).bind fun r4 =>
  (if r4 = 0 then
    some (J 0)
  else
    (gL h a0 1 3).bind fun x5 =>
    (gR h a0 1 5).bind fun x6 =>
    (aL h x6 a1).bind fun x7 =>
    (some (x5 &&& (x7 ^^^ (K (-1))))).bind fun x8 =>
    (if (lg_cmp x8 (K 0)) = 0 then
      (gR h a0 1 6).bind fun x22 =>
      (aI h x22 a2).bind fun x23 =>
      (gR h a0 1 5).bind fun x24 =>
      (aL h x24 a2).bind fun x25 =>
      (isO h a0 1).bind fun u26 =>
      (f_X1_isInside h a0 x25).bind fun r27 =>
      ((if r27 = 0 then
        some (J 0)
      else
        some (J 1))).bind fun (j28 : Int32) =>
      some (x23 - j28)
    else
      (f_X1_firstTick x8).bind fun r9 =>
      (isO h a0 1).bind fun u10 =>
      (f_X1_soundAt h a0 a2 r9).bind fun r11 =>
      (gR h a0 1 5).bind fun x12 =>
      (aL h x12 a2).bind fun x13 =>
      ((if (lg_cmp r11 x13) = 0 then
        some (J 0)
      else
        (gR h a0 1 5).bind fun x15 =>
        (aL h x15 a1).bind fun x16 =>
        (gL h a0 1 3).bind fun x17 =>
        (if (lg_cmp (r11 ||| x16) x17) = 0 then
          some (J 1)
        else
          some (J 0)))).bind fun (j14 : Int32) =>
      ((if j14 = 0 then
        some (J 0)
      else
        some (J 1))).bind fun (j20 : Int32) =>
      some j20))
set_option maxRecDepth 100000 in
set_option maxHeartbeats 4000000 in
theorem s_X1_countBeside {n : Nat} {h : Hp} {a0 : Nat} {a1 : Int32} {a2 : Int32}  {r : Int32} (hf : f_X1_countBeside  h a0 a1 a2 = some r) : Ev 3 yX1_countBeside cX1_countBeside 8 (some .int) [.ref a0, .int a1, .int a2] n h (some (.int r)) n h := by
  refine Ev_of RX1 rfl (by decide) (Nat.le_of_ble_eq_true rfl) (Nat.le_refl _) (Or.inl rfl) (fun Z hZ hF hN hI => ?_)
  have H : Ok (f_X1_countBeside  h a0 a1 a2) (fun y => y = r) := ⟨_, hf, rfl⟩
  unfold f_X1_countBeside at H
  refine r_ls (ls' := [(0, .ref a0), (1, .int a1), (2, .int a2)]) rfl ?_
  refine r_aload_n hZ dX1_countBeside_0 rfl ?_
  refine r_aload_n hZ dX1_countBeside_1 rfl ?_
  obtain ⟨x1, ex1, H⟩ := ok_bind H
  refine r_getR hZ fl_X1_17_1 dX1_countBeside_2 ex1 ?_
  refine r_iload_n hZ dX1_countBeside_5 rfl ?_
  obtain ⟨x2, ex2, H⟩ := ok_bind H
  refine r_aL hZ dX1_countBeside_6 ex2 ?_
  obtain ⟨u3, eu3, H⟩ := ok_bind H
  obtain ⟨r4, er4, H⟩ := ok_bind H
  refine r_callV (As := [.long x2]) (rest := []) (st1 := [.int r4]) (N2 := 0) hZ dX1_countBeside_7 cw_X1_89_X1 rfl eu3 (s_X1_isInside er4) rfl rfl (by decide) (Nat.le_of_ble_eq_true rfl) (Nat.le_refl 0) (Nat.le_refl _) (Or.inl rfl) rfl ?_
  refine r_if_ne (tgt := 15) hZ dX1_countBeside_10 (by decide) (fun c31 => ?_) (fun c31 => ?_)
  · have H := ok_f H c31
    refine r_aload_n hZ dX1_countBeside_15 rfl ?_
    obtain ⟨x5, ex5, H⟩ := ok_bind H
    refine r_getL hZ fl_X1_51_1 dX1_countBeside_16 ex5 ?_
    refine r_aload_n hZ dX1_countBeside_19 rfl ?_
    obtain ⟨x6, ex6, H⟩ := ok_bind H
    refine r_getR hZ fl_X1_17_1 dX1_countBeside_20 ex6 ?_
    refine r_iload_n hZ dX1_countBeside_23 rfl ?_
    obtain ⟨x7, ex7, H⟩ := ok_bind H
    refine r_aL hZ dX1_countBeside_24 ex7 ?_
    refine r_ldc2 (v := (K (-1))) hZ wc_X1_87 dX1_countBeside_25 ?_
    refine r_lxor hZ dX1_countBeside_28 ?_
    refine r_land hZ dX1_countBeside_29 ?_
    obtain ⟨x8, ex8, H⟩ := ok_bind H
    refine r_topl ex8 ?_
    refine r_lstore_n hZ dX1_countBeside_30 (by decide) (r_pick [0, 1, 2, 3] (ls' := [(0, .ref a0), (1, .int a1), (2, .int a2), (3, .long x8)]) rfl ?_)
    refine r_lload_n hZ dX1_countBeside_31 rfl ?_
    refine r_lconst (v := (K 0)) hZ dX1_countBeside_32 (by decide) ?_
    refine r_lcmp hZ dX1_countBeside_33 ?_
    refine r_if_ne (tgt := 63) hZ dX1_countBeside_34 (by decide) (fun c30 => ?_) (fun c30 => ?_)
    · have H := ok_f H c30
      refine r_aload_n hZ dX1_countBeside_63 rfl ?_
      refine r_iload_n hZ dX1_countBeside_64 rfl ?_
      refine r_lload_n hZ dX1_countBeside_65 rfl ?_
      obtain ⟨r9, er9, H⟩ := ok_bind H
      refine r_callS (As := [.long x8]) (rest := [.int a2, .ref a0]) (st1 := [.int r9, .int a2, .ref a0]) (N2 := 0) hZ dX1_countBeside_66 cw_X1_77 (s_X1_firstTick er9) rfl rfl (by decide) (Nat.le_of_ble_eq_true rfl) (Nat.le_refl 0) (Nat.le_refl _) (Or.inl rfl) rfl ?_
      obtain ⟨u10, eu10, H⟩ := ok_bind H
      obtain ⟨r11, er11, H⟩ := ok_bind H
      refine r_callV (As := [.int a2, .int r9]) (rest := []) (st1 := [.long r11]) (N2 := 0) hZ dX1_countBeside_69 cw_X1_43_X1 rfl eu10 (s_X1_soundAt er11) rfl rfl (by decide) (Nat.le_of_ble_eq_true rfl) (Nat.le_refl 0) (Nat.le_refl _) (Or.inl rfl) rfl ?_
      refine r_lstore hZ dX1_countBeside_72 (by decide) (r_pick [0, 1, 2, 5] (ls' := [(0, .ref a0), (1, .int a1), (2, .int a2), (5, .long r11)]) rfl ?_)
      refine r_lload hZ dX1_countBeside_74 rfl ?_
      refine r_aload_n hZ dX1_countBeside_76 rfl ?_
      obtain ⟨x12, ex12, H⟩ := ok_bind H
      refine r_getR hZ fl_X1_17_1 dX1_countBeside_77 ex12 ?_
      refine r_iload_n hZ dX1_countBeside_80 rfl ?_
      obtain ⟨x13, ex13, H⟩ := ok_bind H
      refine r_aL hZ dX1_countBeside_81 ex13 ?_
      refine r_lcmp hZ dX1_countBeside_82 ?_
      refine ok_join (Q := fun j14 : Int32 => R Z 108 [] [.int j14] n h 0) H (fun j14 H => ?_) (fun H => ?_)
      · refine r_istore hZ dX1_countBeside_108 (by decide) (r_pick [7] (ls' := [(7, .int j14)]) rfl ?_)
        refine r_iload hZ dX1_countBeside_110 rfl ?_
        refine ok_join (Q := fun j20 : Int32 => R Z 120 [] [.int j20] n h 0) H (fun j20 H => ?_) (fun H => ?_)
        · have H := ok_some H
          subst H
          exact r_iret hZ hF dX1_countBeside_120
        · refine r_if_eq (tgt := 119) hZ dX1_countBeside_112 (by decide) (fun c21 => ?_) (fun c21 => ?_)
          · have H := ok_t H c21
            refine r_iconst (v := (J 0)) hZ dX1_countBeside_119 (by decide) ?_
            have H := ok_some H
            exact r_pick [] (ls' := []) rfl H
          · have H := ok_f H c21
            refine r_iconst (v := (J 1)) hZ dX1_countBeside_115 (by decide) ?_
            refine r_goto (tgt := 120) hZ dX1_countBeside_116 (by decide) ?_
            have H := ok_some H
            exact r_pick [] (ls' := []) rfl H
      · refine r_if_eq (tgt := 107) hZ dX1_countBeside_83 (by decide) (fun c19 => ?_) (fun c19 => ?_)
        · have H := ok_t H c19
          refine r_iconst (v := (J 0)) hZ dX1_countBeside_107 (by decide) ?_
          have H := ok_some H
          exact r_pick [] (ls' := []) rfl H
        · have H := ok_f H c19
          refine r_lload hZ dX1_countBeside_86 rfl ?_
          refine r_aload_n hZ dX1_countBeside_88 rfl ?_
          obtain ⟨x15, ex15, H⟩ := ok_bind H
          refine r_getR hZ fl_X1_17_1 dX1_countBeside_89 ex15 ?_
          refine r_iload_n hZ dX1_countBeside_92 rfl ?_
          obtain ⟨x16, ex16, H⟩ := ok_bind H
          refine r_aL hZ dX1_countBeside_93 ex16 ?_
          refine r_lor hZ dX1_countBeside_94 ?_
          refine r_aload_n hZ dX1_countBeside_95 rfl ?_
          obtain ⟨x17, ex17, H⟩ := ok_bind H
          refine r_getL hZ fl_X1_51_1 dX1_countBeside_96 ex17 ?_
          refine r_lcmp hZ dX1_countBeside_99 ?_
          refine r_if_ne (tgt := 107) hZ dX1_countBeside_100 (by decide) (fun c18 => ?_) (fun c18 => ?_)
          · have H := ok_f H c18
            refine r_iconst (v := (J 0)) hZ dX1_countBeside_107 (by decide) ?_
            have H := ok_some H
            exact r_pick [] (ls' := []) rfl H
          · have H := ok_t H c18
            refine r_iconst (v := (J 1)) hZ dX1_countBeside_103 (by decide) ?_
            refine r_goto (tgt := 108) hZ dX1_countBeside_104 (by decide) ?_
            have H := ok_some H
            exact r_pick [] (ls' := []) rfl H
    · have H := ok_t H c30
      refine r_aload_n hZ dX1_countBeside_37 rfl ?_
      obtain ⟨x22, ex22, H⟩ := ok_bind H
      refine r_getR hZ fl_X1_21_1 dX1_countBeside_38 ex22 ?_
      refine r_iload_n hZ dX1_countBeside_41 rfl ?_
      obtain ⟨x23, ex23, H⟩ := ok_bind H
      refine r_aI hZ dX1_countBeside_42 ex23 ?_
      refine r_aload_n hZ dX1_countBeside_43 rfl ?_
      refine r_aload_n hZ dX1_countBeside_44 rfl ?_
      obtain ⟨x24, ex24, H⟩ := ok_bind H
      refine r_getR hZ fl_X1_17_1 dX1_countBeside_45 ex24 ?_
      refine r_iload_n hZ dX1_countBeside_48 rfl ?_
      obtain ⟨x25, ex25, H⟩ := ok_bind H
      refine r_aL hZ dX1_countBeside_49 ex25 ?_
      obtain ⟨u26, eu26, H⟩ := ok_bind H
      obtain ⟨r27, er27, H⟩ := ok_bind H
      refine r_callV (As := [.long x25]) (rest := [.int x23]) (st1 := [.int r27, .int x23]) (N2 := 0) hZ dX1_countBeside_50 cw_X1_89_X1 rfl eu26 (s_X1_isInside er27) rfl rfl (by decide) (Nat.le_of_ble_eq_true rfl) (Nat.le_refl 0) (Nat.le_refl _) (Or.inl rfl) rfl ?_
      refine ok_join (Q := fun j28 : Int32 => R Z 61 [] [.int j28, .int x23] n h 0) H (fun j28 H => ?_) (fun H => ?_)
      · refine r_isub hZ dX1_countBeside_61 ?_
        have H := ok_some H
        subst H
        exact r_iret hZ hF dX1_countBeside_62
      · refine r_if_eq (tgt := 60) hZ dX1_countBeside_53 (by decide) (fun c29 => ?_) (fun c29 => ?_)
        · have H := ok_t H c29
          refine r_iconst (v := (J 0)) hZ dX1_countBeside_60 (by decide) ?_
          have H := ok_some H
          exact r_pick [] (ls' := []) rfl H
        · have H := ok_f H c29
          refine r_iconst (v := (J 1)) hZ dX1_countBeside_56 (by decide) ?_
          refine r_goto (tgt := 61) hZ dX1_countBeside_57 (by decide) ?_
          have H := ok_some H
          exact r_pick [] (ls' := []) rfl H
  · have H := ok_t H c31
    refine r_iconst (v := (J 0)) hZ dX1_countBeside_13 (by decide) ?_
    have H := ok_some H
    subst H
    exact r_iret hZ hF dX1_countBeside_14
def f_X1_countPairs  (h : Hp) (a0 : Nat) (a1 : Int32) (a2 : Int32) : Option (Int32) :=
  (gL h a0 1 3).bind fun x1 =>
  (if (lg_cmp x1 (K 0)) = 0 then
    (gR h a0 1 6).bind fun x13 =>
    (aI h x13 a1).bind fun x14 =>
    (gR h a0 1 6).bind fun x15 =>
    (aI h x15 a2).bind fun x16 =>
    some (x14 * x16)
  else
    (gR h a0 1 5).bind fun x2 =>
    (aL h x2 a1).bind fun x3 =>
    (gR h a0 1 5).bind fun x4 =>
    (aL h x4 a2).bind fun x5 =>
    (gL h a0 1 3).bind fun x6 =>
    ((if (lg_cmp (x3 ||| x5) x6) = 0 then
      some (J 1)
    else
      some (J 0))).bind fun (j7 : Int32) =>
    (isO h a0 1).bind fun u9 =>
    (f_X1_countBeside h a0 a1 a2).bind fun r10 =>
    (isO h a0 1).bind fun u11 =>
    (f_X1_countBeside h a0 a2 a1).bind fun r12 =>
    some ((j7 + r10) + r12))
set_option maxRecDepth 100000 in
set_option maxHeartbeats 4000000 in
theorem s_X1_countPairs {n : Nat} {h : Hp} {a0 : Nat} {a1 : Int32} {a2 : Int32}  {r : Int32} (hf : f_X1_countPairs  h a0 a1 a2 = some r) : Ev 4 yX1_countPairs cX1_countPairs 4 (some .int) [.ref a0, .int a1, .int a2] n h (some (.int r)) n h := by
  refine Ev_of RX1 rfl (by decide) (Nat.le_of_ble_eq_true rfl) (Nat.le_refl _) (Or.inl rfl) (fun Z hZ hF hN hI => ?_)
  have H : Ok (f_X1_countPairs  h a0 a1 a2) (fun y => y = r) := ⟨_, hf, rfl⟩
  unfold f_X1_countPairs at H
  refine r_ls (ls' := [(0, .ref a0), (1, .int a1), (2, .int a2)]) rfl ?_
  refine r_aload_n hZ dX1_countPairs_0 rfl ?_
  obtain ⟨x1, ex1, H⟩ := ok_bind H
  refine r_getL hZ fl_X1_51_1 dX1_countPairs_1 ex1 ?_
  refine r_lconst (v := (K 0)) hZ dX1_countPairs_4 (by decide) ?_
  refine r_lcmp hZ dX1_countPairs_5 ?_
  refine r_if_ne (tgt := 23) hZ dX1_countPairs_6 (by decide) (fun c17 => ?_) (fun c17 => ?_)
  · have H := ok_f H c17
    refine r_aload_n hZ dX1_countPairs_23 rfl ?_
    obtain ⟨x2, ex2, H⟩ := ok_bind H
    refine r_getR hZ fl_X1_17_1 dX1_countPairs_24 ex2 ?_
    refine r_iload_n hZ dX1_countPairs_27 rfl ?_
    obtain ⟨x3, ex3, H⟩ := ok_bind H
    refine r_aL hZ dX1_countPairs_28 ex3 ?_
    refine r_aload_n hZ dX1_countPairs_29 rfl ?_
    obtain ⟨x4, ex4, H⟩ := ok_bind H
    refine r_getR hZ fl_X1_17_1 dX1_countPairs_30 ex4 ?_
    refine r_iload_n hZ dX1_countPairs_33 rfl ?_
    obtain ⟨x5, ex5, H⟩ := ok_bind H
    refine r_aL hZ dX1_countPairs_34 ex5 ?_
    refine r_lor hZ dX1_countPairs_35 ?_
    refine r_aload_n hZ dX1_countPairs_36 rfl ?_
    obtain ⟨x6, ex6, H⟩ := ok_bind H
    refine r_getL hZ fl_X1_51_1 dX1_countPairs_37 ex6 ?_
    refine r_lcmp hZ dX1_countPairs_40 ?_
    refine ok_join (Q := fun j7 : Int32 => R Z 49 [(0, .ref a0), (1, .int a1), (2, .int a2)] [.int j7] n h 0) H (fun j7 H => ?_) (fun H => ?_)
    · refine r_istore_n hZ dX1_countPairs_49 (by decide) (r_pick [0, 1, 2, 3] (ls' := [(0, .ref a0), (1, .int a1), (2, .int a2), (3, .int j7)]) rfl ?_)
      refine r_iload_n hZ dX1_countPairs_50 rfl ?_
      refine r_aload_n hZ dX1_countPairs_51 rfl ?_
      refine r_iload_n hZ dX1_countPairs_52 rfl ?_
      refine r_iload_n hZ dX1_countPairs_53 rfl ?_
      obtain ⟨u9, eu9, H⟩ := ok_bind H
      obtain ⟨r10, er10, H⟩ := ok_bind H
      refine r_callV (As := [.int a1, .int a2]) (rest := [.int j7]) (st1 := [.int r10, .int j7]) (N2 := 0) hZ dX1_countPairs_54 cw_X1_93_X1 rfl eu9 (s_X1_countBeside er10) rfl rfl (by decide) (Nat.le_of_ble_eq_true rfl) (Nat.le_refl 0) (Nat.le_refl _) (Or.inl rfl) rfl ?_
      refine r_iadd hZ dX1_countPairs_57 ?_
      refine r_aload_n hZ dX1_countPairs_58 rfl ?_
      refine r_iload_n hZ dX1_countPairs_59 rfl ?_
      refine r_iload_n hZ dX1_countPairs_60 rfl ?_
      obtain ⟨u11, eu11, H⟩ := ok_bind H
      obtain ⟨r12, er12, H⟩ := ok_bind H
      refine r_callV (As := [.int a2, .int a1]) (rest := [.int (j7 + r10)]) (st1 := [.int r12, .int (j7 + r10)]) (N2 := 0) hZ dX1_countPairs_61 cw_X1_93_X1 rfl eu11 (s_X1_countBeside er12) rfl rfl (by decide) (Nat.le_of_ble_eq_true rfl) (Nat.le_refl 0) (Nat.le_refl _) (Or.inl rfl) rfl ?_
      refine r_iadd hZ dX1_countPairs_64 ?_
      have H := ok_some H
      subst H
      exact r_iret hZ hF dX1_countPairs_65
    · refine r_if_ne (tgt := 48) hZ dX1_countPairs_41 (by decide) (fun c8 => ?_) (fun c8 => ?_)
      · have H := ok_f H c8
        refine r_iconst (v := (J 0)) hZ dX1_countPairs_48 (by decide) ?_
        have H := ok_some H
        exact r_pick [0, 1, 2] (ls' := [(0, .ref a0), (1, .int a1), (2, .int a2)]) rfl H
      · have H := ok_t H c8
        refine r_iconst (v := (J 1)) hZ dX1_countPairs_44 (by decide) ?_
        refine r_goto (tgt := 49) hZ dX1_countPairs_45 (by decide) ?_
        have H := ok_some H
        exact r_pick [0, 1, 2] (ls' := [(0, .ref a0), (1, .int a1), (2, .int a2)]) rfl H
  · have H := ok_t H c17
    refine r_aload_n hZ dX1_countPairs_9 rfl ?_
    obtain ⟨x13, ex13, H⟩ := ok_bind H
    refine r_getR hZ fl_X1_21_1 dX1_countPairs_10 ex13 ?_
    refine r_iload_n hZ dX1_countPairs_13 rfl ?_
    obtain ⟨x14, ex14, H⟩ := ok_bind H
    refine r_aI hZ dX1_countPairs_14 ex14 ?_
    refine r_aload_n hZ dX1_countPairs_15 rfl ?_
    obtain ⟨x15, ex15, H⟩ := ok_bind H
    refine r_getR hZ fl_X1_21_1 dX1_countPairs_16 ex15 ?_
    refine r_iload_n hZ dX1_countPairs_19 rfl ?_
    obtain ⟨x16, ex16, H⟩ := ok_bind H
    refine r_aI hZ dX1_countPairs_20 ex16 ?_
    refine r_imul hZ dX1_countPairs_21 ?_
    have H := ok_some H
    subst H
    exact r_iret hZ hF dX1_countPairs_22
def f_X1_countSingles  (h : Hp) (a0 : Nat) (a1 : Int32) : Option (Int32) :=
  (gL h a0 1 3).bind fun x1 =>
  (if (lg_cmp x1 (K 0)) = 0 then
    (gR h a0 1 6).bind fun x7 =>
    (aI h x7 a1).bind fun x8 =>
    some x8
  else
    (gR h a0 1 5).bind fun x2 =>
    (aL h x2 a1).bind fun x3 =>
    (gL h a0 1 3).bind fun x4 =>
    ((if (lg_cmp x3 x4) = 0 then
      some (J 1)
    else
      some (J 0))).bind fun (j5 : Int32) =>
    some j5)
set_option maxRecDepth 100000 in
set_option maxHeartbeats 4000000 in
theorem s_X1_countSingles {n : Nat} {h : Hp} {a0 : Nat} {a1 : Int32}  {r : Int32} (hf : f_X1_countSingles  h a0 a1 = some r) : Ev 2 yX1_countSingles cX1_countSingles 2 (some .int) [.ref a0, .int a1] n h (some (.int r)) n h := by
  refine Ev_of RX1 rfl (by decide) (Nat.le_of_ble_eq_true rfl) (Nat.le_refl _) (Or.inl rfl) (fun Z hZ hF hN hI => ?_)
  have H : Ok (f_X1_countSingles  h a0 a1) (fun y => y = r) := ⟨_, hf, rfl⟩
  unfold f_X1_countSingles at H
  refine r_ls (ls' := [(0, .ref a0), (1, .int a1)]) rfl ?_
  refine r_aload_n hZ dX1_countSingles_0 rfl ?_
  obtain ⟨x1, ex1, H⟩ := ok_bind H
  refine r_getL hZ fl_X1_51_1 dX1_countSingles_1 ex1 ?_
  refine r_lconst (v := (K 0)) hZ dX1_countSingles_4 (by decide) ?_
  refine r_lcmp hZ dX1_countSingles_5 ?_
  refine r_if_ne (tgt := 16) hZ dX1_countSingles_6 (by decide) (fun c9 => ?_) (fun c9 => ?_)
  · have H := ok_f H c9
    refine r_aload_n hZ dX1_countSingles_16 rfl ?_
    obtain ⟨x2, ex2, H⟩ := ok_bind H
    refine r_getR hZ fl_X1_17_1 dX1_countSingles_17 ex2 ?_
    refine r_iload_n hZ dX1_countSingles_20 rfl ?_
    obtain ⟨x3, ex3, H⟩ := ok_bind H
    refine r_aL hZ dX1_countSingles_21 ex3 ?_
    refine r_aload_n hZ dX1_countSingles_22 rfl ?_
    obtain ⟨x4, ex4, H⟩ := ok_bind H
    refine r_getL hZ fl_X1_51_1 dX1_countSingles_23 ex4 ?_
    refine r_lcmp hZ dX1_countSingles_26 ?_
    refine ok_join (Q := fun j5 : Int32 => R Z 35 [] [.int j5] n h 0) H (fun j5 H => ?_) (fun H => ?_)
    · have H := ok_some H
      subst H
      exact r_iret hZ hF dX1_countSingles_35
    · refine r_if_ne (tgt := 34) hZ dX1_countSingles_27 (by decide) (fun c6 => ?_) (fun c6 => ?_)
      · have H := ok_f H c6
        refine r_iconst (v := (J 0)) hZ dX1_countSingles_34 (by decide) ?_
        have H := ok_some H
        exact r_pick [] (ls' := []) rfl H
      · have H := ok_t H c6
        refine r_iconst (v := (J 1)) hZ dX1_countSingles_30 (by decide) ?_
        refine r_goto (tgt := 35) hZ dX1_countSingles_31 (by decide) ?_
        have H := ok_some H
        exact r_pick [] (ls' := []) rfl H
  · have H := ok_t H c9
    refine r_aload_n hZ dX1_countSingles_9 rfl ?_
    obtain ⟨x7, ex7, H⟩ := ok_bind H
    refine r_getR hZ fl_X1_21_1 dX1_countSingles_10 ex7 ?_
    refine r_iload_n hZ dX1_countSingles_13 rfl ?_
    obtain ⟨x8, ex8, H⟩ := ok_bind H
    refine r_aI hZ dX1_countSingles_14 ex8 ?_
    have H := ok_some H
    subst H
    exact r_iret hZ hF dX1_countSingles_15
def b_X1_hear_17 (p0 : Nat) (p1 : Nat) (s : Int32 × Hp) : Option ((Int32 × Hp) ⊕ ((Hp))) :=
  (gI s.2 p0 1 2).bind fun x1 =>
  (if x1 ≤ s.1 then
    some (.inr (s.2))
  else
    (aI s.2 p1 s.1).bind fun x2 =>
    ((if x2 = (J 1) then
      (gL s.2 p0 1 3).bind fun x4 =>
      (pF s.2 p0 1 3 (.long (x4 ||| ((K 1) <<< (s.1.toInt64 &&& 63))))).bind fun h5 =>
      some h5
    else
      some s.2)).bind fun (j3 : Hp) =>
    (some (s.1 + (J 1))).bind fun x7 =>
    some (.inl (x7, j3)))
set_option maxRecDepth 100000 in
set_option maxHeartbeats 4000000 in
theorem l_X1_hear_17 {Z : Zc} (hZ : Fx cX1_hear RX1 4 3 0 Z) {n : Nat} {p0 : Nat} {p1 : Nat} {P : ((Hp)) → Prop} (hx0 : ∀ e : Hp, P (e) → R Z 50 [(0, .ref p0)] [] n e 0) : ∀ (m : Nat) (s : Int32 × Hp), Ok (iter (b_X1_hear_17 p0 p1) m s) P → R Z 17 [(0, .ref p0), (1, .ref p1), (3, .int s.1)] [] n s.2 0 := by
  intro m
  induction m with
  | zero => exact fun s H => ok_iter0 H
  | succ m ih =>
    intro s H
    have H := ok_iter H
    unfold b_X1_hear_17 at H
    refine r_iload_n hZ dX1_hear_17 rfl ?_
    refine r_aload_n hZ dX1_hear_18 rfl ?_
    obtain ⟨x1, ex1, H⟩ := ok_bind H
    refine r_getI hZ fl_X1_74_1 dX1_hear_19 ex1 ?_
    refine r_icmp_ge (tgt := 50) hZ dX1_hear_22 (by decide) (fun c8 => ?_) (fun c8 => ?_)
    · have H := ok_t H c8
      exact r_pick [0] (ls' := [(0, .ref p0)]) rfl (hx0 _ (ki_r H))
    · have H := ok_f H c8
      refine r_aload_n hZ dX1_hear_25 rfl ?_
      refine r_iload_n hZ dX1_hear_26 rfl ?_
      obtain ⟨x2, ex2, H⟩ := ok_bind H
      refine r_aI hZ dX1_hear_27 ex2 ?_
      refine r_iconst (v := (J 1)) hZ dX1_hear_28 (by decide) ?_
      refine ok_join (Q := fun j3 : Hp => R Z 44 [(0, .ref p0), (1, .ref p1), (3, .int s.1)] [] n j3 0) H (fun j3 H => ?_) (fun H => ?_)
      · obtain ⟨x7, ex7, H⟩ := ok_bind H
        refine r_iincE (w := (J 1)) hZ dX1_hear_44 (by decide) rfl (by decide) ex7 (r_pick [0, 1, 3] (ls' := [(0, .ref p0), (1, .ref p1), (3, .int x7)]) rfl ?_)
        refine r_goto (tgt := 17) hZ dX1_hear_47 (by decide) ?_
        exact r_pick [0, 1, 3] (ls' := [(0, .ref p0), (1, .ref p1), (3, .int x7)]) rfl (ih _ (ki_l H))
      · refine r_icmp_ne (tgt := 44) hZ dX1_hear_29 (by decide) (fun c6 => ?_) (fun c6 => ?_)
        · have H := ok_f H c6
          have H := ok_some H
          exact r_pick [0, 1, 3] (ls' := [(0, .ref p0), (1, .ref p1), (3, .int s.1)]) rfl H
        · have H := ok_t H c6
          refine r_aload_n hZ dX1_hear_32 rfl ?_
          refine r_dup_a hZ dX1_hear_33 ?_
          obtain ⟨x4, ex4, H⟩ := ok_bind H
          refine r_getL hZ fl_X1_51_1 dX1_hear_34 ex4 ?_
          refine r_lconst (v := (K 1)) hZ dX1_hear_37 (by decide) ?_
          refine r_iload_n hZ dX1_hear_38 rfl ?_
          refine r_lshl hZ dX1_hear_39 ?_
          refine r_lor hZ dX1_hear_40 ?_
          obtain ⟨h5, eh5, H⟩ := ok_bind H
          refine r_putf hZ fl_X1_51_1 dX1_hear_41 eh5 rfl rfl ?_
          have H := ok_some H
          exact r_pick [0, 1, 3] (ls' := [(0, .ref p0), (1, .ref p1), (3, .int s.1)]) rfl H
def f_X1_hear  (h : Hp) (a0 : Nat) (a1 : Nat) (a2 : Int32) : Option (Hp) :=
  (pF h a0 1 2 (.int (if (J 60) < a2 then (J 60) else a2))).bind fun h1 =>
  (pF h1 a0 1 3 (.long (K 0))).bind fun h2 =>
  (some (J 0)).bind fun x3 =>
  (iter (b_X1_hear_17 a0 a1) FU (x3, h2)).bind fun e4 =>
  (gL e4 a0 1 3).bind fun x5 =>
  (f_X1_firstTick x5).bind fun r6 =>
  (pF e4 a0 1 4 (.int r6)).bind fun h7 =>
  some h7
set_option maxRecDepth 100000 in
set_option maxHeartbeats 4000000 in
theorem s_X1_hear {n : Nat} {h : Hp} {a0 : Nat} {a1 : Nat} {a2 : Int32}  {r : Hp} (hf : f_X1_hear  h a0 a1 a2 = some r) : Ev 3 yX1_hear cX1_hear 4 none [.ref a0, .ref a1, .int a2] n h none n r := by
  refine Ev_of RX1 rfl (by decide) (Nat.le_of_ble_eq_true rfl) (Nat.le_refl _) (Or.inl rfl) (fun Z hZ hF hN hI => ?_)
  have H : Ok (f_X1_hear  h a0 a1 a2) (fun y => y = r) := ⟨_, hf, rfl⟩
  unfold f_X1_hear at H
  refine r_ls (ls' := [(0, .ref a0), (1, .ref a1), (2, .int a2)]) rfl ?_
  refine r_aload_n hZ dX1_hear_0 rfl ?_
  refine r_iload_n hZ dX1_hear_1 rfl ?_
  refine r_bipush (v := (J 60)) hZ dX1_hear_2 (by decide) ?_
  refine r_min hZ dX1_hear_4 wM_X1_69 (by decide) (Nat.le_of_ble_eq_true rfl) (Nat.le_refl 0) ?_
  obtain ⟨h1, eh1, H⟩ := ok_bind H
  refine r_putf hZ fl_X1_74_1 dX1_hear_7 eh1 rfl rfl ?_
  refine r_aload_n hZ dX1_hear_10 rfl ?_
  refine r_lconst (v := (K 0)) hZ dX1_hear_11 (by decide) ?_
  obtain ⟨h2, eh2, H⟩ := ok_bind H
  refine r_putf hZ fl_X1_51_1 dX1_hear_12 eh2 rfl rfl ?_
  refine r_iconst (v := (J 0)) hZ dX1_hear_15 (by decide) ?_
  obtain ⟨x3, ex3, H⟩ := ok_bind H
  refine r_topi ex3 ?_
  refine r_istore_n hZ dX1_hear_16 (by decide) (r_pick [0, 1, 3] (ls' := [(0, .ref a0), (1, .ref a1), (3, .int x3)]) rfl ?_)
  have H := ok_bindK H
  refine r_pick [0, 1, 3] (ls' := [(0, .ref a0), (1, .ref a1), (3, .int x3)]) rfl (l_X1_hear_17 hZ (fun e4 H => ?_) FU _ H)
  · refine r_aload_n hZ dX1_hear_50 rfl ?_
    refine r_aload_n hZ dX1_hear_51 rfl ?_
    obtain ⟨x5, ex5, H⟩ := ok_bind H
    refine r_getL hZ fl_X1_51_1 dX1_hear_52 ex5 ?_
    obtain ⟨r6, er6, H⟩ := ok_bind H
    refine r_callS (As := [.long x5]) (rest := [.ref a0]) (st1 := [.int r6, .ref a0]) (N2 := 0) hZ dX1_hear_55 cw_X1_77 (s_X1_firstTick er6) rfl rfl (by decide) (Nat.le_of_ble_eq_true rfl) (Nat.le_refl 0) (Nat.le_refl _) (Or.inl rfl) rfl ?_
    obtain ⟨h7, eh7, H⟩ := ok_bind H
    refine r_putf hZ fl_X1_40_1 dX1_hear_58 eh7 rfl rfl ?_
    have H := ok_some H
    subst H
    exact r_ret hZ hF dX1_hear_61
def b_X1_listen_17 (p0 : Nat) (p1 : Nat) (s : Int32 × Hp) : Option ((Int32 × Hp) ⊕ ((Hp))) :=
  (gI s.2 p0 1 1).bind fun x1 =>
  (if x1 ≤ s.1 then
    some (.inr (s.2))
  else
    (gR s.2 p0 1 0).bind fun x2 =>
    (gR s.2 p1 3 0).bind fun x3 =>
    (aR s.2 x3 3 s.1).bind fun x4 =>
    (sR s.2 x2 3 0 s.1 x4).bind fun h5 =>
    (gR h5 p0 1 5).bind fun x6 =>
    (gI h5 p0 1 4).bind fun x7 =>
    (isO h5 p0 1).bind fun u8 =>
    (f_X1_soundAt h5 p0 s.1 x7).bind fun r9 =>
    (sL h5 x6 s.1 r9).bind fun h10 =>
    (gR h10 p0 1 6).bind fun x11 =>
    (isO h10 p0 1).bind fun u12 =>
    (f_X1_countInside h10 p0 s.1).bind fun r13 =>
    (sI h10 x11 s.1 r13).bind fun h14 =>
    (gR h14 p0 1 7).bind fun x15 =>
    (sI h14 x15 s.1 (J 0)).bind fun h16 =>
    (some (s.1 + (J 1))).bind fun x17 =>
    some (.inl (x17, h16)))
set_option maxRecDepth 100000 in
set_option maxHeartbeats 4000000 in
theorem l_X1_listen_17 {Z : Zc} (hZ : Fx cX1_listen RX1 6 5 0 Z) {n : Nat} {p0 : Nat} {p1 : Nat} {P : ((Hp)) → Prop} (hx0 : ∀ e : Hp, P (e) → R Z 84 [(0, .ref p0)] [] n e 0) : ∀ (m : Nat) (s : Int32 × Hp), Ok (iter (b_X1_listen_17 p0 p1) m s) P → R Z 17 [(0, .ref p0), (1, .ref p1), (4, .int s.1)] [] n s.2 0 := by
  intro m
  induction m with
  | zero => exact fun s H => ok_iter0 H
  | succ m ih =>
    intro s H
    have H := ok_iter H
    unfold b_X1_listen_17 at H
    refine r_iload hZ dX1_listen_17 rfl ?_
    refine r_aload_n hZ dX1_listen_19 rfl ?_
    obtain ⟨x1, ex1, H⟩ := ok_bind H
    refine r_getI hZ fl_X1_38_1 dX1_listen_20 ex1 ?_
    refine r_icmp_ge (tgt := 84) hZ dX1_listen_23 (by decide) (fun c18 => ?_) (fun c18 => ?_)
    · have H := ok_t H c18
      exact r_pick [0] (ls' := [(0, .ref p0)]) rfl (hx0 _ (ki_r H))
    · have H := ok_f H c18
      refine r_aload_n hZ dX1_listen_26 rfl ?_
      obtain ⟨x2, ex2, H⟩ := ok_bind H
      refine r_getR hZ fl_X1_11_1 dX1_listen_27 ex2 ?_
      refine r_iload hZ dX1_listen_30 rfl ?_
      refine r_aload_n hZ dX1_listen_32 rfl ?_
      obtain ⟨x3, ex3, H⟩ := ok_bind H
      refine r_getR hZ fl_X1_39_3 dX1_listen_33 ex3 ?_
      refine r_iload hZ dX1_listen_36 rfl ?_
      obtain ⟨x4, ex4, H⟩ := ok_bind H
      refine r_aR hZ dX1_listen_38 ex4 (fun _ => rfl) (Or.inl ⟨_, rfl⟩) ?_
      obtain ⟨h5, eh5, H⟩ := ok_bind H
      refine r_sR hZ dX1_listen_39 eh5 rfl (fun _ => rfl) ?_
      refine r_aload_n hZ dX1_listen_40 rfl ?_
      obtain ⟨x6, ex6, H⟩ := ok_bind H
      refine r_getR hZ fl_X1_17_1 dX1_listen_41 ex6 ?_
      refine r_iload hZ dX1_listen_44 rfl ?_
      refine r_aload_n hZ dX1_listen_46 rfl ?_
      refine r_iload hZ dX1_listen_47 rfl ?_
      refine r_aload_n hZ dX1_listen_49 rfl ?_
      obtain ⟨x7, ex7, H⟩ := ok_bind H
      refine r_getI hZ fl_X1_40_1 dX1_listen_50 ex7 ?_
      obtain ⟨u8, eu8, H⟩ := ok_bind H
      obtain ⟨r9, er9, H⟩ := ok_bind H
      refine r_callV (As := [.int s.1, .int x7]) (rest := [.int s.1, .ref x6]) (st1 := [.long r9, .int s.1, .ref x6]) (N2 := 0) hZ dX1_listen_53 cw_X1_43_X1 rfl eu8 (s_X1_soundAt er9) rfl rfl (by decide) (Nat.le_of_ble_eq_true rfl) (Nat.le_refl 0) (Nat.le_refl _) (Or.inl rfl) rfl ?_
      obtain ⟨h10, eh10, H⟩ := ok_bind H
      refine r_sL hZ dX1_listen_56 eh10 ?_
      refine r_aload_n hZ dX1_listen_57 rfl ?_
      obtain ⟨x11, ex11, H⟩ := ok_bind H
      refine r_getR hZ fl_X1_21_1 dX1_listen_58 ex11 ?_
      refine r_iload hZ dX1_listen_61 rfl ?_
      refine r_aload_n hZ dX1_listen_63 rfl ?_
      refine r_iload hZ dX1_listen_64 rfl ?_
      obtain ⟨u12, eu12, H⟩ := ok_bind H
      obtain ⟨r13, er13, H⟩ := ok_bind H
      refine r_callV (As := [.int s.1]) (rest := [.int s.1, .ref x11]) (st1 := [.int r13, .int s.1, .ref x11]) (N2 := 0) hZ dX1_listen_66 cw_X1_47_X1 rfl eu12 (s_X1_countInside er13) rfl rfl (by decide) (Nat.le_of_ble_eq_true rfl) (Nat.le_refl 0) (Nat.le_refl _) (Or.inl rfl) rfl ?_
      obtain ⟨h14, eh14, H⟩ := ok_bind H
      refine r_sI hZ dX1_listen_69 eh14 ?_
      refine r_aload_n hZ dX1_listen_70 rfl ?_
      obtain ⟨x15, ex15, H⟩ := ok_bind H
      refine r_getR hZ fl_X1_25_1 dX1_listen_71 ex15 ?_
      refine r_iload hZ dX1_listen_74 rfl ?_
      refine r_iconst (v := (J 0)) hZ dX1_listen_76 (by decide) ?_
      obtain ⟨h16, eh16, H⟩ := ok_bind H
      refine r_sI hZ dX1_listen_77 eh16 ?_
      obtain ⟨x17, ex17, H⟩ := ok_bind H
      refine r_iincE (w := (J 1)) hZ dX1_listen_78 (by decide) rfl (by decide) ex17 (r_pick [0, 1, 4] (ls' := [(0, .ref p0), (1, .ref p1), (4, .int x17)]) rfl ?_)
      refine r_goto (tgt := 17) hZ dX1_listen_81 (by decide) ?_
      exact r_pick [0, 1, 4] (ls' := [(0, .ref p0), (1, .ref p1), (4, .int x17)]) rfl (ih _ (ki_l H))
def b_X1_listen_134 (p0 : Nat) (p4 : Int32) (s : Int32 × Hp) : Option ((Int32 × Hp) ⊕ ((Hp))) :=
  (gI s.2 p0 1 1).bind fun x1 =>
  (if x1 ≤ s.1 then
    some (.inr (s.2))
  else
    (isO s.2 p0 1).bind fun u2 =>
    (f_X1_countPairs s.2 p0 p4 s.1).bind fun r3 =>
    (isO s.2 p0 1).bind fun u4 =>
    (f_X1_addSets s.2 p0 r3 p4 s.1).bind fun r5 =>
    (some (s.1 + (J 1))).bind fun x6 =>
    some (.inl (x6, r5)))
set_option maxRecDepth 100000 in
set_option maxHeartbeats 4000000 in
theorem l_X1_listen_134 {Z : Zc} (hZ : Fx cX1_listen RX1 6 5 0 Z) {n : Nat} {p0 : Nat} {p4 : Int32} {P : ((Hp)) → Prop} (hx0 : ∀ e : Hp, P (e) → R Z 165 [(0, .ref p0), (4, .int p4)] [] n e 0) : ∀ (m : Nat) (s : Int32 × Hp), Ok (iter (b_X1_listen_134 p0 p4) m s) P → R Z 134 [(0, .ref p0), (4, .int p4), (5, .int s.1)] [] n s.2 0 := by
  intro m
  induction m with
  | zero => exact fun s H => ok_iter0 H
  | succ m ih =>
    intro s H
    have H := ok_iter H
    unfold b_X1_listen_134 at H
    refine r_iload hZ dX1_listen_134 rfl ?_
    refine r_aload_n hZ dX1_listen_136 rfl ?_
    obtain ⟨x1, ex1, H⟩ := ok_bind H
    refine r_getI hZ fl_X1_38_1 dX1_listen_137 ex1 ?_
    refine r_icmp_ge (tgt := 165) hZ dX1_listen_140 (by decide) (fun c7 => ?_) (fun c7 => ?_)
    · have H := ok_t H c7
      exact r_pick [0, 4] (ls' := [(0, .ref p0), (4, .int p4)]) rfl (hx0 _ (ki_r H))
    · have H := ok_f H c7
      refine r_aload_n hZ dX1_listen_143 rfl ?_
      refine r_aload_n hZ dX1_listen_144 rfl ?_
      refine r_iload hZ dX1_listen_145 rfl ?_
      refine r_iload hZ dX1_listen_147 rfl ?_
      obtain ⟨u2, eu2, H⟩ := ok_bind H
      obtain ⟨r3, er3, H⟩ := ok_bind H
      refine r_callV (As := [.int p4, .int s.1]) (rest := [.ref p0]) (st1 := [.int r3, .ref p0]) (N2 := 0) hZ dX1_listen_149 cw_X1_65_X1 rfl eu2 (s_X1_countPairs er3) rfl rfl (by decide) (Nat.le_of_ble_eq_true rfl) (Nat.le_refl 0) (Nat.le_refl _) (Or.inl rfl) rfl ?_
      refine r_iload hZ dX1_listen_152 rfl ?_
      refine r_iload hZ dX1_listen_154 rfl ?_
      obtain ⟨u4, eu4, H⟩ := ok_bind H
      obtain ⟨r5, er5, H⟩ := ok_bind H
      refine r_callV (As := [.int r3, .int p4, .int s.1]) (rest := []) (st1 := []) (N2 := 0) hZ dX1_listen_156 cw_X1_61_X1 rfl eu4 (s_X1_addSets er5) rfl rfl (by decide) (Nat.le_of_ble_eq_true rfl) (Nat.le_refl 0) (Nat.le_refl _) (Or.inl rfl) rfl ?_
      obtain ⟨x6, ex6, H⟩ := ok_bind H
      refine r_iincE (w := (J 1)) hZ dX1_listen_159 (by decide) rfl (by decide) ex6 (r_pick [0, 4, 5] (ls' := [(0, .ref p0), (4, .int p4), (5, .int x6)]) rfl ?_)
      refine r_goto (tgt := 134) hZ dX1_listen_162 (by decide) ?_
      exact r_pick [0, 4, 5] (ls' := [(0, .ref p0), (4, .int p4), (5, .int x6)]) rfl (ih _ (ki_l H))
def b_X1_listen_105 (p0 : Nat) (s : Int32 × Hp) : Option ((Int32 × Hp) ⊕ ((Hp))) :=
  (gI s.2 p0 1 1).bind fun x1 =>
  (if x1 ≤ s.1 then
    some (.inr (s.2))
  else
    (isO s.2 p0 1).bind fun u2 =>
    (f_X1_countSingles s.2 p0 s.1).bind fun r3 =>
    (isO s.2 p0 1).bind fun u4 =>
    (f_X1_addSets s.2 p0 r3 s.1 s.1).bind fun r5 =>
    (some (s.1 + (J 1))).bind fun x6 =>
    (iter (b_X1_listen_134 p0 s.1) FU (x6, r5)).bind fun e7 =>
    (some (s.1 + (J 1))).bind fun x8 =>
    some (.inl (x8, e7)))
set_option maxRecDepth 100000 in
set_option maxHeartbeats 4000000 in
theorem l_X1_listen_105 {Z : Zc} (hZ : Fx cX1_listen RX1 6 5 0 Z) {n : Nat} {p0 : Nat} {P : ((Hp)) → Prop} (hx0 : ∀ e : Hp, P (e) → R Z 171 [] [] n e 0) : ∀ (m : Nat) (s : Int32 × Hp), Ok (iter (b_X1_listen_105 p0) m s) P → R Z 105 [(0, .ref p0), (4, .int s.1)] [] n s.2 0 := by
  intro m
  induction m with
  | zero => exact fun s H => ok_iter0 H
  | succ m ih =>
    intro s H
    have H := ok_iter H
    unfold b_X1_listen_105 at H
    refine r_iload hZ dX1_listen_105 rfl ?_
    refine r_aload_n hZ dX1_listen_107 rfl ?_
    obtain ⟨x1, ex1, H⟩ := ok_bind H
    refine r_getI hZ fl_X1_38_1 dX1_listen_108 ex1 ?_
    refine r_icmp_ge (tgt := 171) hZ dX1_listen_111 (by decide) (fun c9 => ?_) (fun c9 => ?_)
    · have H := ok_t H c9
      exact r_pick [] (ls' := []) rfl (hx0 _ (ki_r H))
    · have H := ok_f H c9
      refine r_aload_n hZ dX1_listen_114 rfl ?_
      refine r_aload_n hZ dX1_listen_115 rfl ?_
      refine r_iload hZ dX1_listen_116 rfl ?_
      obtain ⟨u2, eu2, H⟩ := ok_bind H
      obtain ⟨r3, er3, H⟩ := ok_bind H
      refine r_callV (As := [.int s.1]) (rest := [.ref p0]) (st1 := [.int r3, .ref p0]) (N2 := 0) hZ dX1_listen_118 cw_X1_58_X1 rfl eu2 (s_X1_countSingles er3) rfl rfl (by decide) (Nat.le_of_ble_eq_true rfl) (Nat.le_refl 0) (Nat.le_refl _) (Or.inl rfl) rfl ?_
      refine r_iload hZ dX1_listen_121 rfl ?_
      refine r_iload hZ dX1_listen_123 rfl ?_
      obtain ⟨u4, eu4, H⟩ := ok_bind H
      obtain ⟨r5, er5, H⟩ := ok_bind H
      refine r_callV (As := [.int r3, .int s.1, .int s.1]) (rest := []) (st1 := []) (N2 := 0) hZ dX1_listen_125 cw_X1_61_X1 rfl eu4 (s_X1_addSets er5) rfl rfl (by decide) (Nat.le_of_ble_eq_true rfl) (Nat.le_refl 0) (Nat.le_refl _) (Or.inl rfl) rfl ?_
      refine r_iload hZ dX1_listen_128 rfl ?_
      refine r_iconst (v := (J 1)) hZ dX1_listen_130 (by decide) ?_
      refine r_iadd hZ dX1_listen_131 ?_
      obtain ⟨x6, ex6, H⟩ := ok_bind H
      refine r_topi ex6 ?_
      refine r_istore hZ dX1_listen_132 (by decide) (r_pick [0, 4, 5] (ls' := [(0, .ref p0), (4, .int s.1), (5, .int x6)]) rfl ?_)
      have H := ok_bindK H
      refine r_pick [0, 4, 5] (ls' := [(0, .ref p0), (4, .int s.1), (5, .int x6)]) rfl (l_X1_listen_134 hZ (fun e7 H => ?_) FU _ H)
      · obtain ⟨x8, ex8, H⟩ := ok_bind H
        refine r_iincE (w := (J 1)) hZ dX1_listen_165 (by decide) rfl (by decide) ex8 (r_pick [0, 4] (ls' := [(0, .ref p0), (4, .int x8)]) rfl ?_)
        refine r_goto (tgt := 105) hZ dX1_listen_168 (by decide) ?_
        exact r_pick [0, 4] (ls' := [(0, .ref p0), (4, .int x8)]) rfl (ih _ (ki_l H))
def f_X1_listen  (h : Hp) (a0 : Nat) (a1 : Nat) (a2 : Nat) (a3 : Int32) : Option (Hp) :=
  (isO h a0 1).bind fun u1 =>
  (f_X1_hear h a0 a2 a3).bind fun r2 =>
  (gI r2 a1 3 1).bind fun x3 =>
  (pF r2 a0 1 1 (.int x3)).bind fun h4 =>
  (some (J 0)).bind fun x5 =>
  (iter (b_X1_listen_17 a0 a1) FU (x5, h4)).bind fun e6 =>
  (gL e6 a0 1 3).bind fun x7 =>
  ((if (lg_cmp x7 (K 0)) = 0 then
    some (J 1)
  else
    some (J 0))).bind fun (j8 : Int32) =>
  (pF e6 a0 1 8 (.int j8)).bind fun h10 =>
  (some (J 0)).bind fun x11 =>
  (iter (b_X1_listen_105 a0) FU (x11, h10)).bind fun e12 =>
  some e12
set_option maxRecDepth 100000 in
set_option maxHeartbeats 4000000 in
theorem s_X1_listen {n : Nat} {h : Hp} {a0 : Nat} {a1 : Nat} {a2 : Nat} {a3 : Int32}  {r : Hp} (hf : f_X1_listen  h a0 a1 a2 a3 = some r) : Ev 5 yX1_listen cX1_listen 6 none [.ref a0, .ref a1, .ref a2, .int a3] n h none n r := by
  refine Ev_of RX1 rfl (by decide) (Nat.le_of_ble_eq_true rfl) (Nat.le_refl _) (Or.inl rfl) (fun Z hZ hF hN hI => ?_)
  have H : Ok (f_X1_listen  h a0 a1 a2 a3) (fun y => y = r) := ⟨_, hf, rfl⟩
  unfold f_X1_listen at H
  refine r_ls (ls' := [(0, .ref a0), (1, .ref a1), (2, .ref a2), (3, .int a3)]) rfl ?_
  refine r_aload_n hZ dX1_listen_0 rfl ?_
  refine r_aload_n hZ dX1_listen_1 rfl ?_
  refine r_iload_n hZ dX1_listen_2 rfl ?_
  obtain ⟨u1, eu1, H⟩ := ok_bind H
  obtain ⟨r2, er2, H⟩ := ok_bind H
  refine r_callV (As := [.ref a2, .int a3]) (rest := []) (st1 := []) (N2 := 0) hZ dX1_listen_3 cw_X1_28_X1 rfl eu1 (s_X1_hear er2) rfl rfl (by decide) (Nat.le_of_ble_eq_true rfl) (Nat.le_refl 0) (Nat.le_refl _) (Or.inl rfl) rfl ?_
  refine r_aload_n hZ dX1_listen_6 rfl ?_
  refine r_aload_n hZ dX1_listen_7 rfl ?_
  obtain ⟨x3, ex3, H⟩ := ok_bind H
  refine r_getI hZ fl_X1_32_3 dX1_listen_8 ex3 ?_
  obtain ⟨h4, eh4, H⟩ := ok_bind H
  refine r_putf hZ fl_X1_38_1 dX1_listen_11 eh4 rfl rfl ?_
  refine r_iconst (v := (J 0)) hZ dX1_listen_14 (by decide) ?_
  obtain ⟨x5, ex5, H⟩ := ok_bind H
  refine r_topi ex5 ?_
  refine r_istore hZ dX1_listen_15 (by decide) (r_pick [0, 1, 4] (ls' := [(0, .ref a0), (1, .ref a1), (4, .int x5)]) rfl ?_)
  have H := ok_bindK H
  refine r_pick [0, 1, 4] (ls' := [(0, .ref a0), (1, .ref a1), (4, .int x5)]) rfl (l_X1_listen_17 hZ (fun e6 H => ?_) FU _ H)
  · refine r_aload_n hZ dX1_listen_84 rfl ?_
    refine r_aload_n hZ dX1_listen_85 rfl ?_
    obtain ⟨x7, ex7, H⟩ := ok_bind H
    refine r_getL hZ fl_X1_51_1 dX1_listen_86 ex7 ?_
    refine r_lconst (v := (K 0)) hZ dX1_listen_89 (by decide) ?_
    refine r_lcmp hZ dX1_listen_90 ?_
    refine ok_join (Q := fun j8 : Int32 => R Z 99 [(0, .ref a0)] [.int j8, .ref a0] n e6 0) H (fun j8 H => ?_) (fun H => ?_)
    · obtain ⟨h10, eh10, H⟩ := ok_bind H
      refine r_putf hZ fl_X1_55_1 dX1_listen_99 eh10 rfl rfl ?_
      refine r_iconst (v := (J 0)) hZ dX1_listen_102 (by decide) ?_
      obtain ⟨x11, ex11, H⟩ := ok_bind H
      refine r_topi ex11 ?_
      refine r_istore hZ dX1_listen_103 (by decide) (r_pick [0, 4] (ls' := [(0, .ref a0), (4, .int x11)]) rfl ?_)
      have H := ok_bindK H
      refine r_pick [0, 4] (ls' := [(0, .ref a0), (4, .int x11)]) rfl (l_X1_listen_105 hZ (fun e12 H => ?_) FU _ H)
      · have H := ok_some H
        subst H
        exact r_ret hZ hF dX1_listen_171
    · refine r_if_ne (tgt := 98) hZ dX1_listen_91 (by decide) (fun c9 => ?_) (fun c9 => ?_)
      · have H := ok_f H c9
        refine r_iconst (v := (J 0)) hZ dX1_listen_98 (by decide) ?_
        have H := ok_some H
        exact r_pick [0] (ls' := [(0, .ref a0)]) rfl H
      · have H := ok_t H c9
        refine r_iconst (v := (J 1)) hZ dX1_listen_94 (by decide) ?_
        refine r_goto (tgt := 99) hZ dX1_listen_95 (by decide) ?_
        have H := ok_some H
        exact r_pick [0] (ls' := [(0, .ref a0)]) rfl H
def b_X1_blamed_4 (h : Hp) (p0 : Nat) (s : Int32 × Int32) : Option ((Int32 × Int32) ⊕ ((Int32))) :=
  (gI h p0 1 1).bind fun x1 =>
  (if x1 ≤ s.2 then
    some (.inr (s.1))
  else
    (gI h p0 1 8).bind fun x2 =>
    ((if x2 ≤ 0 then
      some s.1
    else
      (gR h p0 1 7).bind fun x4 =>
      (aI h x4 s.2).bind fun x5 =>
      (gI h p0 1 8).bind fun x6 =>
      (if x5 = x6 then
        (some (s.1 ||| ((J 1) <<< (s.2 &&& 31)))).bind fun x7 =>
        some x7
      else
        some s.1))).bind fun (j3 : Int32) =>
    (some (s.2 + (J 1))).bind fun x10 =>
    some (.inl (j3, x10)))
set_option maxRecDepth 100000 in
set_option maxHeartbeats 4000000 in
theorem l_X1_blamed_4 {Z : Zc} (hZ : Fx cX1_blamed RX1 3 2 0 Z) {n : Nat} {h : Hp} {p0 : Nat} {P : ((Int32)) → Prop} (hx0 : ∀ e : Int32, P (e) → R Z 44 [(1, .int e)] [] n h 0) : ∀ (m : Nat) (s : Int32 × Int32), Ok (iter (b_X1_blamed_4 h p0) m s) P → R Z 4 [(0, .ref p0), (1, .int s.1), (2, .int s.2)] [] n h 0 := by
  intro m
  induction m with
  | zero => exact fun s H => ok_iter0 H
  | succ m ih =>
    intro s H
    have H := ok_iter H
    unfold b_X1_blamed_4 at H
    refine r_iload_n hZ dX1_blamed_4 rfl ?_
    refine r_aload_n hZ dX1_blamed_5 rfl ?_
    obtain ⟨x1, ex1, H⟩ := ok_bind H
    refine r_getI hZ fl_X1_38_1 dX1_blamed_6 ex1 ?_
    refine r_icmp_ge (tgt := 44) hZ dX1_blamed_9 (by decide) (fun c11 => ?_) (fun c11 => ?_)
    · have H := ok_t H c11
      exact r_pick [1] (ls' := [(1, .int s.1)]) rfl (hx0 _ (ki_r H))
    · have H := ok_f H c11
      refine r_aload_n hZ dX1_blamed_12 rfl ?_
      obtain ⟨x2, ex2, H⟩ := ok_bind H
      refine r_getI hZ fl_X1_55_1 dX1_blamed_13 ex2 ?_
      refine ok_join (Q := fun j3 : Int32 => R Z 38 [(0, .ref p0), (1, .int j3), (2, .int s.2)] [] n h 0) H (fun j3 H => ?_) (fun H => ?_)
      · obtain ⟨x10, ex10, H⟩ := ok_bind H
        refine r_iincE (w := (J 1)) hZ dX1_blamed_38 (by decide) rfl (by decide) ex10 (r_pick [0, 1, 2] (ls' := [(0, .ref p0), (1, .int j3), (2, .int x10)]) rfl ?_)
        refine r_goto (tgt := 4) hZ dX1_blamed_41 (by decide) ?_
        exact r_pick [0, 1, 2] (ls' := [(0, .ref p0), (1, .int j3), (2, .int x10)]) rfl (ih _ (ki_l H))
      · refine r_if_le (tgt := 38) hZ dX1_blamed_16 (by decide) (fun c9 => ?_) (fun c9 => ?_)
        · have H := ok_t H c9
          have H := ok_some H
          exact r_pick [0, 1, 2] (ls' := [(0, .ref p0), (1, .int s.1), (2, .int s.2)]) rfl H
        · have H := ok_f H c9
          refine r_aload_n hZ dX1_blamed_19 rfl ?_
          obtain ⟨x4, ex4, H⟩ := ok_bind H
          refine r_getR hZ fl_X1_25_1 dX1_blamed_20 ex4 ?_
          refine r_iload_n hZ dX1_blamed_23 rfl ?_
          obtain ⟨x5, ex5, H⟩ := ok_bind H
          refine r_aI hZ dX1_blamed_24 ex5 ?_
          refine r_aload_n hZ dX1_blamed_25 rfl ?_
          obtain ⟨x6, ex6, H⟩ := ok_bind H
          refine r_getI hZ fl_X1_55_1 dX1_blamed_26 ex6 ?_
          refine r_icmp_ne (tgt := 38) hZ dX1_blamed_29 (by decide) (fun c8 => ?_) (fun c8 => ?_)
          · have H := ok_f H c8
            have H := ok_some H
            exact r_pick [0, 1, 2] (ls' := [(0, .ref p0), (1, .int s.1), (2, .int s.2)]) rfl H
          · have H := ok_t H c8
            refine r_iload_n hZ dX1_blamed_32 rfl ?_
            refine r_iconst (v := (J 1)) hZ dX1_blamed_33 (by decide) ?_
            refine r_iload_n hZ dX1_blamed_34 rfl ?_
            refine r_ishl hZ dX1_blamed_35 ?_
            refine r_ior hZ dX1_blamed_36 ?_
            obtain ⟨x7, ex7, H⟩ := ok_bind H
            refine r_topi ex7 ?_
            refine r_istore_n hZ dX1_blamed_37 (by decide) (r_pick [0, 1, 2] (ls' := [(0, .ref p0), (1, .int x7), (2, .int s.2)]) rfl ?_)
            have H := ok_some H
            exact r_pick [0, 1, 2] (ls' := [(0, .ref p0), (1, .int x7), (2, .int s.2)]) rfl H
def f_X1_blamed  (h : Hp) (a0 : Nat) : Option (Int32) :=
  (some (J 0)).bind fun x1 =>
  (some (J 0)).bind fun x2 =>
  (iter (b_X1_blamed_4 h a0) FU (x1, x2)).bind fun e3 =>
  some e3
set_option maxRecDepth 100000 in
set_option maxHeartbeats 4000000 in
theorem s_X1_blamed {n : Nat} {h : Hp} {a0 : Nat}  {r : Int32} (hf : f_X1_blamed  h a0 = some r) : Ev 2 yX1_blamed cX1_blamed 3 (some .int) [.ref a0] n h (some (.int r)) n h := by
  refine Ev_of RX1 rfl (by decide) (Nat.le_of_ble_eq_true rfl) (Nat.le_refl _) (Or.inl rfl) (fun Z hZ hF hN hI => ?_)
  have H : Ok (f_X1_blamed  h a0) (fun y => y = r) := ⟨_, hf, rfl⟩
  unfold f_X1_blamed at H
  refine r_ls (ls' := [(0, .ref a0)]) rfl ?_
  refine r_iconst (v := (J 0)) hZ dX1_blamed_0 (by decide) ?_
  obtain ⟨x1, ex1, H⟩ := ok_bind H
  refine r_topi ex1 ?_
  refine r_istore_n hZ dX1_blamed_1 (by decide) (r_pick [0, 1] (ls' := [(0, .ref a0), (1, .int x1)]) rfl ?_)
  refine r_iconst (v := (J 0)) hZ dX1_blamed_2 (by decide) ?_
  obtain ⟨x2, ex2, H⟩ := ok_bind H
  refine r_topi ex2 ?_
  refine r_istore_n hZ dX1_blamed_3 (by decide) (r_pick [0, 1, 2] (ls' := [(0, .ref a0), (1, .int x1), (2, .int x2)]) rfl ?_)
  have H := ok_bindK H
  refine r_pick [0, 1, 2] (ls' := [(0, .ref a0), (1, .int x1), (2, .int x2)]) rfl (l_X1_blamed_4 hZ (fun e3 H => ?_) FU _ H)
  · refine r_iload_n hZ dX1_blamed_44 rfl ?_
    have H := ok_some H
    subst H
    exact r_iret hZ hF dX1_blamed_45
def b_X1_maybe_4 (h : Hp) (p0 : Nat) (s : Int32 × Int32) : Option ((Int32 × Int32) ⊕ ((Int32))) :=
  (gI h p0 1 1).bind fun x1 =>
  (if x1 ≤ s.2 then
    some (.inr (s.1))
  else
    (gR h p0 1 7).bind fun x2 =>
    (aI h x2 s.2).bind fun x3 =>
    ((if x3 ≤ 0 then
      some s.1
    else
      (some (s.1 ||| ((J 1) <<< (s.2 &&& 31)))).bind fun x5 =>
      some x5)).bind fun (j4 : Int32) =>
    (some (s.2 + (J 1))).bind fun x7 =>
    some (.inl (j4, x7)))
set_option maxRecDepth 100000 in
set_option maxHeartbeats 4000000 in
theorem l_X1_maybe_4 {Z : Zc} (hZ : Fx cX1_maybe RX1 3 2 0 Z) {n : Nat} {h : Hp} {p0 : Nat} {P : ((Int32)) → Prop} (hx0 : ∀ e : Int32, P (e) → R Z 33 [(1, .int e)] [] n h 0) : ∀ (m : Nat) (s : Int32 × Int32), Ok (iter (b_X1_maybe_4 h p0) m s) P → R Z 4 [(0, .ref p0), (1, .int s.1), (2, .int s.2)] [] n h 0 := by
  intro m
  induction m with
  | zero => exact fun s H => ok_iter0 H
  | succ m ih =>
    intro s H
    have H := ok_iter H
    unfold b_X1_maybe_4 at H
    refine r_iload_n hZ dX1_maybe_4 rfl ?_
    refine r_aload_n hZ dX1_maybe_5 rfl ?_
    obtain ⟨x1, ex1, H⟩ := ok_bind H
    refine r_getI hZ fl_X1_38_1 dX1_maybe_6 ex1 ?_
    refine r_icmp_ge (tgt := 33) hZ dX1_maybe_9 (by decide) (fun c8 => ?_) (fun c8 => ?_)
    · have H := ok_t H c8
      exact r_pick [1] (ls' := [(1, .int s.1)]) rfl (hx0 _ (ki_r H))
    · have H := ok_f H c8
      refine r_aload_n hZ dX1_maybe_12 rfl ?_
      obtain ⟨x2, ex2, H⟩ := ok_bind H
      refine r_getR hZ fl_X1_25_1 dX1_maybe_13 ex2 ?_
      refine r_iload_n hZ dX1_maybe_16 rfl ?_
      obtain ⟨x3, ex3, H⟩ := ok_bind H
      refine r_aI hZ dX1_maybe_17 ex3 ?_
      refine ok_join (Q := fun j4 : Int32 => R Z 27 [(0, .ref p0), (1, .int j4), (2, .int s.2)] [] n h 0) H (fun j4 H => ?_) (fun H => ?_)
      · obtain ⟨x7, ex7, H⟩ := ok_bind H
        refine r_iincE (w := (J 1)) hZ dX1_maybe_27 (by decide) rfl (by decide) ex7 (r_pick [0, 1, 2] (ls' := [(0, .ref p0), (1, .int j4), (2, .int x7)]) rfl ?_)
        refine r_goto (tgt := 4) hZ dX1_maybe_30 (by decide) ?_
        exact r_pick [0, 1, 2] (ls' := [(0, .ref p0), (1, .int j4), (2, .int x7)]) rfl (ih _ (ki_l H))
      · refine r_if_le (tgt := 27) hZ dX1_maybe_18 (by decide) (fun c6 => ?_) (fun c6 => ?_)
        · have H := ok_t H c6
          have H := ok_some H
          exact r_pick [0, 1, 2] (ls' := [(0, .ref p0), (1, .int s.1), (2, .int s.2)]) rfl H
        · have H := ok_f H c6
          refine r_iload_n hZ dX1_maybe_21 rfl ?_
          refine r_iconst (v := (J 1)) hZ dX1_maybe_22 (by decide) ?_
          refine r_iload_n hZ dX1_maybe_23 rfl ?_
          refine r_ishl hZ dX1_maybe_24 ?_
          refine r_ior hZ dX1_maybe_25 ?_
          obtain ⟨x5, ex5, H⟩ := ok_bind H
          refine r_topi ex5 ?_
          refine r_istore_n hZ dX1_maybe_26 (by decide) (r_pick [0, 1, 2] (ls' := [(0, .ref p0), (1, .int x5), (2, .int s.2)]) rfl ?_)
          have H := ok_some H
          exact r_pick [0, 1, 2] (ls' := [(0, .ref p0), (1, .int x5), (2, .int s.2)]) rfl H
def f_X1_maybe  (h : Hp) (a0 : Nat) : Option (Int32) :=
  (some (J 0)).bind fun x1 =>
  (some (J 0)).bind fun x2 =>
  (iter (b_X1_maybe_4 h a0) FU (x1, x2)).bind fun e3 =>
  some e3
set_option maxRecDepth 100000 in
set_option maxHeartbeats 4000000 in
theorem s_X1_maybe {n : Nat} {h : Hp} {a0 : Nat}  {r : Int32} (hf : f_X1_maybe  h a0 = some r) : Ev 2 yX1_maybe cX1_maybe 3 (some .int) [.ref a0] n h (some (.int r)) n h := by
  refine Ev_of RX1 rfl (by decide) (Nat.le_of_ble_eq_true rfl) (Nat.le_refl _) (Or.inl rfl) (fun Z hZ hF hN hI => ?_)
  have H : Ok (f_X1_maybe  h a0) (fun y => y = r) := ⟨_, hf, rfl⟩
  unfold f_X1_maybe at H
  refine r_ls (ls' := [(0, .ref a0)]) rfl ?_
  refine r_iconst (v := (J 0)) hZ dX1_maybe_0 (by decide) ?_
  obtain ⟨x1, ex1, H⟩ := ok_bind H
  refine r_topi ex1 ?_
  refine r_istore_n hZ dX1_maybe_1 (by decide) (r_pick [0, 1] (ls' := [(0, .ref a0), (1, .int x1)]) rfl ?_)
  refine r_iconst (v := (J 0)) hZ dX1_maybe_2 (by decide) ?_
  obtain ⟨x2, ex2, H⟩ := ok_bind H
  refine r_topi ex2 ?_
  refine r_istore_n hZ dX1_maybe_3 (by decide) (r_pick [0, 1, 2] (ls' := [(0, .ref a0), (1, .int x1), (2, .int x2)]) rfl ?_)
  have H := ok_bindK H
  refine r_pick [0, 1, 2] (ls' := [(0, .ref a0), (1, .int x1), (2, .int x2)]) rfl (l_X1_maybe_4 hZ (fun e3 H => ?_) FU _ H)
  · refine r_iload_n hZ dX1_maybe_33 rfl ?_
    have H := ok_some H
    subst H
    exact r_iret hZ hF dX1_maybe_34
def f_X10_init  (N2 n : Nat) (h : Hp) (a0 : Nat) : Option (Hp) :=
  (cap (n + 1) N2).bind fun u1 =>
  (pF (va_up h n (some (0, .inr (8, .inl fun _ => 0)))) a0 9 0 (.ref n)).bind fun h2 =>
  (cap ((n + 1) + 1) N2).bind fun u3 =>
  (pF (va_up h2 (n + 1) (some (1, .inr (8, .inr (.inl fun _ => 0))))) a0 9 1 (.ref (n + 1))).bind fun h4 =>
  (cap (((n + 1) + 1) + 1) N2).bind fun u5 =>
  (pF (va_up h4 ((n + 1) + 1) (some (1, .inr (8, .inr (.inl fun _ => 0))))) a0 9 2 (.ref ((n + 1) + 1))).bind fun h6 =>
  (cap ((((n + 1) + 1) + 1) + 1) N2).bind fun u7 =>
  (pF (va_up h6 (((n + 1) + 1) + 1) (some (2, .inr (8, .inl fun _ => 0)))) a0 9 3 (.ref (((n + 1) + 1) + 1))).bind fun h8 =>
  (pF h8 a0 9 5 (.long (K 1))).bind fun h9 =>
  (eqn ((((n + 1) + 1) + 1) + 1) N2).bind fun u10 =>
  some h9
set_option maxRecDepth 100000 in
set_option maxHeartbeats 4000000 in
theorem s_X10_init {n : Nat} {h : Hp} {a0 : Nat}  {r : Hp} {N2 : Nat} (hB : n ≤ N2 ∧ N2 ≤ BB) (hf : f_X10_init  N2 n h a0 = some r) : Ev 2 yX10_init cX10_init 1 none [.ref a0] n h none N2 r := by
  refine Ev_of RX10 rfl (by decide) (Nat.le_of_ble_eq_true rfl) hB.1 (Or.inr hB.2) (fun Z hZ hF hN hI => ?_)
  have hN := hN hB.2
  have hI := hI rfl
  have H : Ok (f_X10_init  N2 n h a0) (fun y => y = r) := ⟨_, hf, rfl⟩
  unfold f_X10_init at H
  refine r_ls (ls' := [(0, .ref a0)]) rfl ?_
  refine r_aload_n hZ dX10_init_0 rfl ?_
  refine r_objinit hZ wi_X10_3 wi_i wi_c dX10_init_1 (by decide) (Nat.le_of_ble_eq_true rfl) ?_
  refine r_aload_n hZ dX10_init_4 rfl ?_
  refine r_bipush (v := (J 8)) hZ dX10_init_5 (by decide) ?_
  obtain ⟨u1, eu1, H⟩ := ok_bind H
  refine r_newI (len := 8) hZ hN wa_int (by decide) (by decide) (by decide) dX10_init_7 (cap_le eu1) (Nat.le_refl 0) ?_
  obtain ⟨h2, eh2, H⟩ := ok_bind H
  refine r_putF hZ hI fl_X10_9_9 dX10_init_9 eh2 rfl rfl rfl ?_
  refine r_aload_n hZ dX10_init_12 rfl ?_
  refine r_bipush (v := (J 8)) hZ dX10_init_13 (by decide) ?_
  obtain ⟨u3, eu3, H⟩ := ok_bind H
  refine r_newL (len := 8) hZ hN wa_long (by decide) (by decide) (by decide) dX10_init_15 (cap_le eu3) (Nat.le_refl 0) ?_
  obtain ⟨h4, eh4, H⟩ := ok_bind H
  refine r_putF hZ hI fl_X10_15_9 dX10_init_17 eh4 rfl rfl rfl ?_
  refine r_aload_n hZ dX10_init_20 rfl ?_
  refine r_bipush (v := (J 8)) hZ dX10_init_21 (by decide) ?_
  obtain ⟨u5, eu5, H⟩ := ok_bind H
  refine r_newL (len := 8) hZ hN wa_long (by decide) (by decide) (by decide) dX10_init_23 (cap_le eu5) (Nat.le_refl 0) ?_
  obtain ⟨h6, eh6, H⟩ := ok_bind H
  refine r_putF hZ hI fl_X10_19_9 dX10_init_25 eh6 rfl rfl rfl ?_
  refine r_aload_n hZ dX10_init_28 rfl ?_
  refine r_bipush (v := (J 8)) hZ dX10_init_29 (by decide) ?_
  obtain ⟨u7, eu7, H⟩ := ok_bind H
  refine r_newZ (len := 8) hZ hN wa_boolean (by decide) (by decide) (by decide) dX10_init_31 (cap_le eu7) (Nat.le_refl 0) ?_
  obtain ⟨h8, eh8, H⟩ := ok_bind H
  refine r_putF hZ hI fl_X10_22_9 dX10_init_33 eh8 rfl rfl rfl ?_
  refine r_aload_n hZ dX10_init_36 rfl ?_
  refine r_lconst (v := (K 1)) hZ dX10_init_37 (by decide) ?_
  obtain ⟨h9, eh9, H⟩ := ok_bind H
  refine r_putf hZ fl_X10_26_9 dX10_init_38 eh9 rfl rfl ?_
  obtain ⟨u10, eu10, H⟩ := ok_bind H
  have H := ok_some H
  subst H
  have eu10 := eqn_eq eu10
  rw [eu10]
  exact r_ret hZ hF dX10_init_41
def f_X10_findNext  (h : Hp) (a0 : Nat) (a1 : Nat) (a2 : Nat) : Option (Hp) :=
  (isO h a1 0).bind fun u1 =>
  (f_X0_isRing h a1).bind fun r2 =>
  ((if r2 = 0 then
    (isO h a2 0).bind fun u4 =>
    (f_X0_isRing h a2).bind fun r5 =>
    (if r5 = 0 then
      some (J 0)
    else
      some (J 1))
  else
    some (J 1))).bind fun (j3 : Int32) =>
  (gR h a0 9 1).bind fun x8 =>
  (gI h a1 0 3).bind fun x9 =>
  (aL h x8 x9).bind fun x10 =>
  (gI h a1 0 2).bind fun x11 =>
  ((if j3 = 0 then
    some (J (-1))
  else
    some (J 1))).bind fun (j12 : Int32) =>
  (pF h a0 9 4 (.long ((x10 * (x11.toInt64)) * (j12.toInt64)))).bind fun h14 =>
  (gR h14 a0 9 2).bind fun x15 =>
  (gI h14 a1 0 3).bind fun x16 =>
  (aL h14 x15 x16).bind fun x17 =>
  (gI h14 a2 0 2).bind fun x18 =>
  (pF h14 a0 9 5 (.long (x17 * (x18.toInt64)))).bind fun h19 =>
  (gL h19 a0 9 4).bind fun x20 =>
  (gL h19 a0 9 5).bind fun x21 =>
  (f_X11_greatestDivisor (if 0 < x20 then x20 else -x20) x21).bind fun r22 =>
  ((if (lg_cmp r22 (K 1)) ≤ 0 then
    some h19
  else
    (gL h19 a0 9 4).bind fun x24 =>
    (nzL r22).bind fun u25 =>
    (pF h19 a0 9 4 (.long (x24 / r22))).bind fun h26 =>
    (gL h26 a0 9 5).bind fun x27 =>
    (nzL r22).bind fun u28 =>
    (pF h26 a0 9 5 (.long (x27 / r22))).bind fun h29 =>
    some h29)).bind fun (j23 : Hp) =>
  some j23
set_option maxRecDepth 100000 in
set_option maxHeartbeats 4000000 in
theorem s_X10_findNext {n : Nat} {h : Hp} {a0 : Nat} {a1 : Nat} {a2 : Nat}  {r : Hp} (hf : f_X10_findNext  h a0 a1 a2 = some r) : Ev 3 yX10_findNext cX10_findNext 6 none [.ref a0, .ref a1, .ref a2] n h none n r := by
  refine Ev_of RX10 rfl (by decide) (Nat.le_of_ble_eq_true rfl) (Nat.le_refl _) (Or.inl rfl) (fun Z hZ hF hN hI => ?_)
  have H : Ok (f_X10_findNext  h a0 a1 a2) (fun y => y = r) := ⟨_, hf, rfl⟩
  unfold f_X10_findNext at H
  refine r_ls (ls' := [(0, .ref a0), (1, .ref a1), (2, .ref a2)]) rfl ?_
  refine r_aload_n hZ dX10_findNext_0 rfl ?_
  obtain ⟨u1, eu1, H⟩ := ok_bind H
  obtain ⟨r2, er2, H⟩ := ok_bind H
  refine r_callV (As := []) (rest := []) (st1 := [.int r2]) (N2 := 0) hZ dX10_findNext_1 cw_X10_74_X0 rfl eu1 (s_X0_isRing er2) rfl rfl (by decide) (Nat.le_of_ble_eq_true rfl) (Nat.le_refl 0) (Nat.le_refl _) (Or.inl rfl) rfl ?_
  refine ok_join (Q := fun j3 : Int32 => R Z 19 [(0, .ref a0), (1, .ref a1), (2, .ref a2)] [.int j3] n h 0) H (fun j3 H => ?_) (fun H => ?_)
  · refine r_istore_n hZ dX10_findNext_19 (by decide) (r_pick [0, 1, 2, 3] (ls' := [(0, .ref a0), (1, .ref a1), (2, .ref a2), (3, .int j3)]) rfl ?_)
    refine r_aload_n hZ dX10_findNext_20 rfl ?_
    refine r_aload_n hZ dX10_findNext_21 rfl ?_
    obtain ⟨x8, ex8, H⟩ := ok_bind H
    refine r_getR hZ fl_X10_15_9 dX10_findNext_22 ex8 ?_
    refine r_aload_n hZ dX10_findNext_25 rfl ?_
    obtain ⟨x9, ex9, H⟩ := ok_bind H
    refine r_getI hZ fl_X10_63_0 dX10_findNext_26 ex9 ?_
    obtain ⟨x10, ex10, H⟩ := ok_bind H
    refine r_aL hZ dX10_findNext_29 ex10 ?_
    refine r_aload_n hZ dX10_findNext_30 rfl ?_
    obtain ⟨x11, ex11, H⟩ := ok_bind H
    refine r_getI hZ fl_X10_78_0 dX10_findNext_31 ex11 ?_
    refine r_i2l hZ dX10_findNext_34 ?_
    refine r_lmul hZ dX10_findNext_35 ?_
    refine r_iload_n hZ dX10_findNext_36 rfl ?_
    refine ok_join (Q := fun j12 : Int32 => R Z 45 [(0, .ref a0), (1, .ref a1), (2, .ref a2)] [.int j12, .long (x10 * (x11.toInt64)), .ref a0] n h 0) H (fun j12 H => ?_) (fun H => ?_)
    · refine r_i2l hZ dX10_findNext_45 ?_
      refine r_lmul hZ dX10_findNext_46 ?_
      obtain ⟨h14, eh14, H⟩ := ok_bind H
      refine r_putf hZ fl_X10_71_9 dX10_findNext_47 eh14 rfl rfl ?_
      refine r_aload_n hZ dX10_findNext_50 rfl ?_
      refine r_aload_n hZ dX10_findNext_51 rfl ?_
      obtain ⟨x15, ex15, H⟩ := ok_bind H
      refine r_getR hZ fl_X10_19_9 dX10_findNext_52 ex15 ?_
      refine r_aload_n hZ dX10_findNext_55 rfl ?_
      obtain ⟨x16, ex16, H⟩ := ok_bind H
      refine r_getI hZ fl_X10_63_0 dX10_findNext_56 ex16 ?_
      obtain ⟨x17, ex17, H⟩ := ok_bind H
      refine r_aL hZ dX10_findNext_59 ex17 ?_
      refine r_aload_n hZ dX10_findNext_60 rfl ?_
      obtain ⟨x18, ex18, H⟩ := ok_bind H
      refine r_getI hZ fl_X10_78_0 dX10_findNext_61 ex18 ?_
      refine r_i2l hZ dX10_findNext_64 ?_
      refine r_lmul hZ dX10_findNext_65 ?_
      obtain ⟨h19, eh19, H⟩ := ok_bind H
      refine r_putf hZ fl_X10_26_9 dX10_findNext_66 eh19 rfl rfl ?_
      refine r_aload_n hZ dX10_findNext_69 rfl ?_
      obtain ⟨x20, ex20, H⟩ := ok_bind H
      refine r_getL hZ fl_X10_71_9 dX10_findNext_70 ex20 ?_
      refine r_absL hZ dX10_findNext_73 wM_X10_81 (by decide) (Nat.le_of_ble_eq_true rfl) (Nat.le_refl 0) ?_
      refine r_aload_n hZ dX10_findNext_76 rfl ?_
      obtain ⟨x21, ex21, H⟩ := ok_bind H
      refine r_getL hZ fl_X10_26_9 dX10_findNext_77 ex21 ?_
      obtain ⟨r22, er22, H⟩ := ok_bind H
      refine r_callSN (As := [.long (if 0 < x20 then x20 else -x20), .long x21]) (rest := []) (st1 := [.long r22]) (N2 := 0) hZ dX10_findNext_80 cw_X10_87 (s_X11_greatestDivisor er22) rfl rfl (by decide) (Nat.le_of_ble_eq_true rfl) (Nat.le_refl 0) (Nat.le_refl _) (Or.inl rfl) rfl ?_
      refine r_lstore hZ dX10_findNext_83 (by decide) (r_pick [0, 4] (ls' := [(0, .ref a0), (4, .long r22)]) rfl ?_)
      refine r_lload hZ dX10_findNext_85 rfl ?_
      refine r_lconst (v := (K 1)) hZ dX10_findNext_87 (by decide) ?_
      refine r_lcmp hZ dX10_findNext_88 ?_
      refine ok_join (Q := fun j23 : Hp => R Z 114 [] [] n j23 0) H (fun j23 H => ?_) (fun H => ?_)
      · have H := ok_some H
        subst H
        exact r_ret hZ hF dX10_findNext_114
      · refine r_if_le (tgt := 114) hZ dX10_findNext_89 (by decide) (fun c30 => ?_) (fun c30 => ?_)
        · have H := ok_t H c30
          have H := ok_some H
          exact r_pick [] (ls' := []) rfl H
        · have H := ok_f H c30
          refine r_aload_n hZ dX10_findNext_92 rfl ?_
          refine r_dup_a hZ dX10_findNext_93 ?_
          obtain ⟨x24, ex24, H⟩ := ok_bind H
          refine r_getL hZ fl_X10_71_9 dX10_findNext_94 ex24 ?_
          refine r_lload hZ dX10_findNext_97 rfl ?_
          obtain ⟨u25, eu25, H⟩ := ok_bind H
          refine r_ldiv hZ dX10_findNext_99 (nzL_ne eu25) ?_
          obtain ⟨h26, eh26, H⟩ := ok_bind H
          refine r_putf hZ fl_X10_71_9 dX10_findNext_100 eh26 rfl rfl ?_
          refine r_aload_n hZ dX10_findNext_103 rfl ?_
          refine r_dup_a hZ dX10_findNext_104 ?_
          obtain ⟨x27, ex27, H⟩ := ok_bind H
          refine r_getL hZ fl_X10_26_9 dX10_findNext_105 ex27 ?_
          refine r_lload hZ dX10_findNext_108 rfl ?_
          obtain ⟨u28, eu28, H⟩ := ok_bind H
          refine r_ldiv hZ dX10_findNext_110 (nzL_ne eu28) ?_
          obtain ⟨h29, eh29, H⟩ := ok_bind H
          refine r_putf hZ fl_X10_26_9 dX10_findNext_111 eh29 rfl rfl ?_
          have H := ok_some H
          exact r_pick [] (ls' := []) rfl H
    · refine r_if_eq (tgt := 44) hZ dX10_findNext_37 (by decide) (fun c13 => ?_) (fun c13 => ?_)
      · have H := ok_t H c13
        refine r_iconst (v := (J (-1))) hZ dX10_findNext_44 (by decide) ?_
        have H := ok_some H
        exact r_pick [0, 1, 2] (ls' := [(0, .ref a0), (1, .ref a1), (2, .ref a2)]) rfl H
      · have H := ok_f H c13
        refine r_iconst (v := (J 1)) hZ dX10_findNext_40 (by decide) ?_
        refine r_goto (tgt := 45) hZ dX10_findNext_41 (by decide) ?_
        have H := ok_some H
        exact r_pick [0, 1, 2] (ls' := [(0, .ref a0), (1, .ref a1), (2, .ref a2)]) rfl H
  · refine r_if_ne (tgt := 14) hZ dX10_findNext_4 (by decide) (fun c7 => ?_) (fun c7 => ?_)
    · have H := ok_f H c7
      refine r_iconst (v := (J 1)) hZ dX10_findNext_14 (by decide) ?_
      refine r_goto (tgt := 19) hZ dX10_findNext_15 (by decide) ?_
      have H := ok_some H
      exact r_pick [0, 1, 2] (ls' := [(0, .ref a0), (1, .ref a1), (2, .ref a2)]) rfl H
    · have H := ok_t H c7
      refine r_aload_n hZ dX10_findNext_7 rfl ?_
      obtain ⟨u4, eu4, H⟩ := ok_bind H
      obtain ⟨r5, er5, H⟩ := ok_bind H
      refine r_callV (As := []) (rest := []) (st1 := [.int r5]) (N2 := 0) hZ dX10_findNext_8 cw_X10_74_X0 rfl eu4 (s_X0_isRing er5) rfl rfl (by decide) (Nat.le_of_ble_eq_true rfl) (Nat.le_refl 0) (Nat.le_refl _) (Or.inl rfl) rfl ?_
      refine r_if_eq (tgt := 18) hZ dX10_findNext_11 (by decide) (fun c6 => ?_) (fun c6 => ?_)
      · have H := ok_t H c6
        refine r_iconst (v := (J 0)) hZ dX10_findNext_18 (by decide) ?_
        have H := ok_some H
        exact r_pick [0, 1, 2] (ls' := [(0, .ref a0), (1, .ref a1), (2, .ref a2)]) rfl H
      · have H := ok_f H c6
        refine r_iconst (v := (J 1)) hZ dX10_findNext_14 (by decide) ?_
        refine r_goto (tgt := 19) hZ dX10_findNext_15 (by decide) ?_
        have H := ok_some H
        exact r_pick [0, 1, 2] (ls' := [(0, .ref a0), (1, .ref a1), (2, .ref a2)]) rfl H
def f_X10_checkMesh  (h : Hp) (a0 : Nat) (a1 : Nat) (a2 : Nat) : Option (Hp) :=
  (isO h a0 9).bind fun u1 =>
  (f_X10_findNext h a0 a1 a2).bind fun r2 =>
  (gR r2 a0 9 1).bind fun x3 =>
  (gI r2 a2 0 3).bind fun x4 =>
  (aL r2 x3 x4).bind fun x5 =>
  (gL r2 a0 9 4).bind fun x6 =>
  ((if (lg_cmp x5 x6) = 0 then
    (gR r2 a0 9 2).bind fun x13 =>
    (gI r2 a2 0 3).bind fun x14 =>
    (aL r2 x13 x14).bind fun x15 =>
    (gL r2 a0 9 5).bind fun x16 =>
    (if (lg_cmp x15 x16) = 0 then
      some r2
    else
      (gR r2 a0 9 3).bind fun x17 =>
      (gR r2 a0 9 0).bind fun x18 =>
      (gI r2 a2 0 3).bind fun x19 =>
      (aI r2 x18 x19).bind fun x20 =>
      (sZ r2 x17 x20 (J 1)).bind fun h21 =>
      some h21)
  else
    (gR r2 a0 9 3).bind fun x8 =>
    (gR r2 a0 9 0).bind fun x9 =>
    (gI r2 a2 0 3).bind fun x10 =>
    (aI r2 x9 x10).bind fun x11 =>
    (sZ r2 x8 x11 (J 1)).bind fun h12 =>
    some h12)).bind fun (j7 : Hp) =>
  some j7
set_option maxRecDepth 100000 in
set_option maxHeartbeats 4000000 in
theorem s_X10_checkMesh {n : Nat} {h : Hp} {a0 : Nat} {a1 : Nat} {a2 : Nat}  {r : Hp} (hf : f_X10_checkMesh  h a0 a1 a2 = some r) : Ev 4 yX10_checkMesh cX10_checkMesh 3 none [.ref a0, .ref a1, .ref a2] n h none n r := by
  refine Ev_of RX10 rfl (by decide) (Nat.le_of_ble_eq_true rfl) (Nat.le_refl _) (Or.inl rfl) (fun Z hZ hF hN hI => ?_)
  have H : Ok (f_X10_checkMesh  h a0 a1 a2) (fun y => y = r) := ⟨_, hf, rfl⟩
  unfold f_X10_checkMesh at H
  refine r_ls (ls' := [(0, .ref a0), (1, .ref a1), (2, .ref a2)]) rfl ?_
  refine r_aload_n hZ dX10_checkMesh_0 rfl ?_
  refine r_aload_n hZ dX10_checkMesh_1 rfl ?_
  refine r_aload_n hZ dX10_checkMesh_2 rfl ?_
  obtain ⟨u1, eu1, H⟩ := ok_bind H
  obtain ⟨r2, er2, H⟩ := ok_bind H
  refine r_callV (As := [.ref a1, .ref a2]) (rest := []) (st1 := []) (N2 := 0) hZ dX10_checkMesh_3 cw_X10_68_X10 rfl eu1 (s_X10_findNext er2) rfl rfl (by decide) (Nat.le_of_ble_eq_true rfl) (Nat.le_refl 0) (Nat.le_refl _) (Or.inl rfl) rfl ?_
  refine r_aload_n hZ dX10_checkMesh_6 rfl ?_
  obtain ⟨x3, ex3, H⟩ := ok_bind H
  refine r_getR hZ fl_X10_15_9 dX10_checkMesh_7 ex3 ?_
  refine r_aload_n hZ dX10_checkMesh_10 rfl ?_
  obtain ⟨x4, ex4, H⟩ := ok_bind H
  refine r_getI hZ fl_X10_63_0 dX10_checkMesh_11 ex4 ?_
  obtain ⟨x5, ex5, H⟩ := ok_bind H
  refine r_aL hZ dX10_checkMesh_14 ex5 ?_
  refine r_aload_n hZ dX10_checkMesh_15 rfl ?_
  obtain ⟨x6, ex6, H⟩ := ok_bind H
  refine r_getL hZ fl_X10_71_9 dX10_checkMesh_16 ex6 ?_
  refine r_lcmp hZ dX10_checkMesh_19 ?_
  refine ok_join (Q := fun j7 : Hp => R Z 55 [] [] n j7 0) H (fun j7 H => ?_) (fun H => ?_)
  · have H := ok_some H
    subst H
    exact r_ret hZ hF dX10_checkMesh_55
  · refine r_if_ne (tgt := 40) hZ dX10_checkMesh_20 (by decide) (fun c23 => ?_) (fun c23 => ?_)
    · have H := ok_f H c23
      refine r_aload_n hZ dX10_checkMesh_40 rfl ?_
      obtain ⟨x8, ex8, H⟩ := ok_bind H
      refine r_getR hZ fl_X10_22_9 dX10_checkMesh_41 ex8 ?_
      refine r_aload_n hZ dX10_checkMesh_44 rfl ?_
      obtain ⟨x9, ex9, H⟩ := ok_bind H
      refine r_getR hZ fl_X10_9_9 dX10_checkMesh_45 ex9 ?_
      refine r_aload_n hZ dX10_checkMesh_48 rfl ?_
      obtain ⟨x10, ex10, H⟩ := ok_bind H
      refine r_getI hZ fl_X10_63_0 dX10_checkMesh_49 ex10 ?_
      obtain ⟨x11, ex11, H⟩ := ok_bind H
      refine r_aI hZ dX10_checkMesh_52 ex11 ?_
      refine r_iconst (v := (J 1)) hZ dX10_checkMesh_53 (by decide) ?_
      obtain ⟨h12, eh12, H⟩ := ok_bind H
      refine r_sZ hZ dX10_checkMesh_54 eh12 ?_
      have H := ok_some H
      exact r_pick [] (ls' := []) rfl H
    · have H := ok_t H c23
      refine r_aload_n hZ dX10_checkMesh_23 rfl ?_
      obtain ⟨x13, ex13, H⟩ := ok_bind H
      refine r_getR hZ fl_X10_19_9 dX10_checkMesh_24 ex13 ?_
      refine r_aload_n hZ dX10_checkMesh_27 rfl ?_
      obtain ⟨x14, ex14, H⟩ := ok_bind H
      refine r_getI hZ fl_X10_63_0 dX10_checkMesh_28 ex14 ?_
      obtain ⟨x15, ex15, H⟩ := ok_bind H
      refine r_aL hZ dX10_checkMesh_31 ex15 ?_
      refine r_aload_n hZ dX10_checkMesh_32 rfl ?_
      obtain ⟨x16, ex16, H⟩ := ok_bind H
      refine r_getL hZ fl_X10_26_9 dX10_checkMesh_33 ex16 ?_
      refine r_lcmp hZ dX10_checkMesh_36 ?_
      refine r_if_eq (tgt := 55) hZ dX10_checkMesh_37 (by decide) (fun c22 => ?_) (fun c22 => ?_)
      · have H := ok_t H c22
        have H := ok_some H
        exact r_pick [] (ls' := []) rfl H
      · have H := ok_f H c22
        refine r_aload_n hZ dX10_checkMesh_40 rfl ?_
        obtain ⟨x17, ex17, H⟩ := ok_bind H
        refine r_getR hZ fl_X10_22_9 dX10_checkMesh_41 ex17 ?_
        refine r_aload_n hZ dX10_checkMesh_44 rfl ?_
        obtain ⟨x18, ex18, H⟩ := ok_bind H
        refine r_getR hZ fl_X10_9_9 dX10_checkMesh_45 ex18 ?_
        refine r_aload_n hZ dX10_checkMesh_48 rfl ?_
        obtain ⟨x19, ex19, H⟩ := ok_bind H
        refine r_getI hZ fl_X10_63_0 dX10_checkMesh_49 ex19 ?_
        obtain ⟨x20, ex20, H⟩ := ok_bind H
        refine r_aI hZ dX10_checkMesh_52 ex20 ?_
        refine r_iconst (v := (J 1)) hZ dX10_checkMesh_53 (by decide) ?_
        obtain ⟨h21, eh21, H⟩ := ok_bind H
        refine r_sZ hZ dX10_checkMesh_54 eh21 ?_
        have H := ok_some H
        exact r_pick [] (ls' := []) rfl H
def f_X10_drive  (h : Hp) (a0 : Nat) (a1 : Nat) (a2 : Nat) : Option (Hp) :=
  (gR h a0 9 0).bind fun x1 =>
  (gI h a1 0 3).bind fun x2 =>
  (aI h x1 x2).bind fun x3 =>
  (if x3 < 0 then
    some h
  else
    (gR h a0 9 0).bind fun x4 =>
    (gI h a2 0 3).bind fun x5 =>
    (aI h x4 x5).bind fun x6 =>
    (if x6 < 0 then
      (isO h a0 9).bind fun u7 =>
      (f_X10_findNext h a0 a1 a2).bind fun r8 =>
      (gR r8 a0 9 0).bind fun x9 =>
      (gI r8 a2 0 3).bind fun x10 =>
      (gR r8 a0 9 0).bind fun x11 =>
      (gI r8 a1 0 3).bind fun x12 =>
      (aI r8 x11 x12).bind fun x13 =>
      (sI r8 x9 x10 x13).bind fun h14 =>
      (gR h14 a0 9 1).bind fun x15 =>
      (gI h14 a2 0 3).bind fun x16 =>
      (gL h14 a0 9 4).bind fun x17 =>
      (sL h14 x15 x16 x17).bind fun h18 =>
      (gR h18 a0 9 2).bind fun x19 =>
      (gI h18 a2 0 3).bind fun x20 =>
      (gL h18 a0 9 5).bind fun x21 =>
      (sL h18 x19 x20 x21).bind fun h22 =>
      some h22
    else
      some h))
set_option maxRecDepth 100000 in
set_option maxHeartbeats 4000000 in
theorem s_X10_drive {n : Nat} {h : Hp} {a0 : Nat} {a1 : Nat} {a2 : Nat}  {r : Hp} (hf : f_X10_drive  h a0 a1 a2 = some r) : Ev 4 yX10_drive cX10_drive 3 none [.ref a0, .ref a1, .ref a2] n h none n r := by
  refine Ev_of RX10 rfl (by decide) (Nat.le_of_ble_eq_true rfl) (Nat.le_refl _) (Or.inl rfl) (fun Z hZ hF hN hI => ?_)
  have H : Ok (f_X10_drive  h a0 a1 a2) (fun y => y = r) := ⟨_, hf, rfl⟩
  unfold f_X10_drive at H
  refine r_ls (ls' := [(0, .ref a0), (1, .ref a1), (2, .ref a2)]) rfl ?_
  refine r_aload_n hZ dX10_drive_0 rfl ?_
  obtain ⟨x1, ex1, H⟩ := ok_bind H
  refine r_getR hZ fl_X10_9_9 dX10_drive_1 ex1 ?_
  refine r_aload_n hZ dX10_drive_4 rfl ?_
  obtain ⟨x2, ex2, H⟩ := ok_bind H
  refine r_getI hZ fl_X10_63_0 dX10_drive_5 ex2 ?_
  obtain ⟨x3, ex3, H⟩ := ok_bind H
  refine r_aI hZ dX10_drive_8 ex3 ?_
  refine r_if_lt (tgt := 24) hZ dX10_drive_9 (by decide) (fun c24 => ?_) (fun c24 => ?_)
  · have H := ok_t H c24
    have H := ok_some H
    subst H
    exact r_ret hZ hF dX10_drive_24
  · have H := ok_f H c24
    refine r_aload_n hZ dX10_drive_12 rfl ?_
    obtain ⟨x4, ex4, H⟩ := ok_bind H
    refine r_getR hZ fl_X10_9_9 dX10_drive_13 ex4 ?_
    refine r_aload_n hZ dX10_drive_16 rfl ?_
    obtain ⟨x5, ex5, H⟩ := ok_bind H
    refine r_getI hZ fl_X10_63_0 dX10_drive_17 ex5 ?_
    obtain ⟨x6, ex6, H⟩ := ok_bind H
    refine r_aI hZ dX10_drive_20 ex6 ?_
    refine r_if_lt (tgt := 25) hZ dX10_drive_21 (by decide) (fun c23 => ?_) (fun c23 => ?_)
    · have H := ok_t H c23
      refine r_aload_n hZ dX10_drive_25 rfl ?_
      refine r_aload_n hZ dX10_drive_26 rfl ?_
      refine r_aload_n hZ dX10_drive_27 rfl ?_
      obtain ⟨u7, eu7, H⟩ := ok_bind H
      obtain ⟨r8, er8, H⟩ := ok_bind H
      refine r_callV (As := [.ref a1, .ref a2]) (rest := []) (st1 := []) (N2 := 0) hZ dX10_drive_28 cw_X10_68_X10 rfl eu7 (s_X10_findNext er8) rfl rfl (by decide) (Nat.le_of_ble_eq_true rfl) (Nat.le_refl 0) (Nat.le_refl _) (Or.inl rfl) rfl ?_
      refine r_aload_n hZ dX10_drive_31 rfl ?_
      obtain ⟨x9, ex9, H⟩ := ok_bind H
      refine r_getR hZ fl_X10_9_9 dX10_drive_32 ex9 ?_
      refine r_aload_n hZ dX10_drive_35 rfl ?_
      obtain ⟨x10, ex10, H⟩ := ok_bind H
      refine r_getI hZ fl_X10_63_0 dX10_drive_36 ex10 ?_
      refine r_aload_n hZ dX10_drive_39 rfl ?_
      obtain ⟨x11, ex11, H⟩ := ok_bind H
      refine r_getR hZ fl_X10_9_9 dX10_drive_40 ex11 ?_
      refine r_aload_n hZ dX10_drive_43 rfl ?_
      obtain ⟨x12, ex12, H⟩ := ok_bind H
      refine r_getI hZ fl_X10_63_0 dX10_drive_44 ex12 ?_
      obtain ⟨x13, ex13, H⟩ := ok_bind H
      refine r_aI hZ dX10_drive_47 ex13 ?_
      obtain ⟨h14, eh14, H⟩ := ok_bind H
      refine r_sI hZ dX10_drive_48 eh14 ?_
      refine r_aload_n hZ dX10_drive_49 rfl ?_
      obtain ⟨x15, ex15, H⟩ := ok_bind H
      refine r_getR hZ fl_X10_15_9 dX10_drive_50 ex15 ?_
      refine r_aload_n hZ dX10_drive_53 rfl ?_
      obtain ⟨x16, ex16, H⟩ := ok_bind H
      refine r_getI hZ fl_X10_63_0 dX10_drive_54 ex16 ?_
      refine r_aload_n hZ dX10_drive_57 rfl ?_
      obtain ⟨x17, ex17, H⟩ := ok_bind H
      refine r_getL hZ fl_X10_71_9 dX10_drive_58 ex17 ?_
      obtain ⟨h18, eh18, H⟩ := ok_bind H
      refine r_sL hZ dX10_drive_61 eh18 ?_
      refine r_aload_n hZ dX10_drive_62 rfl ?_
      obtain ⟨x19, ex19, H⟩ := ok_bind H
      refine r_getR hZ fl_X10_19_9 dX10_drive_63 ex19 ?_
      refine r_aload_n hZ dX10_drive_66 rfl ?_
      obtain ⟨x20, ex20, H⟩ := ok_bind H
      refine r_getI hZ fl_X10_63_0 dX10_drive_67 ex20 ?_
      refine r_aload_n hZ dX10_drive_70 rfl ?_
      obtain ⟨x21, ex21, H⟩ := ok_bind H
      refine r_getL hZ fl_X10_26_9 dX10_drive_71 ex21 ?_
      obtain ⟨h22, eh22, H⟩ := ok_bind H
      refine r_sL hZ dX10_drive_74 eh22 ?_
      have H := ok_some H
      subst H
      exact r_ret hZ hF dX10_drive_75
    · have H := ok_f H c23
      have H := ok_some H
      subst H
      exact r_ret hZ hF dX10_drive_24
def b_X10_turnAllFrom_32 (p0 : Nat) (p2 : Nat) (p3 : Int32) (s : Int32 × Hp) : Option ((Int32 × Hp) ⊕ ((Hp))) :=
  (gI s.2 p2 3 5).bind fun x1 =>
  (if x1 ≤ s.1 then
    some (.inr (s.2))
  else
    (gR s.2 p2 3 0).bind fun x2 =>
    (gR s.2 p2 3 2).bind fun x3 =>
    (aI s.2 x3 s.1).bind fun x4 =>
    (aR s.2 x2 3 x4).bind fun x5 =>
    (gR s.2 p2 3 0).bind fun x6 =>
    (gR s.2 p2 3 3).bind fun x7 =>
    (aI s.2 x7 s.1).bind fun x8 =>
    (aR s.2 x6 3 x8).bind fun x9 =>
    (isO s.2 p0 9).bind fun u10 =>
    (f_X10_drive s.2 p0 x5 x9).bind fun r11 =>
    (isO r11 p0 9).bind fun u12 =>
    (f_X10_drive r11 p0 x9 x5).bind fun r13 =>
    (some (s.1 + (J 1))).bind fun x14 =>
    some (.inl (x14, r13)))
set_option maxRecDepth 100000 in
set_option maxHeartbeats 4000000 in
theorem l_X10_turnAllFrom_32 {Z : Zc} (hZ : Fx cX10_turnAllFrom RX10 7 5 0 Z) {n : Nat} {p0 : Nat} {p2 : Nat} {p3 : Int32} {P : ((Hp)) → Prop} (hx0 : ∀ e : Hp, P (e) → R Z 91 [(0, .ref p0), (2, .ref p2), (3, .int p3)] [] n e 0) : ∀ (m : Nat) (s : Int32 × Hp), Ok (iter (b_X10_turnAllFrom_32 p0 p2 p3) m s) P → R Z 32 [(0, .ref p0), (2, .ref p2), (3, .int p3), (4, .int s.1)] [] n s.2 0 := by
  intro m
  induction m with
  | zero => exact fun s H => ok_iter0 H
  | succ m ih =>
    intro s H
    have H := ok_iter H
    unfold b_X10_turnAllFrom_32 at H
    refine r_iload hZ dX10_turnAllFrom_32 rfl ?_
    refine r_aload_n hZ dX10_turnAllFrom_34 rfl ?_
    obtain ⟨x1, ex1, H⟩ := ok_bind H
    refine r_getI hZ fl_X10_40_3 dX10_turnAllFrom_35 ex1 ?_
    refine r_icmp_ge (tgt := 91) hZ dX10_turnAllFrom_38 (by decide) (fun c15 => ?_) (fun c15 => ?_)
    · have H := ok_t H c15
      exact r_pick [0, 2, 3] (ls' := [(0, .ref p0), (2, .ref p2), (3, .int p3)]) rfl (hx0 _ (ki_r H))
    · have H := ok_f H c15
      refine r_aload_n hZ dX10_turnAllFrom_41 rfl ?_
      obtain ⟨x2, ex2, H⟩ := ok_bind H
      refine r_getR hZ fl_X10_46_3 dX10_turnAllFrom_42 ex2 ?_
      refine r_aload_n hZ dX10_turnAllFrom_45 rfl ?_
      obtain ⟨x3, ex3, H⟩ := ok_bind H
      refine r_getR hZ fl_X10_50_3 dX10_turnAllFrom_46 ex3 ?_
      refine r_iload hZ dX10_turnAllFrom_49 rfl ?_
      obtain ⟨x4, ex4, H⟩ := ok_bind H
      refine r_aI hZ dX10_turnAllFrom_51 ex4 ?_
      obtain ⟨x5, ex5, H⟩ := ok_bind H
      refine r_aR hZ dX10_turnAllFrom_52 ex5 (fun _ => rfl) (Or.inl ⟨_, rfl⟩) ?_
      refine r_astore hZ dX10_turnAllFrom_53 (by decide) (r_pick [0, 2, 3, 4, 5] (ls' := [(0, .ref p0), (2, .ref p2), (3, .int p3), (4, .int s.1), (5, .ref x5)]) rfl ?_)
      refine r_aload_n hZ dX10_turnAllFrom_55 rfl ?_
      obtain ⟨x6, ex6, H⟩ := ok_bind H
      refine r_getR hZ fl_X10_46_3 dX10_turnAllFrom_56 ex6 ?_
      refine r_aload_n hZ dX10_turnAllFrom_59 rfl ?_
      obtain ⟨x7, ex7, H⟩ := ok_bind H
      refine r_getR hZ fl_X10_53_3 dX10_turnAllFrom_60 ex7 ?_
      refine r_iload hZ dX10_turnAllFrom_63 rfl ?_
      obtain ⟨x8, ex8, H⟩ := ok_bind H
      refine r_aI hZ dX10_turnAllFrom_65 ex8 ?_
      obtain ⟨x9, ex9, H⟩ := ok_bind H
      refine r_aR hZ dX10_turnAllFrom_66 ex9 (fun _ => rfl) (Or.inl ⟨_, rfl⟩) ?_
      refine r_astore hZ dX10_turnAllFrom_67 (by decide) (r_pick [0, 2, 3, 4, 5, 6] (ls' := [(0, .ref p0), (2, .ref p2), (3, .int p3), (4, .int s.1), (5, .ref x5), (6, .ref x9)]) rfl ?_)
      refine r_aload_n hZ dX10_turnAllFrom_69 rfl ?_
      refine r_aload hZ dX10_turnAllFrom_70 rfl ?_
      refine r_aload hZ dX10_turnAllFrom_72 rfl ?_
      obtain ⟨u10, eu10, H⟩ := ok_bind H
      obtain ⟨r11, er11, H⟩ := ok_bind H
      refine r_callV (As := [.ref x5, .ref x9]) (rest := []) (st1 := []) (N2 := 0) hZ dX10_turnAllFrom_74 cw_X10_60_X10 rfl eu10 (s_X10_drive er11) rfl rfl (by decide) (Nat.le_of_ble_eq_true rfl) (Nat.le_refl 0) (Nat.le_refl _) (Or.inl rfl) rfl ?_
      refine r_aload_n hZ dX10_turnAllFrom_77 rfl ?_
      refine r_aload hZ dX10_turnAllFrom_78 rfl ?_
      refine r_aload hZ dX10_turnAllFrom_80 rfl ?_
      obtain ⟨u12, eu12, H⟩ := ok_bind H
      obtain ⟨r13, er13, H⟩ := ok_bind H
      refine r_callV (As := [.ref x9, .ref x5]) (rest := []) (st1 := []) (N2 := 0) hZ dX10_turnAllFrom_82 cw_X10_60_X10 rfl eu12 (s_X10_drive er13) rfl rfl (by decide) (Nat.le_of_ble_eq_true rfl) (Nat.le_refl 0) (Nat.le_refl _) (Or.inl rfl) rfl ?_
      obtain ⟨x14, ex14, H⟩ := ok_bind H
      refine r_iincE (w := (J 1)) hZ dX10_turnAllFrom_85 (by decide) rfl (by decide) ex14 (r_pick [0, 2, 3, 4] (ls' := [(0, .ref p0), (2, .ref p2), (3, .int p3), (4, .int x14)]) rfl ?_)
      refine r_goto (tgt := 32) hZ dX10_turnAllFrom_88 (by decide) ?_
      exact r_pick [0, 2, 3, 4] (ls' := [(0, .ref p0), (2, .ref p2), (3, .int p3), (4, .int x14)]) rfl (ih _ (ki_l H))
def b_X10_turnAllFrom_23 (p0 : Nat) (p2 : Nat) (s : Int32 × Hp) : Option ((Int32 × Hp) ⊕ ((Hp))) :=
  (if (J 8) ≤ s.1 then
    some (.inr (s.2))
  else
    (some (J 0)).bind fun x1 =>
    (iter (b_X10_turnAllFrom_32 p0 p2 s.1) FU (x1, s.2)).bind fun e2 =>
    (some (s.1 + (J 1))).bind fun x3 =>
    some (.inl (x3, e2)))
set_option maxRecDepth 100000 in
set_option maxHeartbeats 4000000 in
theorem l_X10_turnAllFrom_23 {Z : Zc} (hZ : Fx cX10_turnAllFrom RX10 7 5 0 Z) {n : Nat} {p0 : Nat} {p2 : Nat} {P : ((Hp)) → Prop} (hx0 : ∀ e : Hp, P (e) → R Z 97 [] [] n e 0) : ∀ (m : Nat) (s : Int32 × Hp), Ok (iter (b_X10_turnAllFrom_23 p0 p2) m s) P → R Z 23 [(0, .ref p0), (2, .ref p2), (3, .int s.1)] [] n s.2 0 := by
  intro m
  induction m with
  | zero => exact fun s H => ok_iter0 H
  | succ m ih =>
    intro s H
    have H := ok_iter H
    unfold b_X10_turnAllFrom_23 at H
    refine r_iload_n hZ dX10_turnAllFrom_23 rfl ?_
    refine r_bipush (v := (J 8)) hZ dX10_turnAllFrom_24 (by decide) ?_
    refine r_icmp_ge (tgt := 97) hZ dX10_turnAllFrom_26 (by decide) (fun c4 => ?_) (fun c4 => ?_)
    · have H := ok_t H c4
      exact r_pick [] (ls' := []) rfl (hx0 _ (ki_r H))
    · have H := ok_f H c4
      refine r_iconst (v := (J 0)) hZ dX10_turnAllFrom_29 (by decide) ?_
      obtain ⟨x1, ex1, H⟩ := ok_bind H
      refine r_topi ex1 ?_
      refine r_istore hZ dX10_turnAllFrom_30 (by decide) (r_pick [0, 2, 3, 4] (ls' := [(0, .ref p0), (2, .ref p2), (3, .int s.1), (4, .int x1)]) rfl ?_)
      have H := ok_bindK H
      refine r_pick [0, 2, 3, 4] (ls' := [(0, .ref p0), (2, .ref p2), (3, .int s.1), (4, .int x1)]) rfl (l_X10_turnAllFrom_32 hZ (fun e2 H => ?_) FU _ H)
      · obtain ⟨x3, ex3, H⟩ := ok_bind H
        refine r_iincE (w := (J 1)) hZ dX10_turnAllFrom_91 (by decide) rfl (by decide) ex3 (r_pick [0, 2, 3] (ls' := [(0, .ref p0), (2, .ref p2), (3, .int x3)]) rfl ?_)
        refine r_goto (tgt := 23) hZ dX10_turnAllFrom_94 (by decide) ?_
        exact r_pick [0, 2, 3] (ls' := [(0, .ref p0), (2, .ref p2), (3, .int x3)]) rfl (ih _ (ki_l H))
def f_X10_turnAllFrom  (h : Hp) (a0 : Nat) (a1 : Int32) (a2 : Nat) : Option (Hp) :=
  (gR h a0 9 0).bind fun x1 =>
  (sI h x1 a1 a1).bind fun h2 =>
  (gR h2 a0 9 1).bind fun x3 =>
  (sL h2 x3 a1 (K 1)).bind fun h4 =>
  (gR h4 a0 9 2).bind fun x5 =>
  (sL h4 x5 a1 (K 1)).bind fun h6 =>
  (some (J 1)).bind fun x7 =>
  (iter (b_X10_turnAllFrom_23 a0 a2) FU (x7, h6)).bind fun e8 =>
  some e8
set_option maxRecDepth 100000 in
set_option maxHeartbeats 4000000 in
theorem s_X10_turnAllFrom {n : Nat} {h : Hp} {a0 : Nat} {a1 : Int32} {a2 : Nat}  {r : Hp} (hf : f_X10_turnAllFrom  h a0 a1 a2 = some r) : Ev 5 yX10_turnAllFrom cX10_turnAllFrom 7 none [.ref a0, .int a1, .ref a2] n h none n r := by
  refine Ev_of RX10 rfl (by decide) (Nat.le_of_ble_eq_true rfl) (Nat.le_refl _) (Or.inl rfl) (fun Z hZ hF hN hI => ?_)
  have H : Ok (f_X10_turnAllFrom  h a0 a1 a2) (fun y => y = r) := ⟨_, hf, rfl⟩
  unfold f_X10_turnAllFrom at H
  refine r_ls (ls' := [(0, .ref a0), (1, .int a1), (2, .ref a2)]) rfl ?_
  refine r_aload_n hZ dX10_turnAllFrom_0 rfl ?_
  obtain ⟨x1, ex1, H⟩ := ok_bind H
  refine r_getR hZ fl_X10_9_9 dX10_turnAllFrom_1 ex1 ?_
  refine r_iload_n hZ dX10_turnAllFrom_4 rfl ?_
  refine r_iload_n hZ dX10_turnAllFrom_5 rfl ?_
  obtain ⟨h2, eh2, H⟩ := ok_bind H
  refine r_sI hZ dX10_turnAllFrom_6 eh2 ?_
  refine r_aload_n hZ dX10_turnAllFrom_7 rfl ?_
  obtain ⟨x3, ex3, H⟩ := ok_bind H
  refine r_getR hZ fl_X10_15_9 dX10_turnAllFrom_8 ex3 ?_
  refine r_iload_n hZ dX10_turnAllFrom_11 rfl ?_
  refine r_lconst (v := (K 1)) hZ dX10_turnAllFrom_12 (by decide) ?_
  obtain ⟨h4, eh4, H⟩ := ok_bind H
  refine r_sL hZ dX10_turnAllFrom_13 eh4 ?_
  refine r_aload_n hZ dX10_turnAllFrom_14 rfl ?_
  obtain ⟨x5, ex5, H⟩ := ok_bind H
  refine r_getR hZ fl_X10_19_9 dX10_turnAllFrom_15 ex5 ?_
  refine r_iload_n hZ dX10_turnAllFrom_18 rfl ?_
  refine r_lconst (v := (K 1)) hZ dX10_turnAllFrom_19 (by decide) ?_
  obtain ⟨h6, eh6, H⟩ := ok_bind H
  refine r_sL hZ dX10_turnAllFrom_20 eh6 ?_
  refine r_iconst (v := (J 1)) hZ dX10_turnAllFrom_21 (by decide) ?_
  obtain ⟨x7, ex7, H⟩ := ok_bind H
  refine r_topi ex7 ?_
  refine r_istore_n hZ dX10_turnAllFrom_22 (by decide) (r_pick [0, 2, 3] (ls' := [(0, .ref a0), (2, .ref a2), (3, .int x7)]) rfl ?_)
  have H := ok_bindK H
  refine r_pick [0, 2, 3] (ls' := [(0, .ref a0), (2, .ref a2), (3, .int x7)]) rfl (l_X10_turnAllFrom_23 hZ (fun e8 H => ?_) FU _ H)
  · have H := ok_some H
    subst H
    exact r_ret hZ hF dX10_turnAllFrom_97
def b_X10_solve_10 (p0 : Nat) (p1 : Nat) (s : Int32 × Hp) : Option ((Int32 × Hp) ⊕ ((Hp))) :=
  (if (J 8) ≤ s.1 then
    some (.inr (s.2))
  else
    (gR s.2 p0 9 3).bind fun x1 =>
    (sZ s.2 x1 s.1 (J 0)).bind fun h2 =>
    (gR h2 p0 9 0).bind fun x3 =>
    (aI h2 x3 s.1).bind fun x4 =>
    ((if 0 ≤ x4 then
      some h2
    else
      (isO h2 p0 9).bind fun u6 =>
      (f_X10_turnAllFrom h2 p0 s.1 p1).bind fun r7 =>
      some r7)).bind fun (j5 : Hp) =>
    (some (s.1 + (J 1))).bind fun x9 =>
    some (.inl (x9, j5)))
set_option maxRecDepth 100000 in
set_option maxHeartbeats 4000000 in
theorem l_X10_solve_10 {Z : Zc} (hZ : Fx cX10_solve RX10 3 6 0 Z) {n : Nat} {p0 : Nat} {p1 : Nat} {P : ((Hp)) → Prop} (hx0 : ∀ e : Hp, P (e) → R Z 44 [(0, .ref p0), (1, .ref p1)] [] n e 0) : ∀ (m : Nat) (s : Int32 × Hp), Ok (iter (b_X10_solve_10 p0 p1) m s) P → R Z 10 [(0, .ref p0), (1, .ref p1), (2, .int s.1)] [] n s.2 0 := by
  intro m
  induction m with
  | zero => exact fun s H => ok_iter0 H
  | succ m ih =>
    intro s H
    have H := ok_iter H
    unfold b_X10_solve_10 at H
    refine r_iload_n hZ dX10_solve_10 rfl ?_
    refine r_bipush (v := (J 8)) hZ dX10_solve_11 (by decide) ?_
    refine r_icmp_ge (tgt := 44) hZ dX10_solve_13 (by decide) (fun c10 => ?_) (fun c10 => ?_)
    · have H := ok_t H c10
      exact r_pick [0, 1] (ls' := [(0, .ref p0), (1, .ref p1)]) rfl (hx0 _ (ki_r H))
    · have H := ok_f H c10
      refine r_aload_n hZ dX10_solve_16 rfl ?_
      obtain ⟨x1, ex1, H⟩ := ok_bind H
      refine r_getR hZ fl_X10_22_9 dX10_solve_17 ex1 ?_
      refine r_iload_n hZ dX10_solve_20 rfl ?_
      refine r_iconst (v := (J 0)) hZ dX10_solve_21 (by decide) ?_
      obtain ⟨h2, eh2, H⟩ := ok_bind H
      refine r_sZ hZ dX10_solve_22 eh2 ?_
      refine r_aload_n hZ dX10_solve_23 rfl ?_
      obtain ⟨x3, ex3, H⟩ := ok_bind H
      refine r_getR hZ fl_X10_9_9 dX10_solve_24 ex3 ?_
      refine r_iload_n hZ dX10_solve_27 rfl ?_
      obtain ⟨x4, ex4, H⟩ := ok_bind H
      refine r_aI hZ dX10_solve_28 ex4 ?_
      refine ok_join (Q := fun j5 : Hp => R Z 38 [(0, .ref p0), (1, .ref p1), (2, .int s.1)] [] n j5 0) H (fun j5 H => ?_) (fun H => ?_)
      · obtain ⟨x9, ex9, H⟩ := ok_bind H
        refine r_iincE (w := (J 1)) hZ dX10_solve_38 (by decide) rfl (by decide) ex9 (r_pick [0, 1, 2] (ls' := [(0, .ref p0), (1, .ref p1), (2, .int x9)]) rfl ?_)
        refine r_goto (tgt := 10) hZ dX10_solve_41 (by decide) ?_
        exact r_pick [0, 1, 2] (ls' := [(0, .ref p0), (1, .ref p1), (2, .int x9)]) rfl (ih _ (ki_l H))
      · refine r_if_ge (tgt := 38) hZ dX10_solve_29 (by decide) (fun c8 => ?_) (fun c8 => ?_)
        · have H := ok_t H c8
          have H := ok_some H
          exact r_pick [0, 1, 2] (ls' := [(0, .ref p0), (1, .ref p1), (2, .int s.1)]) rfl H
        · have H := ok_f H c8
          refine r_aload_n hZ dX10_solve_32 rfl ?_
          refine r_iload_n hZ dX10_solve_33 rfl ?_
          refine r_aload_n hZ dX10_solve_34 rfl ?_
          obtain ⟨u6, eu6, H⟩ := ok_bind H
          obtain ⟨r7, er7, H⟩ := ok_bind H
          refine r_callV (As := [.int s.1, .ref p1]) (rest := []) (st1 := []) (N2 := 0) hZ dX10_solve_35 cw_X10_36_X10 rfl eu6 (s_X10_turnAllFrom er7) rfl rfl (by decide) (Nat.le_of_ble_eq_true rfl) (Nat.le_refl 0) (Nat.le_refl _) (Or.inl rfl) rfl ?_
          have H := ok_some H
          exact r_pick [0, 1, 2] (ls' := [(0, .ref p0), (1, .ref p1), (2, .int s.1)]) rfl H
def b_X10_solve_46 (p0 : Nat) (p1 : Nat) (s : Int32 × Hp) : Option ((Int32 × Hp) ⊕ ((Hp))) :=
  (gI s.2 p1 3 5).bind fun x1 =>
  (if x1 ≤ s.1 then
    some (.inr (s.2))
  else
    (gR s.2 p1 3 0).bind fun x2 =>
    (gR s.2 p1 3 2).bind fun x3 =>
    (aI s.2 x3 s.1).bind fun x4 =>
    (aR s.2 x2 3 x4).bind fun x5 =>
    (gR s.2 p1 3 0).bind fun x6 =>
    (gR s.2 p1 3 3).bind fun x7 =>
    (aI s.2 x7 s.1).bind fun x8 =>
    (aR s.2 x6 3 x8).bind fun x9 =>
    (isO s.2 p0 9).bind fun u10 =>
    (f_X10_checkMesh s.2 p0 x5 x9).bind fun r11 =>
    (some (s.1 + (J 1))).bind fun x12 =>
    some (.inl (x12, r11)))
set_option maxRecDepth 100000 in
set_option maxHeartbeats 4000000 in
theorem l_X10_solve_46 {Z : Zc} (hZ : Fx cX10_solve RX10 3 6 0 Z) {n : Nat} {p0 : Nat} {p1 : Nat} {P : ((Hp)) → Prop} (hx0 : ∀ e : Hp, P (e) → R Z 86 [] [] n e 0) : ∀ (m : Nat) (s : Int32 × Hp), Ok (iter (b_X10_solve_46 p0 p1) m s) P → R Z 46 [(0, .ref p0), (1, .ref p1), (2, .int s.1)] [] n s.2 0 := by
  intro m
  induction m with
  | zero => exact fun s H => ok_iter0 H
  | succ m ih =>
    intro s H
    have H := ok_iter H
    unfold b_X10_solve_46 at H
    refine r_iload_n hZ dX10_solve_46 rfl ?_
    refine r_aload_n hZ dX10_solve_47 rfl ?_
    obtain ⟨x1, ex1, H⟩ := ok_bind H
    refine r_getI hZ fl_X10_40_3 dX10_solve_48 ex1 ?_
    refine r_icmp_ge (tgt := 86) hZ dX10_solve_51 (by decide) (fun c13 => ?_) (fun c13 => ?_)
    · have H := ok_t H c13
      exact r_pick [] (ls' := []) rfl (hx0 _ (ki_r H))
    · have H := ok_f H c13
      refine r_aload_n hZ dX10_solve_54 rfl ?_
      refine r_aload_n hZ dX10_solve_55 rfl ?_
      obtain ⟨x2, ex2, H⟩ := ok_bind H
      refine r_getR hZ fl_X10_46_3 dX10_solve_56 ex2 ?_
      refine r_aload_n hZ dX10_solve_59 rfl ?_
      obtain ⟨x3, ex3, H⟩ := ok_bind H
      refine r_getR hZ fl_X10_50_3 dX10_solve_60 ex3 ?_
      refine r_iload_n hZ dX10_solve_63 rfl ?_
      obtain ⟨x4, ex4, H⟩ := ok_bind H
      refine r_aI hZ dX10_solve_64 ex4 ?_
      obtain ⟨x5, ex5, H⟩ := ok_bind H
      refine r_aR hZ dX10_solve_65 ex5 (fun _ => rfl) (Or.inl ⟨_, rfl⟩) ?_
      refine r_aload_n hZ dX10_solve_66 rfl ?_
      obtain ⟨x6, ex6, H⟩ := ok_bind H
      refine r_getR hZ fl_X10_46_3 dX10_solve_67 ex6 ?_
      refine r_aload_n hZ dX10_solve_70 rfl ?_
      obtain ⟨x7, ex7, H⟩ := ok_bind H
      refine r_getR hZ fl_X10_53_3 dX10_solve_71 ex7 ?_
      refine r_iload_n hZ dX10_solve_74 rfl ?_
      obtain ⟨x8, ex8, H⟩ := ok_bind H
      refine r_aI hZ dX10_solve_75 ex8 ?_
      obtain ⟨x9, ex9, H⟩ := ok_bind H
      refine r_aR hZ dX10_solve_76 ex9 (fun _ => rfl) (Or.inl ⟨_, rfl⟩) ?_
      obtain ⟨u10, eu10, H⟩ := ok_bind H
      obtain ⟨r11, er11, H⟩ := ok_bind H
      refine r_callV (As := [.ref x5, .ref x9]) (rest := []) (st1 := []) (N2 := 0) hZ dX10_solve_77 cw_X10_56_X10 rfl eu10 (s_X10_checkMesh er11) rfl rfl (by decide) (Nat.le_of_ble_eq_true rfl) (Nat.le_refl 0) (Nat.le_refl _) (Or.inl rfl) rfl ?_
      obtain ⟨x12, ex12, H⟩ := ok_bind H
      refine r_iincE (w := (J 1)) hZ dX10_solve_80 (by decide) rfl (by decide) ex12 (r_pick [0, 1, 2] (ls' := [(0, .ref p0), (1, .ref p1), (2, .int x12)]) rfl ?_)
      refine r_goto (tgt := 46) hZ dX10_solve_83 (by decide) ?_
      exact r_pick [0, 1, 2] (ls' := [(0, .ref p0), (1, .ref p1), (2, .int x12)]) rfl (ih _ (ki_l H))
def f_X10_solve  (h : Hp) (a0 : Nat) (a1 : Nat) : Option (Hp) :=
  (gR h a0 9 0).bind fun x1 =>
  (f_J7_fill_53178 h x1 (J (-1))).bind fun r2 =>
  (some (J 0)).bind fun x3 =>
  (iter (b_X10_solve_10 a0 a1) FU (x3, r2)).bind fun e4 =>
  (some (J 0)).bind fun x5 =>
  (iter (b_X10_solve_46 a0 a1) FU (x5, e4)).bind fun e6 =>
  some e6
set_option maxRecDepth 100000 in
set_option maxHeartbeats 4000000 in
theorem s_X10_solve {n : Nat} {h : Hp} {a0 : Nat} {a1 : Nat}  {r : Hp} (hf : f_X10_solve  h a0 a1 = some r) : Ev 6 yX10_solve cX10_solve 3 none [.ref a0, .ref a1] n h none n r := by
  refine Ev_of RX10 rfl (by decide) (Nat.le_of_ble_eq_true rfl) (Nat.le_refl _) (Or.inl rfl) (fun Z hZ hF hN hI => ?_)
  have H : Ok (f_X10_solve  h a0 a1) (fun y => y = r) := ⟨_, hf, rfl⟩
  unfold f_X10_solve at H
  refine r_ls (ls' := [(0, .ref a0), (1, .ref a1)]) rfl ?_
  refine r_aload_n hZ dX10_solve_0 rfl ?_
  obtain ⟨x1, ex1, H⟩ := ok_bind H
  refine r_getR hZ fl_X10_9_9 dX10_solve_1 ex1 ?_
  refine r_iconst (v := (J (-1))) hZ dX10_solve_4 (by decide) ?_
  obtain ⟨r2, er2, H⟩ := ok_bind H
  refine r_callS (As := [.ref x1, .int (J (-1))]) (rest := []) (st1 := []) (N2 := 0) hZ dX10_solve_5 cw_X10_30 (s_J7_fill_53178 er2) rfl rfl (by decide) (Nat.le_of_ble_eq_true rfl) (Nat.le_refl 0) (Nat.le_refl _) (Or.inl rfl) rfl ?_
  refine r_iconst (v := (J 0)) hZ dX10_solve_8 (by decide) ?_
  obtain ⟨x3, ex3, H⟩ := ok_bind H
  refine r_topi ex3 ?_
  refine r_istore_n hZ dX10_solve_9 (by decide) (r_pick [0, 1, 2] (ls' := [(0, .ref a0), (1, .ref a1), (2, .int x3)]) rfl ?_)
  have H := ok_bindK H
  refine r_pick [0, 1, 2] (ls' := [(0, .ref a0), (1, .ref a1), (2, .int x3)]) rfl (l_X10_solve_10 hZ (fun e4 H => ?_) FU _ H)
  · refine r_iconst (v := (J 0)) hZ dX10_solve_44 (by decide) ?_
    obtain ⟨x5, ex5, H⟩ := ok_bind H
    refine r_topi ex5 ?_
    refine r_istore_n hZ dX10_solve_45 (by decide) (r_pick [0, 1, 2] (ls' := [(0, .ref a0), (1, .ref a1), (2, .int x5)]) rfl ?_)
    have H := ok_bindK H
    refine r_pick [0, 1, 2] (ls' := [(0, .ref a0), (1, .ref a1), (2, .int x5)]) rfl (l_X10_solve_46 hZ (fun e6 H => ?_) FU _ H)
    · have H := ok_some H
      subst H
      exact r_ret hZ hF dX10_solve_86
def f_X10_isLocked  (h : Hp) (a0 : Nat) : Option (Int32) :=
  (gR h a0 9 3).bind fun x1 =>
  (aZ h x1 (J 0)).bind fun x2 =>
  (bz x2).bind fun u3 =>
  some x2
set_option maxRecDepth 100000 in
set_option maxHeartbeats 4000000 in
theorem s_X10_isLocked {n : Nat} {h : Hp} {a0 : Nat}  {r : Int32} (hf : f_X10_isLocked  h a0 = some r) : Ev 2 yX10_isLocked cX10_isLocked 1 (some .boolean) [.ref a0] n h (some (.int r)) n h := by
  refine Ev_of RX10 rfl (by decide) (Nat.le_of_ble_eq_true rfl) (Nat.le_refl _) (Or.inl rfl) (fun Z hZ hF hN hI => ?_)
  have H : Ok (f_X10_isLocked  h a0) (fun y => y = r) := ⟨_, hf, rfl⟩
  unfold f_X10_isLocked at H
  refine r_ls (ls' := [(0, .ref a0)]) rfl ?_
  refine r_aload_n hZ dX10_isLocked_0 rfl ?_
  obtain ⟨x1, ex1, H⟩ := ok_bind H
  refine r_getR hZ fl_X10_22_9 dX10_isLocked_1 ex1 ?_
  refine r_iconst (v := (J 0)) hZ dX10_isLocked_4 (by decide) ?_
  obtain ⟨x2, ex2, H⟩ := ok_bind H
  refine r_aZ hZ dX10_isLocked_5 ex2 ?_
  obtain ⟨u3, eu3, H⟩ := ok_bind H
  have H := ok_some H
  subst H
  exact r_zret hZ hF eu3 dX10_isLocked_6
def f_X10_isTurned  (h : Hp) (a0 : Nat) (a1 : Int32) : Option (Int32) :=
  (gR h a0 9 0).bind fun x1 =>
  (aI h x1 a1).bind fun x2 =>
  ((if x2 = 0 then
    some (J 1)
  else
    (gR h a0 9 3).bind fun x4 =>
    (gR h a0 9 0).bind fun x5 =>
    (aI h x5 a1).bind fun x6 =>
    (aZ h x4 x6).bind fun x7 =>
    (if x7 = 0 then
      some (J 0)
    else
      some (J 1)))).bind fun (j3 : Int32) =>
  (bz j3).bind fun u10 =>
  some j3
set_option maxRecDepth 100000 in
set_option maxHeartbeats 4000000 in
theorem s_X10_isTurned {n : Nat} {h : Hp} {a0 : Nat} {a1 : Int32}  {r : Int32} (hf : f_X10_isTurned  h a0 a1 = some r) : Ev 2 yX10_isTurned cX10_isTurned 2 (some .boolean) [.ref a0, .int a1] n h (some (.int r)) n h := by
  refine Ev_of RX10 rfl (by decide) (Nat.le_of_ble_eq_true rfl) (Nat.le_refl _) (Or.inl rfl) (fun Z hZ hF hN hI => ?_)
  have H : Ok (f_X10_isTurned  h a0 a1) (fun y => y = r) := ⟨_, hf, rfl⟩
  unfold f_X10_isTurned at H
  refine r_ls (ls' := [(0, .ref a0), (1, .int a1)]) rfl ?_
  refine r_aload_n hZ dX10_isTurned_0 rfl ?_
  obtain ⟨x1, ex1, H⟩ := ok_bind H
  refine r_getR hZ fl_X10_9_9 dX10_isTurned_1 ex1 ?_
  refine r_iload_n hZ dX10_isTurned_4 rfl ?_
  obtain ⟨x2, ex2, H⟩ := ok_bind H
  refine r_aI hZ dX10_isTurned_5 ex2 ?_
  refine ok_join (Q := fun j3 : Int32 => R Z 28 [] [.int j3] n h 0) H (fun j3 H => ?_) (fun H => ?_)
  · obtain ⟨u10, eu10, H⟩ := ok_bind H
    have H := ok_some H
    subst H
    exact r_zret hZ hF eu10 dX10_isTurned_28
  · refine r_if_eq (tgt := 23) hZ dX10_isTurned_6 (by decide) (fun c9 => ?_) (fun c9 => ?_)
    · have H := ok_t H c9
      refine r_iconst (v := (J 1)) hZ dX10_isTurned_23 (by decide) ?_
      refine r_goto (tgt := 28) hZ dX10_isTurned_24 (by decide) ?_
      have H := ok_some H
      exact r_pick [] (ls' := []) rfl H
    · have H := ok_f H c9
      refine r_aload_n hZ dX10_isTurned_9 rfl ?_
      obtain ⟨x4, ex4, H⟩ := ok_bind H
      refine r_getR hZ fl_X10_22_9 dX10_isTurned_10 ex4 ?_
      refine r_aload_n hZ dX10_isTurned_13 rfl ?_
      obtain ⟨x5, ex5, H⟩ := ok_bind H
      refine r_getR hZ fl_X10_9_9 dX10_isTurned_14 ex5 ?_
      refine r_iload_n hZ dX10_isTurned_17 rfl ?_
      obtain ⟨x6, ex6, H⟩ := ok_bind H
      refine r_aI hZ dX10_isTurned_18 ex6 ?_
      obtain ⟨x7, ex7, H⟩ := ok_bind H
      refine r_aZ hZ dX10_isTurned_19 ex7 ?_
      refine r_if_eq (tgt := 27) hZ dX10_isTurned_20 (by decide) (fun c8 => ?_) (fun c8 => ?_)
      · have H := ok_t H c8
        refine r_iconst (v := (J 0)) hZ dX10_isTurned_27 (by decide) ?_
        have H := ok_some H
        exact r_pick [] (ls' := []) rfl H
      · have H := ok_f H c8
        refine r_iconst (v := (J 1)) hZ dX10_isTurned_23 (by decide) ?_
        refine r_goto (tgt := 28) hZ dX10_isTurned_24 (by decide) ?_
        have H := ok_some H
        exact r_pick [] (ls' := []) rfl H
def f_X10_aboveLine  (h : Hp) (a0 : Nat) (a1 : Int32) : Option (Int64) :=
  (gR h a0 9 3).bind fun x1 =>
  (gR h a0 9 0).bind fun x2 =>
  (aI h x2 a1).bind fun x3 =>
  (aZ h x1 x3).bind fun x4 =>
  ((if x4 = 0 then
    (gR h a0 9 1).bind fun x6 =>
    (aL h x6 a1).bind fun x7 =>
    some x7
  else
    some (K 0))).bind fun (j5 : Int64) =>
  some j5
set_option maxRecDepth 100000 in
set_option maxHeartbeats 4000000 in
theorem s_X10_aboveLine {n : Nat} {h : Hp} {a0 : Nat} {a1 : Int32}  {r : Int64} (hf : f_X10_aboveLine  h a0 a1 = some r) : Ev 2 yX10_aboveLine cX10_aboveLine 2 (some .long) [.ref a0, .int a1] n h (some (.long r)) n h := by
  refine Ev_of RX10 rfl (by decide) (Nat.le_of_ble_eq_true rfl) (Nat.le_refl _) (Or.inl rfl) (fun Z hZ hF hN hI => ?_)
  have H : Ok (f_X10_aboveLine  h a0 a1) (fun y => y = r) := ⟨_, hf, rfl⟩
  unfold f_X10_aboveLine at H
  refine r_ls (ls' := [(0, .ref a0), (1, .int a1)]) rfl ?_
  refine r_aload_n hZ dX10_aboveLine_0 rfl ?_
  obtain ⟨x1, ex1, H⟩ := ok_bind H
  refine r_getR hZ fl_X10_22_9 dX10_aboveLine_1 ex1 ?_
  refine r_aload_n hZ dX10_aboveLine_4 rfl ?_
  obtain ⟨x2, ex2, H⟩ := ok_bind H
  refine r_getR hZ fl_X10_9_9 dX10_aboveLine_5 ex2 ?_
  refine r_iload_n hZ dX10_aboveLine_8 rfl ?_
  obtain ⟨x3, ex3, H⟩ := ok_bind H
  refine r_aI hZ dX10_aboveLine_9 ex3 ?_
  obtain ⟨x4, ex4, H⟩ := ok_bind H
  refine r_aZ hZ dX10_aboveLine_10 ex4 ?_
  refine ok_join (Q := fun j5 : Int64 => R Z 24 [] [.long j5] n h 0) H (fun j5 H => ?_) (fun H => ?_)
  · have H := ok_some H
    subst H
    exact r_lret hZ hF dX10_aboveLine_24
  · refine r_if_eq (tgt := 18) hZ dX10_aboveLine_11 (by decide) (fun c8 => ?_) (fun c8 => ?_)
    · have H := ok_t H c8
      refine r_aload_n hZ dX10_aboveLine_18 rfl ?_
      obtain ⟨x6, ex6, H⟩ := ok_bind H
      refine r_getR hZ fl_X10_15_9 dX10_aboveLine_19 ex6 ?_
      refine r_iload_n hZ dX10_aboveLine_22 rfl ?_
      obtain ⟨x7, ex7, H⟩ := ok_bind H
      refine r_aL hZ dX10_aboveLine_23 ex7 ?_
      have H := ok_some H
      exact r_pick [] (ls' := []) rfl H
    · have H := ok_f H c8
      refine r_lconst (v := (K 0)) hZ dX10_aboveLine_14 (by decide) ?_
      refine r_goto (tgt := 24) hZ dX10_aboveLine_15 (by decide) ?_
      have H := ok_some H
      exact r_pick [] (ls' := []) rfl H
def f_X10_belowLine  (h : Hp) (a0 : Nat) (a1 : Int32) : Option (Int64) :=
  (gR h a0 9 3).bind fun x1 =>
  (gR h a0 9 0).bind fun x2 =>
  (aI h x2 a1).bind fun x3 =>
  (aZ h x1 x3).bind fun x4 =>
  ((if x4 = 0 then
    (gR h a0 9 2).bind fun x6 =>
    (aL h x6 a1).bind fun x7 =>
    some x7
  else
    some (K 1))).bind fun (j5 : Int64) =>
  some j5
set_option maxRecDepth 100000 in
set_option maxHeartbeats 4000000 in
theorem s_X10_belowLine {n : Nat} {h : Hp} {a0 : Nat} {a1 : Int32}  {r : Int64} (hf : f_X10_belowLine  h a0 a1 = some r) : Ev 2 yX10_belowLine cX10_belowLine 2 (some .long) [.ref a0, .int a1] n h (some (.long r)) n h := by
  refine Ev_of RX10 rfl (by decide) (Nat.le_of_ble_eq_true rfl) (Nat.le_refl _) (Or.inl rfl) (fun Z hZ hF hN hI => ?_)
  have H : Ok (f_X10_belowLine  h a0 a1) (fun y => y = r) := ⟨_, hf, rfl⟩
  unfold f_X10_belowLine at H
  refine r_ls (ls' := [(0, .ref a0), (1, .int a1)]) rfl ?_
  refine r_aload_n hZ dX10_belowLine_0 rfl ?_
  obtain ⟨x1, ex1, H⟩ := ok_bind H
  refine r_getR hZ fl_X10_22_9 dX10_belowLine_1 ex1 ?_
  refine r_aload_n hZ dX10_belowLine_4 rfl ?_
  obtain ⟨x2, ex2, H⟩ := ok_bind H
  refine r_getR hZ fl_X10_9_9 dX10_belowLine_5 ex2 ?_
  refine r_iload_n hZ dX10_belowLine_8 rfl ?_
  obtain ⟨x3, ex3, H⟩ := ok_bind H
  refine r_aI hZ dX10_belowLine_9 ex3 ?_
  obtain ⟨x4, ex4, H⟩ := ok_bind H
  refine r_aZ hZ dX10_belowLine_10 ex4 ?_
  refine ok_join (Q := fun j5 : Int64 => R Z 24 [] [.long j5] n h 0) H (fun j5 H => ?_) (fun H => ?_)
  · have H := ok_some H
    subst H
    exact r_lret hZ hF dX10_belowLine_24
  · refine r_if_eq (tgt := 18) hZ dX10_belowLine_11 (by decide) (fun c8 => ?_) (fun c8 => ?_)
    · have H := ok_t H c8
      refine r_aload_n hZ dX10_belowLine_18 rfl ?_
      obtain ⟨x6, ex6, H⟩ := ok_bind H
      refine r_getR hZ fl_X10_19_9 dX10_belowLine_19 ex6 ?_
      refine r_iload_n hZ dX10_belowLine_22 rfl ?_
      obtain ⟨x7, ex7, H⟩ := ok_bind H
      refine r_aL hZ dX10_belowLine_23 ex7 ?_
      have H := ok_some H
      exact r_pick [] (ls' := []) rfl H
    · have H := ok_f H c8
      refine r_lconst (v := (K 1)) hZ dX10_belowLine_14 (by decide) ?_
      refine r_goto (tgt := 24) hZ dX10_belowLine_15 (by decide) ?_
      have H := ok_some H
      exact r_pick [] (ls' := []) rfl H
def b_X10_countTurned_4 (h : Hp) (p0 : Nat) (s : Int32 × Int32) : Option ((Int32 × Int32) ⊕ ((Int32))) :=
  (if (J 8) ≤ s.2 then
    some (.inr (s.1))
  else
    (isO h p0 9).bind fun u1 =>
    (f_X10_isLocked h p0).bind fun r2 =>
    (if r2 = 0 then
      (isO h p0 9).bind fun u3 =>
      (f_X10_isTurned h p0 s.2).bind fun r4 =>
      ((if r4 = 0 then
        some (J 0)
      else
        some (J 1))).bind fun (j5 : Int32) =>
      (some (s.1 + j5)).bind fun x7 =>
      (some (s.2 + (J 1))).bind fun x8 =>
      some (.inl (x7, x8))
    else
      some (.inr (s.1))))
set_option maxRecDepth 100000 in
set_option maxHeartbeats 4000000 in
theorem l_X10_countTurned_4 {Z : Zc} (hZ : Fx cX10_countTurned RX10 3 3 0 Z) {n : Nat} {h : Hp} {p0 : Nat} {P : ((Int32)) → Prop} (hx0 : ∀ e : Int32, P (e) → R Z 39 [(1, .int e)] [] n h 0) : ∀ (m : Nat) (s : Int32 × Int32), Ok (iter (b_X10_countTurned_4 h p0) m s) P → R Z 4 [(0, .ref p0), (1, .int s.1), (2, .int s.2)] [] n h 0 := by
  intro m
  induction m with
  | zero => exact fun s H => ok_iter0 H
  | succ m ih =>
    intro s H
    have H := ok_iter H
    unfold b_X10_countTurned_4 at H
    refine r_iload_n hZ dX10_countTurned_4 rfl ?_
    refine r_bipush (v := (J 8)) hZ dX10_countTurned_5 (by decide) ?_
    refine r_icmp_ge (tgt := 39) hZ dX10_countTurned_7 (by decide) (fun c10 => ?_) (fun c10 => ?_)
    · have H := ok_t H c10
      exact r_pick [1] (ls' := [(1, .int s.1)]) rfl (hx0 _ (ki_r H))
    · have H := ok_f H c10
      refine r_aload_n hZ dX10_countTurned_10 rfl ?_
      obtain ⟨u1, eu1, H⟩ := ok_bind H
      obtain ⟨r2, er2, H⟩ := ok_bind H
      refine r_callV (As := []) (rest := []) (st1 := [.int r2]) (N2 := 0) hZ dX10_countTurned_11 cw_X10_91_X10 rfl eu1 (s_X10_isLocked er2) rfl rfl (by decide) (Nat.le_of_ble_eq_true rfl) (Nat.le_refl 0) (Nat.le_refl _) (Or.inl rfl) rfl ?_
      refine r_if_ne (tgt := 39) hZ dX10_countTurned_14 (by decide) (fun c9 => ?_) (fun c9 => ?_)
      · have H := ok_f H c9
        exact r_pick [1] (ls' := [(1, .int s.1)]) rfl (hx0 _ (ki_r H))
      · have H := ok_t H c9
        refine r_iload_n hZ dX10_countTurned_17 rfl ?_
        refine r_aload_n hZ dX10_countTurned_18 rfl ?_
        refine r_iload_n hZ dX10_countTurned_19 rfl ?_
        obtain ⟨u3, eu3, H⟩ := ok_bind H
        obtain ⟨r4, er4, H⟩ := ok_bind H
        refine r_callV (As := [.int s.2]) (rest := [.int s.1]) (st1 := [.int r4, .int s.1]) (N2 := 0) hZ dX10_countTurned_20 cw_X10_94_X10 rfl eu3 (s_X10_isTurned er4) rfl rfl (by decide) (Nat.le_of_ble_eq_true rfl) (Nat.le_refl 0) (Nat.le_refl _) (Or.inl rfl) rfl ?_
        refine ok_join (Q := fun j5 : Int32 => R Z 31 [(0, .ref p0), (2, .int s.2)] [.int j5, .int s.1] n h 0) H (fun j5 H => ?_) (fun H => ?_)
        · refine r_iadd hZ dX10_countTurned_31 ?_
          obtain ⟨x7, ex7, H⟩ := ok_bind H
          refine r_topi ex7 ?_
          refine r_istore_n hZ dX10_countTurned_32 (by decide) (r_pick [0, 1, 2] (ls' := [(0, .ref p0), (1, .int x7), (2, .int s.2)]) rfl ?_)
          obtain ⟨x8, ex8, H⟩ := ok_bind H
          refine r_iincE (w := (J 1)) hZ dX10_countTurned_33 (by decide) rfl (by decide) ex8 (r_pick [0, 1, 2] (ls' := [(0, .ref p0), (1, .int x7), (2, .int x8)]) rfl ?_)
          refine r_goto (tgt := 4) hZ dX10_countTurned_36 (by decide) ?_
          exact r_pick [0, 1, 2] (ls' := [(0, .ref p0), (1, .int x7), (2, .int x8)]) rfl (ih _ (ki_l H))
        · refine r_if_eq (tgt := 30) hZ dX10_countTurned_23 (by decide) (fun c6 => ?_) (fun c6 => ?_)
          · have H := ok_t H c6
            refine r_iconst (v := (J 0)) hZ dX10_countTurned_30 (by decide) ?_
            have H := ok_some H
            exact r_pick [0, 2] (ls' := [(0, .ref p0), (2, .int s.2)]) rfl H
          · have H := ok_f H c6
            refine r_iconst (v := (J 1)) hZ dX10_countTurned_26 (by decide) ?_
            refine r_goto (tgt := 31) hZ dX10_countTurned_27 (by decide) ?_
            have H := ok_some H
            exact r_pick [0, 2] (ls' := [(0, .ref p0), (2, .int s.2)]) rfl H
def f_X10_countTurned  (h : Hp) (a0 : Nat) : Option (Int32) :=
  (some (J 0)).bind fun x1 =>
  (some (J 0)).bind fun x2 =>
  (iter (b_X10_countTurned_4 h a0) FU (x1, x2)).bind fun e3 =>
  some e3
set_option maxRecDepth 100000 in
set_option maxHeartbeats 4000000 in
theorem s_X10_countTurned {n : Nat} {h : Hp} {a0 : Nat}  {r : Int32} (hf : f_X10_countTurned  h a0 = some r) : Ev 3 yX10_countTurned cX10_countTurned 3 (some .int) [.ref a0] n h (some (.int r)) n h := by
  refine Ev_of RX10 rfl (by decide) (Nat.le_of_ble_eq_true rfl) (Nat.le_refl _) (Or.inl rfl) (fun Z hZ hF hN hI => ?_)
  have H : Ok (f_X10_countTurned  h a0) (fun y => y = r) := ⟨_, hf, rfl⟩
  unfold f_X10_countTurned at H
  refine r_ls (ls' := [(0, .ref a0)]) rfl ?_
  refine r_iconst (v := (J 0)) hZ dX10_countTurned_0 (by decide) ?_
  obtain ⟨x1, ex1, H⟩ := ok_bind H
  refine r_topi ex1 ?_
  refine r_istore_n hZ dX10_countTurned_1 (by decide) (r_pick [0, 1] (ls' := [(0, .ref a0), (1, .int x1)]) rfl ?_)
  refine r_iconst (v := (J 0)) hZ dX10_countTurned_2 (by decide) ?_
  obtain ⟨x2, ex2, H⟩ := ok_bind H
  refine r_topi ex2 ?_
  refine r_istore_n hZ dX10_countTurned_3 (by decide) (r_pick [0, 1, 2] (ls' := [(0, .ref a0), (1, .int x1), (2, .int x2)]) rfl ?_)
  have H := ok_bindK H
  refine r_pick [0, 1, 2] (ls' := [(0, .ref a0), (1, .int x1), (2, .int x2)]) rfl (l_X10_countTurned_4 hZ (fun e3 H => ?_) FU _ H)
  · refine r_iload_n hZ dX10_countTurned_39 rfl ?_
    have H := ok_some H
    subst H
    exact r_iret hZ hF dX10_countTurned_40
