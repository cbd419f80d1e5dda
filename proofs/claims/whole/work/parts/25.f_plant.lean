def b_X3_init_39 (N2 : Nat) (p0 : Nat) (s : Int32 × Nat × Hp) : Option ((Int32 × Nat × Hp) ⊕ ((Nat × Hp))) :=
  (if (J 12) ≤ s.1 then
    some (.inr ((s.2.1, s.2.2)))
  else
    (gR s.2.2 p0 3 0).bind fun x1 =>
    (cap (s.2.1 + 1) N2).bind fun u2 =>
    (cap ((s.2.1 + 1) + 1) N2).bind fun u4 =>
    (f_X0_init ((s.2.1 + 1) + 1) (s.2.1 + 1) (va_up s.2.2 s.2.1 (some (0, .inl [.int 0, .int 0, .int 0, .int 0, .null]))) s.2.1).bind fun r3 =>
    (sR r3 x1 3 0 s.1 s.2.1).bind fun h5 =>
    (some (s.1 + (J 1))).bind fun x6 =>
    some (.inl (x6, ((s.2.1 + 1) + 1), h5)))
set_option maxRecDepth 100000 in
set_option maxHeartbeats 4000000 in
theorem l_X3_init_39 {Z : Zc} (hZ : Fx cX3_init RX3 2 3 0 Z) {N2 : Nat} (hN : NX N2 Z) (hI : Ini Z) {p0 : Nat} {P : ((Nat × Hp)) → Prop} (hx0 : ∀ e : Nat × Hp, P (e) → R Z 64 [] [] e.1 e.2 0) : ∀ (m : Nat) (s : Int32 × Nat × Hp), Ok (iter (b_X3_init_39 N2 p0) m s) P → R Z 39 [(0, .ref p0), (1, .int s.1)] [] s.2.1 s.2.2 0 := by
  intro m
  induction m with
  | zero => exact fun s H => ok_iter0 H
  | succ m ih =>
    intro s H
    have H := ok_iter H
    unfold b_X3_init_39 at H
    refine r_iload_n hZ dX3_init_39 rfl ?_
    refine r_bipush (v := (J 12)) hZ dX3_init_40 (by decide) ?_
    refine r_icmp_ge (tgt := 64) hZ dX3_init_42 (by decide) (fun c7 => ?_) (fun c7 => ?_)
    · have H := ok_t H c7
      exact r_pick [] (ls' := []) rfl (hx0 _ (ki_r H))
    · have H := ok_f H c7
      refine r_aload_n hZ dX3_init_45 rfl ?_
      obtain ⟨x1, ex1, H⟩ := ok_bind H
      refine r_getR hZ fl_X3_11_3 dX3_init_46 ex1 ?_
      refine r_iload_n hZ dX3_init_49 rfl ?_
      obtain ⟨u2, eu2, H⟩ := ok_bind H
      refine r_new hZ hN wn_X3_9 dX3_init_50 (cap_le eu2) (Nat.le_refl 0) ?_
      refine r_dup_a hZ dX3_init_53 ?_
      obtain ⟨u4, eu4, H⟩ := ok_bind H
      obtain ⟨r3, er3, H⟩ := ok_bind H
      refine r_callIN (As := []) (rest := [.ref s.2.1, .int s.1, .ref x1]) (N2 := N2) hZ dX3_init_54 cw_X3_27 (s_X0_init ⟨Nat.le_add_right _ _, Nat.le_trans (cap_le eu4) (NX_bb hN)⟩ er3) rfl rfl (by decide) (Nat.le_of_ble_eq_true rfl) (Nat.le_refl 0) (Nat.le_add_right _ _) (Or.inr ⟨hN, cap_le eu4⟩) ?_
      obtain ⟨h5, eh5, H⟩ := ok_bind H
      refine r_sR hZ dX3_init_57 eh5 rfl (fun _ => rfl) ?_
      obtain ⟨x6, ex6, H⟩ := ok_bind H
      refine r_iincE (w := (J 1)) hZ dX3_init_58 (by decide) rfl (by decide) ex6 (r_pick [0, 1] (ls' := [(0, .ref p0), (1, .int x6)]) rfl ?_)
      refine r_goto (tgt := 39) hZ dX3_init_61 (by decide) ?_
      exact r_pick [0, 1] (ls' := [(0, .ref p0), (1, .int x6)]) rfl (ih _ (ki_l H))
def f_X3_init  (N2 n : Nat) (h : Hp) (a0 : Nat) : Option (Hp) :=
  (cap (n + 1) N2).bind fun u1 =>
  (pF (va_up h n (some (3, .inr (12, .inr (.inr (.inr (.inr fun _ => none))))))) a0 3 0 (.ref n)).bind fun h2 =>
  (cap ((n + 1) + 1) N2).bind fun u3 =>
  (pF (va_up h2 (n + 1) (some (0, .inr (16, .inl fun _ => 0)))) a0 3 2 (.ref (n + 1))).bind fun h4 =>
  (cap (((n + 1) + 1) + 1) N2).bind fun u5 =>
  (pF (va_up h4 ((n + 1) + 1) (some (0, .inr (16, .inl fun _ => 0)))) a0 3 3 (.ref ((n + 1) + 1))).bind fun h6 =>
  (cap ((((n + 1) + 1) + 1) + 1) N2).bind fun u7 =>
  (pF (va_up h6 (((n + 1) + 1) + 1) (some (0, .inr (16, .inl fun _ => 0)))) a0 3 4 (.ref (((n + 1) + 1) + 1))).bind fun h8 =>
  (some (J 0)).bind fun x9 =>
  (iter (b_X3_init_39 N2 a0) FU (x9, ((((n + 1) + 1) + 1) + 1), h8)).bind fun e10 =>
  (eqn e10.1 N2).bind fun u11 =>
  some e10.2
set_option maxRecDepth 100000 in
set_option maxHeartbeats 4000000 in
theorem s_X3_init {n : Nat} {h : Hp} {a0 : Nat}  {r : Hp} {N2 : Nat} (hB : n ≤ N2 ∧ N2 ≤ BB) (hf : f_X3_init  N2 n h a0 = some r) : Ev 3 yX3_init cX3_init 2 none [.ref a0] n h none N2 r := by
  refine Ev_of RX3 rfl (by decide) (Nat.le_of_ble_eq_true rfl) hB.1 (Or.inr hB.2) (fun Z hZ hF hN hI => ?_)
  have hN := hN hB.2
  have hI := hI rfl
  have H : Ok (f_X3_init  N2 n h a0) (fun y => y = r) := ⟨_, hf, rfl⟩
  unfold f_X3_init at H
  refine r_ls (ls' := [(0, .ref a0)]) rfl ?_
  refine r_aload_n hZ dX3_init_0 rfl ?_
  refine r_objinit hZ wi_X3_3 wi_i wi_c dX3_init_1 (by decide) (Nat.le_of_ble_eq_true rfl) ?_
  refine r_aload_n hZ dX3_init_4 rfl ?_
  refine r_bipush (v := (J 12)) hZ dX3_init_5 (by decide) ?_
  obtain ⟨u1, eu1, H⟩ := ok_bind H
  refine r_newQ (t0 := 3) (len := 12) hZ hN wq_X3_9 (Or.inl rfl) (fun _ => rfl) (by decide) (by decide) (by decide) dX3_init_7 (cap_le eu1) (Nat.le_refl 0) ?_
  obtain ⟨h2, eh2, H⟩ := ok_bind H
  refine r_putF hZ hI fl_X3_11_3 dX3_init_10 eh2 rfl rfl rfl ?_
  refine r_aload_n hZ dX3_init_13 rfl ?_
  refine r_bipush (v := (J 16)) hZ dX3_init_14 (by decide) ?_
  obtain ⟨u3, eu3, H⟩ := ok_bind H
  refine r_newI (len := 16) hZ hN wa_int (by decide) (by decide) (by decide) dX3_init_16 (cap_le eu3) (Nat.le_refl 0) ?_
  obtain ⟨h4, eh4, H⟩ := ok_bind H
  refine r_putF hZ hI fl_X3_17_3 dX3_init_18 eh4 rfl rfl rfl ?_
  refine r_aload_n hZ dX3_init_21 rfl ?_
  refine r_bipush (v := (J 16)) hZ dX3_init_22 (by decide) ?_
  obtain ⟨u5, eu5, H⟩ := ok_bind H
  refine r_newI (len := 16) hZ hN wa_int (by decide) (by decide) (by decide) dX3_init_24 (cap_le eu5) (Nat.le_refl 0) ?_
  obtain ⟨h6, eh6, H⟩ := ok_bind H
  refine r_putF hZ hI fl_X3_21_3 dX3_init_26 eh6 rfl rfl rfl ?_
  refine r_aload_n hZ dX3_init_29 rfl ?_
  refine r_bipush (v := (J 16)) hZ dX3_init_30 (by decide) ?_
  obtain ⟨u7, eu7, H⟩ := ok_bind H
  refine r_newI (len := 16) hZ hN wa_int (by decide) (by decide) (by decide) dX3_init_32 (cap_le eu7) (Nat.le_refl 0) ?_
  obtain ⟨h8, eh8, H⟩ := ok_bind H
  refine r_putF hZ hI fl_X3_24_3 dX3_init_34 eh8 rfl rfl rfl ?_
  refine r_iconst (v := (J 0)) hZ dX3_init_37 (by decide) ?_
  obtain ⟨x9, ex9, H⟩ := ok_bind H
  refine r_topi ex9 ?_
  refine r_istore_n hZ dX3_init_38 (by decide) (r_pick [0, 1] (ls' := [(0, .ref a0), (1, .int x9)]) rfl ?_)
  have H := ok_bindK H
  refine r_pick [0, 1] (ls' := [(0, .ref a0), (1, .int x9)]) rfl (l_X3_init_39 hZ hN hI (fun e10 H => ?_) FU _ H)
  · obtain ⟨u11, eu11, H⟩ := ok_bind H
    have H := ok_some H
    subst H
    have eu11 := eqn_eq eu11
    rw [eu11]
    exact r_ret hZ hF dX3_init_64
def b_X3_takeFrom_10 (p0 : Nat) (p1 : Nat) (s : Int32 × Hp) : Option ((Int32 × Hp) ⊕ ((Hp))) :=
  (gI s.2 p0 3 1).bind fun x1 =>
  (if x1 ≤ s.1 then
    some (.inr (s.2))
  else
    (gR s.2 p0 3 0).bind fun x2 =>
    (aR s.2 x2 3 s.1).bind fun x3 =>
    (gR s.2 p1 3 0).bind fun x4 =>
    (aR s.2 x4 3 s.1).bind fun x5 =>
    (isO s.2 x3 0).bind fun u6 =>
    (f_X0_takeFrom s.2 x3 x5).bind fun r7 =>
    (some (s.1 + (J 1))).bind fun x8 =>
    some (.inl (x8, r7)))
set_option maxRecDepth 100000 in
set_option maxHeartbeats 4000000 in
theorem l_X3_takeFrom_10 {Z : Zc} (hZ : Fx cX3_takeFrom RX3 3 3 0 Z) {n : Nat} {p0 : Nat} {p1 : Nat} {P : ((Hp)) → Prop} (hx0 : ∀ e : Hp, P (e) → R Z 39 [(0, .ref p0), (1, .ref p1)] [] n e 0) : ∀ (m : Nat) (s : Int32 × Hp), Ok (iter (b_X3_takeFrom_10 p0 p1) m s) P → R Z 10 [(0, .ref p0), (1, .ref p1), (2, .int s.1)] [] n s.2 0 := by
  intro m
  induction m with
  | zero => exact fun s H => ok_iter0 H
  | succ m ih =>
    intro s H
    have H := ok_iter H
    unfold b_X3_takeFrom_10 at H
    refine r_iload_n hZ dX3_takeFrom_10 rfl ?_
    refine r_aload_n hZ dX3_takeFrom_11 rfl ?_
    obtain ⟨x1, ex1, H⟩ := ok_bind H
    refine r_getI hZ fl_X3_28_3 dX3_takeFrom_12 ex1 ?_
    refine r_icmp_ge (tgt := 39) hZ dX3_takeFrom_15 (by decide) (fun c9 => ?_) (fun c9 => ?_)
    · have H := ok_t H c9
      exact r_pick [0, 1] (ls' := [(0, .ref p0), (1, .ref p1)]) rfl (hx0 _ (ki_r H))
    · have H := ok_f H c9
      refine r_aload_n hZ dX3_takeFrom_18 rfl ?_
      obtain ⟨x2, ex2, H⟩ := ok_bind H
      refine r_getR hZ fl_X3_11_3 dX3_takeFrom_19 ex2 ?_
      refine r_iload_n hZ dX3_takeFrom_22 rfl ?_
      obtain ⟨x3, ex3, H⟩ := ok_bind H
      refine r_aR hZ dX3_takeFrom_23 ex3 (fun _ => rfl) (Or.inl ⟨_, rfl⟩) ?_
      refine r_aload_n hZ dX3_takeFrom_24 rfl ?_
      obtain ⟨x4, ex4, H⟩ := ok_bind H
      refine r_getR hZ fl_X3_11_3 dX3_takeFrom_25 ex4 ?_
      refine r_iload_n hZ dX3_takeFrom_28 rfl ?_
      obtain ⟨x5, ex5, H⟩ := ok_bind H
      refine r_aR hZ dX3_takeFrom_29 ex5 (fun _ => rfl) (Or.inl ⟨_, rfl⟩) ?_
      obtain ⟨u6, eu6, H⟩ := ok_bind H
      obtain ⟨r7, er7, H⟩ := ok_bind H
      refine r_callV (As := [.ref x5]) (rest := []) (st1 := []) (N2 := 0) hZ dX3_takeFrom_30 cw_X3_32_X0 rfl eu6 (s_X0_takeFrom er7) rfl rfl (by decide) (Nat.le_of_ble_eq_true rfl) (Nat.le_refl 0) (Nat.le_refl _) (Or.inl rfl) rfl ?_
      obtain ⟨x8, ex8, H⟩ := ok_bind H
      refine r_iincE (w := (J 1)) hZ dX3_takeFrom_33 (by decide) rfl (by decide) ex8 (r_pick [0, 1, 2] (ls' := [(0, .ref p0), (1, .ref p1), (2, .int x8)]) rfl ?_)
      refine r_goto (tgt := 10) hZ dX3_takeFrom_36 (by decide) ?_
      exact r_pick [0, 1, 2] (ls' := [(0, .ref p0), (1, .ref p1), (2, .int x8)]) rfl (ih _ (ki_l H))
def f_X3_takeFrom  (h : Hp) (a0 : Nat) (a1 : Nat) : Option (Hp) :=
  (gI h a1 3 1).bind fun x1 =>
  (pF h a0 3 1 (.int x1)).bind fun h2 =>
  (some (J 0)).bind fun x3 =>
  (iter (b_X3_takeFrom_10 a0 a1) FU (x3, h2)).bind fun e4 =>
  (gI e4 a1 3 5).bind fun x5 =>
  (pF e4 a0 3 5 (.int x5)).bind fun h6 =>
  (gR h6 a1 3 2).bind fun x7 =>
  (gR h6 a0 3 2).bind fun x8 =>
  (cpI h6 x7 (J 0) x8 (J 0) (J 16)).bind fun h9 =>
  (gR h9 a1 3 3).bind fun x10 =>
  (gR h9 a0 3 3).bind fun x11 =>
  (cpI h9 x10 (J 0) x11 (J 0) (J 16)).bind fun h12 =>
  (gR h12 a1 3 4).bind fun x13 =>
  (gR h12 a0 3 4).bind fun x14 =>
  (cpI h12 x13 (J 0) x14 (J 0) (J 16)).bind fun h15 =>
  some h15
set_option maxRecDepth 100000 in
set_option maxHeartbeats 4000000 in
theorem s_X3_takeFrom {n : Nat} {h : Hp} {a0 : Nat} {a1 : Nat}  {r : Hp} (hf : f_X3_takeFrom  h a0 a1 = some r) : Ev 3 yX3_takeFrom cX3_takeFrom 3 none [.ref a0, .ref a1] n h none n r := by
  refine Ev_of RX3 rfl (by decide) (Nat.le_of_ble_eq_true rfl) (Nat.le_refl _) (Or.inl rfl) (fun Z hZ hF hN hI => ?_)
  have H : Ok (f_X3_takeFrom  h a0 a1) (fun y => y = r) := ⟨_, hf, rfl⟩
  unfold f_X3_takeFrom at H
  refine r_ls (ls' := [(0, .ref a0), (1, .ref a1)]) rfl ?_
  refine r_aload_n hZ dX3_takeFrom_0 rfl ?_
  refine r_aload_n hZ dX3_takeFrom_1 rfl ?_
  obtain ⟨x1, ex1, H⟩ := ok_bind H
  refine r_getI hZ fl_X3_28_3 dX3_takeFrom_2 ex1 ?_
  obtain ⟨h2, eh2, H⟩ := ok_bind H
  refine r_putf hZ fl_X3_28_3 dX3_takeFrom_5 eh2 rfl rfl ?_
  refine r_iconst (v := (J 0)) hZ dX3_takeFrom_8 (by decide) ?_
  obtain ⟨x3, ex3, H⟩ := ok_bind H
  refine r_topi ex3 ?_
  refine r_istore_n hZ dX3_takeFrom_9 (by decide) (r_pick [0, 1, 2] (ls' := [(0, .ref a0), (1, .ref a1), (2, .int x3)]) rfl ?_)
  have H := ok_bindK H
  refine r_pick [0, 1, 2] (ls' := [(0, .ref a0), (1, .ref a1), (2, .int x3)]) rfl (l_X3_takeFrom_10 hZ (fun e4 H => ?_) FU _ H)
  · refine r_aload_n hZ dX3_takeFrom_39 rfl ?_
    refine r_aload_n hZ dX3_takeFrom_40 rfl ?_
    obtain ⟨x5, ex5, H⟩ := ok_bind H
    refine r_getI hZ fl_X3_36_3 dX3_takeFrom_41 ex5 ?_
    obtain ⟨h6, eh6, H⟩ := ok_bind H
    refine r_putf hZ fl_X3_36_3 dX3_takeFrom_44 eh6 rfl rfl ?_
    refine r_aload_n hZ dX3_takeFrom_47 rfl ?_
    obtain ⟨x7, ex7, H⟩ := ok_bind H
    refine r_getR hZ fl_X3_17_3 dX3_takeFrom_48 ex7 ?_
    refine r_iconst (v := (J 0)) hZ dX3_takeFrom_51 (by decide) ?_
    refine r_aload_n hZ dX3_takeFrom_52 rfl ?_
    obtain ⟨x8, ex8, H⟩ := ok_bind H
    refine r_getR hZ fl_X3_17_3 dX3_takeFrom_53 ex8 ?_
    refine r_iconst (v := (J 0)) hZ dX3_takeFrom_56 (by decide) ?_
    refine r_bipush (v := (J 16)) hZ dX3_takeFrom_57 (by decide) ?_
    obtain ⟨h9, eh9, H⟩ := ok_bind H
    refine r_cpI hZ dX3_takeFrom_59 wC_X3_39 eh9 (by decide) (Nat.le_of_ble_eq_true rfl) ?_
    refine r_aload_n hZ dX3_takeFrom_62 rfl ?_
    obtain ⟨x10, ex10, H⟩ := ok_bind H
    refine r_getR hZ fl_X3_21_3 dX3_takeFrom_63 ex10 ?_
    refine r_iconst (v := (J 0)) hZ dX3_takeFrom_66 (by decide) ?_
    refine r_aload_n hZ dX3_takeFrom_67 rfl ?_
    obtain ⟨x11, ex11, H⟩ := ok_bind H
    refine r_getR hZ fl_X3_21_3 dX3_takeFrom_68 ex11 ?_
    refine r_iconst (v := (J 0)) hZ dX3_takeFrom_71 (by decide) ?_
    refine r_bipush (v := (J 16)) hZ dX3_takeFrom_72 (by decide) ?_
    obtain ⟨h12, eh12, H⟩ := ok_bind H
    refine r_cpI hZ dX3_takeFrom_74 wC_X3_39 eh12 (by decide) (Nat.le_of_ble_eq_true rfl) ?_
    refine r_aload_n hZ dX3_takeFrom_77 rfl ?_
    obtain ⟨x13, ex13, H⟩ := ok_bind H
    refine r_getR hZ fl_X3_24_3 dX3_takeFrom_78 ex13 ?_
    refine r_iconst (v := (J 0)) hZ dX3_takeFrom_81 (by decide) ?_
    refine r_aload_n hZ dX3_takeFrom_82 rfl ?_
    obtain ⟨x14, ex14, H⟩ := ok_bind H
    refine r_getR hZ fl_X3_24_3 dX3_takeFrom_83 ex14 ?_
    refine r_iconst (v := (J 0)) hZ dX3_takeFrom_86 (by decide) ?_
    refine r_bipush (v := (J 16)) hZ dX3_takeFrom_87 (by decide) ?_
    obtain ⟨h15, eh15, H⟩ := ok_bind H
    refine r_cpI hZ dX3_takeFrom_89 wC_X3_39 eh15 (by decide) (Nat.le_of_ble_eq_true rfl) ?_
    have H := ok_some H
    subst H
    exact r_ret hZ hF dX3_takeFrom_92
def f_X3_addGear  (h : Hp) (a0 : Nat) (a1 : Int32) (a2 : Int32) (a3 : Int32) : Option (Int32 × Hp) :=
  (f_X11_isWithin a1 (J 0) (J 4)).bind fun r1 =>
  (if r1 = 0 then
    some ((J 0), h)
  else
    (f_X11_isWithin a2 (J 4) (J 99)).bind fun r2 =>
    (if r2 = 0 then
      some ((J 0), h)
    else
      (f_X11_isWithin a3 (J 0) (J 7)).bind fun r3 =>
      (if r3 = 0 then
        some ((J 0), h)
      else
        (gI h a0 3 1).bind fun x4 =>
        (if x4 < (J 12) then
          (gR h a0 3 0).bind fun x5 =>
          (gI h a0 3 1).bind fun x6 =>
          (aR h x5 3 x6).bind fun x7 =>
          (gI h a0 3 1).bind fun x8 =>
          (isO h x7 0).bind fun u9 =>
          (f_X0_become h x7 x8 a1 a2 a3).bind fun r10 =>
          (gI r10 a0 3 1).bind fun x11 =>
          (pF r10 a0 3 1 (.int (x11 + (J 1)))).bind fun h12 =>
          some ((J 1), h12)
        else
          some ((J 0), h)))))
set_option maxRecDepth 100000 in
set_option maxHeartbeats 4000000 in
theorem s_X3_addGear {n : Nat} {h : Hp} {a0 : Nat} {a1 : Int32} {a2 : Int32} {a3 : Int32}  {r : Int32 × Hp} (hf : f_X3_addGear  h a0 a1 a2 a3 = some r) : Ev 4 yX3_addGear cX3_addGear 4 (some .boolean) [.ref a0, .int a1, .int a2, .int a3] n h (some (.int r.1)) n r.2 := by
  refine Ev_of RX3 rfl (by decide) (Nat.le_of_ble_eq_true rfl) (Nat.le_refl _) (Or.inl rfl) (fun Z hZ hF hN hI => ?_)
  have H : Ok (f_X3_addGear  h a0 a1 a2 a3) (fun y => y = r) := ⟨_, hf, rfl⟩
  unfold f_X3_addGear at H
  refine r_ls (ls' := [(0, .ref a0), (1, .int a1), (2, .int a2), (3, .int a3)]) rfl ?_
  refine r_iload_n hZ dX3_addGear_0 rfl ?_
  refine r_iconst (v := (J 0)) hZ dX3_addGear_1 (by decide) ?_
  refine r_iconst (v := (J 4)) hZ dX3_addGear_2 (by decide) ?_
  obtain ⟨r1, er1, H⟩ := ok_bind H
  refine r_callSN (As := [.int a1, .int (J 0), .int (J 4)]) (rest := []) (st1 := [.int r1]) (N2 := 0) hZ dX3_addGear_3 cw_X3_64 (s_X11_isWithin er1) rfl rfl (by decide) (Nat.le_of_ble_eq_true rfl) (Nat.le_refl 0) (Nat.le_refl _) (Or.inl rfl) rfl ?_
  refine r_if_eq (tgt := 38) hZ dX3_addGear_6 (by decide) (fun c16 => ?_) (fun c16 => ?_)
  · have H := ok_t H c16
    refine r_iconst (v := (J 0)) hZ dX3_addGear_38 (by decide) ?_
    have H := ok_some H
    subst H
    exact r_zret hZ hF (by decide) dX3_addGear_39
  · have H := ok_f H c16
    refine r_iload_n hZ dX3_addGear_9 rfl ?_
    refine r_iconst (v := (J 4)) hZ dX3_addGear_10 (by decide) ?_
    refine r_bipush (v := (J 99)) hZ dX3_addGear_11 (by decide) ?_
    obtain ⟨r2, er2, H⟩ := ok_bind H
    refine r_callSN (As := [.int a2, .int (J 4), .int (J 99)]) (rest := []) (st1 := [.int r2]) (N2 := 0) hZ dX3_addGear_13 cw_X3_64 (s_X11_isWithin er2) rfl rfl (by decide) (Nat.le_of_ble_eq_true rfl) (Nat.le_refl 0) (Nat.le_refl _) (Or.inl rfl) rfl ?_
    refine r_if_eq (tgt := 38) hZ dX3_addGear_16 (by decide) (fun c15 => ?_) (fun c15 => ?_)
    · have H := ok_t H c15
      refine r_iconst (v := (J 0)) hZ dX3_addGear_38 (by decide) ?_
      have H := ok_some H
      subst H
      exact r_zret hZ hF (by decide) dX3_addGear_39
    · have H := ok_f H c15
      refine r_iload_n hZ dX3_addGear_19 rfl ?_
      refine r_iconst (v := (J 0)) hZ dX3_addGear_20 (by decide) ?_
      refine r_bipush (v := (J 7)) hZ dX3_addGear_21 (by decide) ?_
      obtain ⟨r3, er3, H⟩ := ok_bind H
      refine r_callSN (As := [.int a3, .int (J 0), .int (J 7)]) (rest := []) (st1 := [.int r3]) (N2 := 0) hZ dX3_addGear_23 cw_X3_64 (s_X11_isWithin er3) rfl rfl (by decide) (Nat.le_of_ble_eq_true rfl) (Nat.le_refl 0) (Nat.le_refl _) (Or.inl rfl) rfl ?_
      refine r_if_eq (tgt := 38) hZ dX3_addGear_26 (by decide) (fun c14 => ?_) (fun c14 => ?_)
      · have H := ok_t H c14
        refine r_iconst (v := (J 0)) hZ dX3_addGear_38 (by decide) ?_
        have H := ok_some H
        subst H
        exact r_zret hZ hF (by decide) dX3_addGear_39
      · have H := ok_f H c14
        refine r_aload_n hZ dX3_addGear_29 rfl ?_
        obtain ⟨x4, ex4, H⟩ := ok_bind H
        refine r_getI hZ fl_X3_28_3 dX3_addGear_30 ex4 ?_
        refine r_bipush (v := (J 12)) hZ dX3_addGear_33 (by decide) ?_
        refine r_icmp_lt (tgt := 40) hZ dX3_addGear_35 (by decide) (fun c13 => ?_) (fun c13 => ?_)
        · have H := ok_t H c13
          refine r_aload_n hZ dX3_addGear_40 rfl ?_
          obtain ⟨x5, ex5, H⟩ := ok_bind H
          refine r_getR hZ fl_X3_11_3 dX3_addGear_41 ex5 ?_
          refine r_aload_n hZ dX3_addGear_44 rfl ?_
          obtain ⟨x6, ex6, H⟩ := ok_bind H
          refine r_getI hZ fl_X3_28_3 dX3_addGear_45 ex6 ?_
          obtain ⟨x7, ex7, H⟩ := ok_bind H
          refine r_aR hZ dX3_addGear_48 ex7 (fun _ => rfl) (Or.inl ⟨_, rfl⟩) ?_
          refine r_aload_n hZ dX3_addGear_49 rfl ?_
          obtain ⟨x8, ex8, H⟩ := ok_bind H
          refine r_getI hZ fl_X3_28_3 dX3_addGear_50 ex8 ?_
          refine r_iload_n hZ dX3_addGear_53 rfl ?_
          refine r_iload_n hZ dX3_addGear_54 rfl ?_
          refine r_iload_n hZ dX3_addGear_55 rfl ?_
          obtain ⟨u9, eu9, H⟩ := ok_bind H
          obtain ⟨r10, er10, H⟩ := ok_bind H
          refine r_callV (As := [.int x8, .int a1, .int a2, .int a3]) (rest := []) (st1 := []) (N2 := 0) hZ dX3_addGear_56 cw_X3_67_X0 rfl eu9 (s_X0_become er10) rfl rfl (by decide) (Nat.le_of_ble_eq_true rfl) (Nat.le_refl 0) (Nat.le_refl _) (Or.inl rfl) rfl ?_
          refine r_aload_n hZ dX3_addGear_59 rfl ?_
          refine r_dup_a hZ dX3_addGear_60 ?_
          obtain ⟨x11, ex11, H⟩ := ok_bind H
          refine r_getI hZ fl_X3_28_3 dX3_addGear_61 ex11 ?_
          refine r_iconst (v := (J 1)) hZ dX3_addGear_64 (by decide) ?_
          refine r_iadd hZ dX3_addGear_65 ?_
          obtain ⟨h12, eh12, H⟩ := ok_bind H
          refine r_putf hZ fl_X3_28_3 dX3_addGear_66 eh12 rfl rfl ?_
          refine r_iconst (v := (J 1)) hZ dX3_addGear_69 (by decide) ?_
          have H := ok_some H
          subst H
          exact r_zret hZ hF (by decide) dX3_addGear_70
        · have H := ok_f H c13
          refine r_iconst (v := (J 0)) hZ dX3_addGear_38 (by decide) ?_
          have H := ok_some H
          subst H
          exact r_zret hZ hF (by decide) dX3_addGear_39
def b_X3_meshOf_2 (h : Hp) (p0 : Nat) (p1 : Int32) (p2 : Int32) (s : Int32) : Option ((Int32) ⊕ ((Unit) ⊕ (Int32))) :=
  (gI h p0 3 5).bind fun x1 =>
  (if x1 ≤ s then
    some (.inr (.inl ()))
  else
    (gR h p0 3 2).bind fun x2 =>
    (aI h x2 s).bind fun x3 =>
    (if x3 = p1 then
      (gR h p0 3 3).bind fun x12 =>
      (aI h x12 s).bind fun x13 =>
      (if x13 = p2 then
        some (.inr (.inr s))
      else
        (gR h p0 3 2).bind fun x14 =>
        (aI h x14 s).bind fun x15 =>
        (if x15 = p2 then
          (gR h p0 3 3).bind fun x17 =>
          (aI h x17 s).bind fun x18 =>
          (if x18 = p1 then
            some (.inr (.inr s))
          else
            (some (s + (J 1))).bind fun x19 =>
            some (.inl x19))
        else
          (some (s + (J 1))).bind fun x16 =>
          some (.inl x16)))
    else
      (gR h p0 3 2).bind fun x4 =>
      (aI h x4 s).bind fun x5 =>
      (if x5 = p2 then
        (gR h p0 3 3).bind fun x7 =>
        (aI h x7 s).bind fun x8 =>
        (if x8 = p1 then
          some (.inr (.inr s))
        else
          (some (s + (J 1))).bind fun x9 =>
          some (.inl x9))
      else
        (some (s + (J 1))).bind fun x6 =>
        some (.inl x6))))
set_option maxRecDepth 100000 in
set_option maxHeartbeats 4000000 in
theorem l_X3_meshOf_2 {Z : Zc} (hZ : Fx cX3_meshOf RX3 4 2 0 Z) {n : Nat} {h : Hp} {p0 : Nat} {p1 : Int32} {p2 : Int32} {P : ((Unit) ⊕ (Int32)) → Prop} (hx0 : ∀ e : Unit, P (.inl e) → R Z 58 [] [] n h 0) (hx1 : ∀ e : Int32, P (.inr e) → R Z 50 [(3, .int e)] [] n h 0) : ∀ (m : Nat) (s : Int32), Ok (iter (b_X3_meshOf_2 h p0 p1 p2) m s) P → R Z 2 [(0, .ref p0), (1, .int p1), (2, .int p2), (3, .int s)] [] n h 0 := by
  intro m
  induction m with
  | zero => exact fun s H => ok_iter0 H
  | succ m ih =>
    intro s H
    have H := ok_iter H
    unfold b_X3_meshOf_2 at H
    refine r_iload_n hZ dX3_meshOf_2 rfl ?_
    refine r_aload_n hZ dX3_meshOf_3 rfl ?_
    obtain ⟨x1, ex1, H⟩ := ok_bind H
    refine r_getI hZ fl_X3_36_3 dX3_meshOf_4 ex1 ?_
    refine r_icmp_ge (tgt := 58) hZ dX3_meshOf_7 (by decide) (fun c24 => ?_) (fun c24 => ?_)
    · have H := ok_t H c24
      exact r_pick [] (ls' := []) rfl (hx0 _ (ki_r H))
    · have H := ok_f H c24
      refine r_aload_n hZ dX3_meshOf_10 rfl ?_
      obtain ⟨x2, ex2, H⟩ := ok_bind H
      refine r_getR hZ fl_X3_17_3 dX3_meshOf_11 ex2 ?_
      refine r_iload_n hZ dX3_meshOf_14 rfl ?_
      obtain ⟨x3, ex3, H⟩ := ok_bind H
      refine r_aI hZ dX3_meshOf_15 ex3 ?_
      refine r_iload_n hZ dX3_meshOf_16 rfl ?_
      refine r_icmp_ne (tgt := 30) hZ dX3_meshOf_17 (by decide) (fun c23 => ?_) (fun c23 => ?_)
      · have H := ok_f H c23
        refine r_aload_n hZ dX3_meshOf_30 rfl ?_
        obtain ⟨x4, ex4, H⟩ := ok_bind H
        refine r_getR hZ fl_X3_17_3 dX3_meshOf_31 ex4 ?_
        refine r_iload_n hZ dX3_meshOf_34 rfl ?_
        obtain ⟨x5, ex5, H⟩ := ok_bind H
        refine r_aI hZ dX3_meshOf_35 ex5 ?_
        refine r_iload_n hZ dX3_meshOf_36 rfl ?_
        refine r_icmp_ne (tgt := 52) hZ dX3_meshOf_37 (by decide) (fun c11 => ?_) (fun c11 => ?_)
        · have H := ok_f H c11
          obtain ⟨x6, ex6, H⟩ := ok_bind H
          refine r_iincE (w := (J 1)) hZ dX3_meshOf_52 (by decide) rfl (by decide) ex6 (r_pick [0, 1, 2, 3] (ls' := [(0, .ref p0), (1, .int p1), (2, .int p2), (3, .int x6)]) rfl ?_)
          refine r_goto (tgt := 2) hZ dX3_meshOf_55 (by decide) ?_
          exact r_pick [0, 1, 2, 3] (ls' := [(0, .ref p0), (1, .int p1), (2, .int p2), (3, .int x6)]) rfl (ih _ (ki_l H))
        · have H := ok_t H c11
          refine r_aload_n hZ dX3_meshOf_40 rfl ?_
          obtain ⟨x7, ex7, H⟩ := ok_bind H
          refine r_getR hZ fl_X3_21_3 dX3_meshOf_41 ex7 ?_
          refine r_iload_n hZ dX3_meshOf_44 rfl ?_
          obtain ⟨x8, ex8, H⟩ := ok_bind H
          refine r_aI hZ dX3_meshOf_45 ex8 ?_
          refine r_iload_n hZ dX3_meshOf_46 rfl ?_
          refine r_icmp_ne (tgt := 52) hZ dX3_meshOf_47 (by decide) (fun c10 => ?_) (fun c10 => ?_)
          · have H := ok_f H c10
            obtain ⟨x9, ex9, H⟩ := ok_bind H
            refine r_iincE (w := (J 1)) hZ dX3_meshOf_52 (by decide) rfl (by decide) ex9 (r_pick [0, 1, 2, 3] (ls' := [(0, .ref p0), (1, .int p1), (2, .int p2), (3, .int x9)]) rfl ?_)
            refine r_goto (tgt := 2) hZ dX3_meshOf_55 (by decide) ?_
            exact r_pick [0, 1, 2, 3] (ls' := [(0, .ref p0), (1, .int p1), (2, .int p2), (3, .int x9)]) rfl (ih _ (ki_l H))
          · have H := ok_t H c10
            exact r_pick [3] (ls' := [(3, .int s)]) rfl (hx1 _ (ki_r H))
      · have H := ok_t H c23
        refine r_aload_n hZ dX3_meshOf_20 rfl ?_
        obtain ⟨x12, ex12, H⟩ := ok_bind H
        refine r_getR hZ fl_X3_21_3 dX3_meshOf_21 ex12 ?_
        refine r_iload_n hZ dX3_meshOf_24 rfl ?_
        obtain ⟨x13, ex13, H⟩ := ok_bind H
        refine r_aI hZ dX3_meshOf_25 ex13 ?_
        refine r_iload_n hZ dX3_meshOf_26 rfl ?_
        refine r_icmp_eq (tgt := 50) hZ dX3_meshOf_27 (by decide) (fun c22 => ?_) (fun c22 => ?_)
        · have H := ok_t H c22
          exact r_pick [3] (ls' := [(3, .int s)]) rfl (hx1 _ (ki_r H))
        · have H := ok_f H c22
          refine r_aload_n hZ dX3_meshOf_30 rfl ?_
          obtain ⟨x14, ex14, H⟩ := ok_bind H
          refine r_getR hZ fl_X3_17_3 dX3_meshOf_31 ex14 ?_
          refine r_iload_n hZ dX3_meshOf_34 rfl ?_
          obtain ⟨x15, ex15, H⟩ := ok_bind H
          refine r_aI hZ dX3_meshOf_35 ex15 ?_
          refine r_iload_n hZ dX3_meshOf_36 rfl ?_
          refine r_icmp_ne (tgt := 52) hZ dX3_meshOf_37 (by decide) (fun c21 => ?_) (fun c21 => ?_)
          · have H := ok_f H c21
            obtain ⟨x16, ex16, H⟩ := ok_bind H
            refine r_iincE (w := (J 1)) hZ dX3_meshOf_52 (by decide) rfl (by decide) ex16 (r_pick [0, 1, 2, 3] (ls' := [(0, .ref p0), (1, .int p1), (2, .int p2), (3, .int x16)]) rfl ?_)
            refine r_goto (tgt := 2) hZ dX3_meshOf_55 (by decide) ?_
            exact r_pick [0, 1, 2, 3] (ls' := [(0, .ref p0), (1, .int p1), (2, .int p2), (3, .int x16)]) rfl (ih _ (ki_l H))
          · have H := ok_t H c21
            refine r_aload_n hZ dX3_meshOf_40 rfl ?_
            obtain ⟨x17, ex17, H⟩ := ok_bind H
            refine r_getR hZ fl_X3_21_3 dX3_meshOf_41 ex17 ?_
            refine r_iload_n hZ dX3_meshOf_44 rfl ?_
            obtain ⟨x18, ex18, H⟩ := ok_bind H
            refine r_aI hZ dX3_meshOf_45 ex18 ?_
            refine r_iload_n hZ dX3_meshOf_46 rfl ?_
            refine r_icmp_ne (tgt := 52) hZ dX3_meshOf_47 (by decide) (fun c20 => ?_) (fun c20 => ?_)
            · have H := ok_f H c20
              obtain ⟨x19, ex19, H⟩ := ok_bind H
              refine r_iincE (w := (J 1)) hZ dX3_meshOf_52 (by decide) rfl (by decide) ex19 (r_pick [0, 1, 2, 3] (ls' := [(0, .ref p0), (1, .int p1), (2, .int p2), (3, .int x19)]) rfl ?_)
              refine r_goto (tgt := 2) hZ dX3_meshOf_55 (by decide) ?_
              exact r_pick [0, 1, 2, 3] (ls' := [(0, .ref p0), (1, .int p1), (2, .int p2), (3, .int x19)]) rfl (ih _ (ki_l H))
            · have H := ok_t H c20
              exact r_pick [3] (ls' := [(3, .int s)]) rfl (hx1 _ (ki_r H))
def f_X3_meshOf  (h : Hp) (a0 : Nat) (a1 : Int32) (a2 : Int32) : Option (Int32) :=
  (some (J 0)).bind fun x1 =>
  (iter (b_X3_meshOf_2 h a0 a1 a2) FU x1).bind fun e2 =>
  (match e2 with
  | .inl e3 =>
    some (J (-4))
  | .inr e4 =>
    some e4)
set_option maxRecDepth 100000 in
set_option maxHeartbeats 4000000 in
theorem s_X3_meshOf {n : Nat} {h : Hp} {a0 : Nat} {a1 : Int32} {a2 : Int32}  {r : Int32} (hf : f_X3_meshOf  h a0 a1 a2 = some r) : Ev 2 yX3_meshOf cX3_meshOf 4 (some .int) [.ref a0, .int a1, .int a2] n h (some (.int r)) n h := by
  refine Ev_of RX3 rfl (by decide) (Nat.le_of_ble_eq_true rfl) (Nat.le_refl _) (Or.inl rfl) (fun Z hZ hF hN hI => ?_)
  have H : Ok (f_X3_meshOf  h a0 a1 a2) (fun y => y = r) := ⟨_, hf, rfl⟩
  unfold f_X3_meshOf at H
  refine r_ls (ls' := [(0, .ref a0), (1, .int a1), (2, .int a2)]) rfl ?_
  refine r_iconst (v := (J 0)) hZ dX3_meshOf_0 (by decide) ?_
  obtain ⟨x1, ex1, H⟩ := ok_bind H
  refine r_topi ex1 ?_
  refine r_istore_n hZ dX3_meshOf_1 (by decide) (r_pick [0, 1, 2, 3] (ls' := [(0, .ref a0), (1, .int a1), (2, .int a2), (3, .int x1)]) rfl ?_)
  have H := ok_bindK H
  refine r_pick [0, 1, 2, 3] (ls' := [(0, .ref a0), (1, .int a1), (2, .int a2), (3, .int x1)]) rfl (l_X3_meshOf_2 hZ (fun e3 H => ?_) (fun e4 H => ?_) FU _ H)
  · refine r_bipush (v := (J (-4))) hZ dX3_meshOf_58 (by decide) ?_
    have H := ok_some H
    subst H
    exact r_iret hZ hF dX3_meshOf_60
  · refine r_iload_n hZ dX3_meshOf_50 rfl ?_
    have H := ok_some H
    subst H
    exact r_iret hZ hF dX3_meshOf_51
def f_X3_addMesh  (h : Hp) (a0 : Nat) (a1 : Int32) (a2 : Int32) : Option (Int32 × Hp) :=
  (gI h a0 3 1).bind fun x1 =>
  (f_X11_isWithin a1 (J 0) (x1 - (J 1))).bind fun r2 =>
  (if r2 = 0 then
    some ((J 0), h)
  else
    (gI h a0 3 1).bind fun x3 =>
    (f_X11_isWithin a2 (J 0) (x3 - (J 1))).bind fun r4 =>
    (if r4 = 0 then
      some ((J 0), h)
    else
      (if a1 = a2 then
        some ((J 0), h)
      else
        (gR h a0 3 0).bind fun x5 =>
        (aR h x5 3 a1).bind fun x6 =>
        (isO h x6 0).bind fun u7 =>
        (f_X0_isRing h x6).bind fun r8 =>
        (if r8 = 0 then
          (isO h a0 3).bind fun u9 =>
          (f_X3_meshOf h a0 a1 a2).bind fun r10 =>
          (if r10 = (J (-4)) then
            (gI h a0 3 5).bind fun x11 =>
            (if x11 < (J 16) then
              (gR h a0 3 2).bind fun x12 =>
              (gI h a0 3 5).bind fun x13 =>
              (sI h x12 x13 a1).bind fun h14 =>
              (gR h14 a0 3 3).bind fun x15 =>
              (gI h14 a0 3 5).bind fun x16 =>
              (sI h14 x15 x16 a2).bind fun h17 =>
              (gR h17 a0 3 4).bind fun x18 =>
              (gI h17 a0 3 5).bind fun x19 =>
              (sI h17 x18 x19 (J 62)).bind fun h20 =>
              (gI h20 a0 3 5).bind fun x21 =>
              (pF h20 a0 3 5 (.int (x21 + (J 1)))).bind fun h22 =>
              some ((J 1), h22)
            else
              some ((J 0), h))
          else
            some ((J 0), h))
        else
          (gR h a0 3 0).bind fun x25 =>
          (aR h x25 3 a2).bind fun x26 =>
          (isO h x26 0).bind fun u27 =>
          (f_X0_isRing h x26).bind fun r28 =>
          (if r28 = 0 then
            (isO h a0 3).bind fun u29 =>
            (f_X3_meshOf h a0 a1 a2).bind fun r30 =>
            (if r30 = (J (-4)) then
              (gI h a0 3 5).bind fun x31 =>
              (if x31 < (J 16) then
                (gR h a0 3 2).bind fun x32 =>
                (gI h a0 3 5).bind fun x33 =>
                (sI h x32 x33 a1).bind fun h34 =>
                (gR h34 a0 3 3).bind fun x35 =>
                (gI h34 a0 3 5).bind fun x36 =>
                (sI h34 x35 x36 a2).bind fun h37 =>
                (gR h37 a0 3 4).bind fun x38 =>
                (gI h37 a0 3 5).bind fun x39 =>
                (sI h37 x38 x39 (J 62)).bind fun h40 =>
                (gI h40 a0 3 5).bind fun x41 =>
                (pF h40 a0 3 5 (.int (x41 + (J 1)))).bind fun h42 =>
                some ((J 1), h42)
              else
                some ((J 0), h))
            else
              some ((J 0), h))
          else
            some ((J 0), h))))))
set_option maxRecDepth 100000 in
set_option maxHeartbeats 4000000 in
theorem s_X3_addMesh {n : Nat} {h : Hp} {a0 : Nat} {a1 : Int32} {a2 : Int32}  {r : Int32 × Hp} (hf : f_X3_addMesh  h a0 a1 a2 = some r) : Ev 3 yX3_addMesh cX3_addMesh 3 (some .boolean) [.ref a0, .int a1, .int a2] n h (some (.int r.1)) n r.2 := by
  refine Ev_of RX3 rfl (by decide) (Nat.le_of_ble_eq_true rfl) (Nat.le_refl _) (Or.inl rfl) (fun Z hZ hF hN hI => ?_)
  have H : Ok (f_X3_addMesh  h a0 a1 a2) (fun y => y = r) := ⟨_, hf, rfl⟩
  unfold f_X3_addMesh at H
  refine r_ls (ls' := [(0, .ref a0), (1, .int a1), (2, .int a2)]) rfl ?_
  refine r_iload_n hZ dX3_addMesh_0 rfl ?_
  refine r_iconst (v := (J 0)) hZ dX3_addMesh_1 (by decide) ?_
  refine r_aload_n hZ dX3_addMesh_2 rfl ?_
  obtain ⟨x1, ex1, H⟩ := ok_bind H
  refine r_getI hZ fl_X3_28_3 dX3_addMesh_3 ex1 ?_
  refine r_iconst (v := (J 1)) hZ dX3_addMesh_6 (by decide) ?_
  refine r_isub hZ dX3_addMesh_7 ?_
  obtain ⟨r2, er2, H⟩ := ok_bind H
  refine r_callSN (As := [.int a1, .int (J 0), .int (x1 - (J 1))]) (rest := []) (st1 := [.int r2]) (N2 := 0) hZ dX3_addMesh_8 cw_X3_64 (s_X11_isWithin er2) rfl rfl (by decide) (Nat.le_of_ble_eq_true rfl) (Nat.le_refl 0) (Nat.le_refl _) (Or.inl rfl) rfl ?_
  refine r_if_eq (tgt := 77) hZ dX3_addMesh_11 (by decide) (fun c49 => ?_) (fun c49 => ?_)
  · have H := ok_t H c49
    refine r_iconst (v := (J 0)) hZ dX3_addMesh_77 (by decide) ?_
    have H := ok_some H
    subst H
    exact r_zret hZ hF (by decide) dX3_addMesh_78
  · have H := ok_f H c49
    refine r_iload_n hZ dX3_addMesh_14 rfl ?_
    refine r_iconst (v := (J 0)) hZ dX3_addMesh_15 (by decide) ?_
    refine r_aload_n hZ dX3_addMesh_16 rfl ?_
    obtain ⟨x3, ex3, H⟩ := ok_bind H
    refine r_getI hZ fl_X3_28_3 dX3_addMesh_17 ex3 ?_
    refine r_iconst (v := (J 1)) hZ dX3_addMesh_20 (by decide) ?_
    refine r_isub hZ dX3_addMesh_21 ?_
    obtain ⟨r4, er4, H⟩ := ok_bind H
    refine r_callSN (As := [.int a2, .int (J 0), .int (x3 - (J 1))]) (rest := []) (st1 := [.int r4]) (N2 := 0) hZ dX3_addMesh_22 cw_X3_64 (s_X11_isWithin er4) rfl rfl (by decide) (Nat.le_of_ble_eq_true rfl) (Nat.le_refl 0) (Nat.le_refl _) (Or.inl rfl) rfl ?_
    refine r_if_eq (tgt := 77) hZ dX3_addMesh_25 (by decide) (fun c48 => ?_) (fun c48 => ?_)
    · have H := ok_t H c48
      refine r_iconst (v := (J 0)) hZ dX3_addMesh_77 (by decide) ?_
      have H := ok_some H
      subst H
      exact r_zret hZ hF (by decide) dX3_addMesh_78
    · have H := ok_f H c48
      refine r_iload_n hZ dX3_addMesh_28 rfl ?_
      refine r_iload_n hZ dX3_addMesh_29 rfl ?_
      refine r_icmp_eq (tgt := 77) hZ dX3_addMesh_30 (by decide) (fun c47 => ?_) (fun c47 => ?_)
      · have H := ok_t H c47
        refine r_iconst (v := (J 0)) hZ dX3_addMesh_77 (by decide) ?_
        have H := ok_some H
        subst H
        exact r_zret hZ hF (by decide) dX3_addMesh_78
      · have H := ok_f H c47
        refine r_aload_n hZ dX3_addMesh_33 rfl ?_
        obtain ⟨x5, ex5, H⟩ := ok_bind H
        refine r_getR hZ fl_X3_11_3 dX3_addMesh_34 ex5 ?_
        refine r_iload_n hZ dX3_addMesh_37 rfl ?_
        obtain ⟨x6, ex6, H⟩ := ok_bind H
        refine r_aR hZ dX3_addMesh_38 ex6 (fun _ => rfl) (Or.inl ⟨_, rfl⟩) ?_
        obtain ⟨u7, eu7, H⟩ := ok_bind H
        obtain ⟨r8, er8, H⟩ := ok_bind H
        refine r_callV (As := []) (rest := []) (st1 := [.int r8]) (N2 := 0) hZ dX3_addMesh_39 cw_X3_71_X0 rfl eu7 (s_X0_isRing er8) rfl rfl (by decide) (Nat.le_of_ble_eq_true rfl) (Nat.le_refl 0) (Nat.le_refl _) (Or.inl rfl) rfl ?_
        refine r_if_eq (tgt := 57) hZ dX3_addMesh_42 (by decide) (fun c46 => ?_) (fun c46 => ?_)
        · have H := ok_t H c46
          refine r_aload_n hZ dX3_addMesh_57 rfl ?_
          refine r_iload_n hZ dX3_addMesh_58 rfl ?_
          refine r_iload_n hZ dX3_addMesh_59 rfl ?_
          obtain ⟨u9, eu9, H⟩ := ok_bind H
          obtain ⟨r10, er10, H⟩ := ok_bind H
          refine r_callV (As := [.int a1, .int a2]) (rest := []) (st1 := [.int r10]) (N2 := 0) hZ dX3_addMesh_60 cw_X3_75_X3 rfl eu9 (s_X3_meshOf er10) rfl rfl (by decide) (Nat.le_of_ble_eq_true rfl) (Nat.le_refl 0) (Nat.le_refl _) (Or.inl rfl) rfl ?_
          refine r_bipush (v := (J (-4))) hZ dX3_addMesh_63 (by decide) ?_
          refine r_icmp_ne (tgt := 77) hZ dX3_addMesh_65 (by decide) (fun c24 => ?_) (fun c24 => ?_)
          · have H := ok_f H c24
            refine r_iconst (v := (J 0)) hZ dX3_addMesh_77 (by decide) ?_
            have H := ok_some H
            subst H
            exact r_zret hZ hF (by decide) dX3_addMesh_78
          · have H := ok_t H c24
            refine r_aload_n hZ dX3_addMesh_68 rfl ?_
            obtain ⟨x11, ex11, H⟩ := ok_bind H
            refine r_getI hZ fl_X3_36_3 dX3_addMesh_69 ex11 ?_
            refine r_bipush (v := (J 16)) hZ dX3_addMesh_72 (by decide) ?_
            refine r_icmp_lt (tgt := 79) hZ dX3_addMesh_74 (by decide) (fun c23 => ?_) (fun c23 => ?_)
            · have H := ok_t H c23
              refine r_aload_n hZ dX3_addMesh_79 rfl ?_
              obtain ⟨x12, ex12, H⟩ := ok_bind H
              refine r_getR hZ fl_X3_17_3 dX3_addMesh_80 ex12 ?_
              refine r_aload_n hZ dX3_addMesh_83 rfl ?_
              obtain ⟨x13, ex13, H⟩ := ok_bind H
              refine r_getI hZ fl_X3_36_3 dX3_addMesh_84 ex13 ?_
              refine r_iload_n hZ dX3_addMesh_87 rfl ?_
              obtain ⟨h14, eh14, H⟩ := ok_bind H
              refine r_sI hZ dX3_addMesh_88 eh14 ?_
              refine r_aload_n hZ dX3_addMesh_89 rfl ?_
              obtain ⟨x15, ex15, H⟩ := ok_bind H
              refine r_getR hZ fl_X3_21_3 dX3_addMesh_90 ex15 ?_
              refine r_aload_n hZ dX3_addMesh_93 rfl ?_
              obtain ⟨x16, ex16, H⟩ := ok_bind H
              refine r_getI hZ fl_X3_36_3 dX3_addMesh_94 ex16 ?_
              refine r_iload_n hZ dX3_addMesh_97 rfl ?_
              obtain ⟨h17, eh17, H⟩ := ok_bind H
              refine r_sI hZ dX3_addMesh_98 eh17 ?_
              refine r_aload_n hZ dX3_addMesh_99 rfl ?_
              obtain ⟨x18, ex18, H⟩ := ok_bind H
              refine r_getR hZ fl_X3_24_3 dX3_addMesh_100 ex18 ?_
              refine r_aload_n hZ dX3_addMesh_103 rfl ?_
              obtain ⟨x19, ex19, H⟩ := ok_bind H
              refine r_getI hZ fl_X3_36_3 dX3_addMesh_104 ex19 ?_
              refine r_bipush (v := (J 62)) hZ dX3_addMesh_107 (by decide) ?_
              obtain ⟨h20, eh20, H⟩ := ok_bind H
              refine r_sI hZ dX3_addMesh_109 eh20 ?_
              refine r_aload_n hZ dX3_addMesh_110 rfl ?_
              refine r_dup_a hZ dX3_addMesh_111 ?_
              obtain ⟨x21, ex21, H⟩ := ok_bind H
              refine r_getI hZ fl_X3_36_3 dX3_addMesh_112 ex21 ?_
              refine r_iconst (v := (J 1)) hZ dX3_addMesh_115 (by decide) ?_
              refine r_iadd hZ dX3_addMesh_116 ?_
              obtain ⟨h22, eh22, H⟩ := ok_bind H
              refine r_putf hZ fl_X3_36_3 dX3_addMesh_117 eh22 rfl rfl ?_
              refine r_iconst (v := (J 1)) hZ dX3_addMesh_120 (by decide) ?_
              have H := ok_some H
              subst H
              exact r_zret hZ hF (by decide) dX3_addMesh_121
            · have H := ok_f H c23
              refine r_iconst (v := (J 0)) hZ dX3_addMesh_77 (by decide) ?_
              have H := ok_some H
              subst H
              exact r_zret hZ hF (by decide) dX3_addMesh_78
        · have H := ok_f H c46
          refine r_aload_n hZ dX3_addMesh_45 rfl ?_
          obtain ⟨x25, ex25, H⟩ := ok_bind H
          refine r_getR hZ fl_X3_11_3 dX3_addMesh_46 ex25 ?_
          refine r_iload_n hZ dX3_addMesh_49 rfl ?_
          obtain ⟨x26, ex26, H⟩ := ok_bind H
          refine r_aR hZ dX3_addMesh_50 ex26 (fun _ => rfl) (Or.inl ⟨_, rfl⟩) ?_
          obtain ⟨u27, eu27, H⟩ := ok_bind H
          obtain ⟨r28, er28, H⟩ := ok_bind H
          refine r_callV (As := []) (rest := []) (st1 := [.int r28]) (N2 := 0) hZ dX3_addMesh_51 cw_X3_71_X0 rfl eu27 (s_X0_isRing er28) rfl rfl (by decide) (Nat.le_of_ble_eq_true rfl) (Nat.le_refl 0) (Nat.le_refl _) (Or.inl rfl) rfl ?_
          refine r_if_ne (tgt := 77) hZ dX3_addMesh_54 (by decide) (fun c45 => ?_) (fun c45 => ?_)
          · have H := ok_f H c45
            refine r_iconst (v := (J 0)) hZ dX3_addMesh_77 (by decide) ?_
            have H := ok_some H
            subst H
            exact r_zret hZ hF (by decide) dX3_addMesh_78
          · have H := ok_t H c45
            refine r_aload_n hZ dX3_addMesh_57 rfl ?_
            refine r_iload_n hZ dX3_addMesh_58 rfl ?_
            refine r_iload_n hZ dX3_addMesh_59 rfl ?_
            obtain ⟨u29, eu29, H⟩ := ok_bind H
            obtain ⟨r30, er30, H⟩ := ok_bind H
            refine r_callV (As := [.int a1, .int a2]) (rest := []) (st1 := [.int r30]) (N2 := 0) hZ dX3_addMesh_60 cw_X3_75_X3 rfl eu29 (s_X3_meshOf er30) rfl rfl (by decide) (Nat.le_of_ble_eq_true rfl) (Nat.le_refl 0) (Nat.le_refl _) (Or.inl rfl) rfl ?_
            refine r_bipush (v := (J (-4))) hZ dX3_addMesh_63 (by decide) ?_
            refine r_icmp_ne (tgt := 77) hZ dX3_addMesh_65 (by decide) (fun c44 => ?_) (fun c44 => ?_)
            · have H := ok_f H c44
              refine r_iconst (v := (J 0)) hZ dX3_addMesh_77 (by decide) ?_
              have H := ok_some H
              subst H
              exact r_zret hZ hF (by decide) dX3_addMesh_78
            · have H := ok_t H c44
              refine r_aload_n hZ dX3_addMesh_68 rfl ?_
              obtain ⟨x31, ex31, H⟩ := ok_bind H
              refine r_getI hZ fl_X3_36_3 dX3_addMesh_69 ex31 ?_
              refine r_bipush (v := (J 16)) hZ dX3_addMesh_72 (by decide) ?_
              refine r_icmp_lt (tgt := 79) hZ dX3_addMesh_74 (by decide) (fun c43 => ?_) (fun c43 => ?_)
              · have H := ok_t H c43
                refine r_aload_n hZ dX3_addMesh_79 rfl ?_
                obtain ⟨x32, ex32, H⟩ := ok_bind H
                refine r_getR hZ fl_X3_17_3 dX3_addMesh_80 ex32 ?_
                refine r_aload_n hZ dX3_addMesh_83 rfl ?_
                obtain ⟨x33, ex33, H⟩ := ok_bind H
                refine r_getI hZ fl_X3_36_3 dX3_addMesh_84 ex33 ?_
                refine r_iload_n hZ dX3_addMesh_87 rfl ?_
                obtain ⟨h34, eh34, H⟩ := ok_bind H
                refine r_sI hZ dX3_addMesh_88 eh34 ?_
                refine r_aload_n hZ dX3_addMesh_89 rfl ?_
                obtain ⟨x35, ex35, H⟩ := ok_bind H
                refine r_getR hZ fl_X3_21_3 dX3_addMesh_90 ex35 ?_
                refine r_aload_n hZ dX3_addMesh_93 rfl ?_
                obtain ⟨x36, ex36, H⟩ := ok_bind H
                refine r_getI hZ fl_X3_36_3 dX3_addMesh_94 ex36 ?_
                refine r_iload_n hZ dX3_addMesh_97 rfl ?_
                obtain ⟨h37, eh37, H⟩ := ok_bind H
                refine r_sI hZ dX3_addMesh_98 eh37 ?_
                refine r_aload_n hZ dX3_addMesh_99 rfl ?_
                obtain ⟨x38, ex38, H⟩ := ok_bind H
                refine r_getR hZ fl_X3_24_3 dX3_addMesh_100 ex38 ?_
                refine r_aload_n hZ dX3_addMesh_103 rfl ?_
                obtain ⟨x39, ex39, H⟩ := ok_bind H
                refine r_getI hZ fl_X3_36_3 dX3_addMesh_104 ex39 ?_
                refine r_bipush (v := (J 62)) hZ dX3_addMesh_107 (by decide) ?_
                obtain ⟨h40, eh40, H⟩ := ok_bind H
                refine r_sI hZ dX3_addMesh_109 eh40 ?_
                refine r_aload_n hZ dX3_addMesh_110 rfl ?_
                refine r_dup_a hZ dX3_addMesh_111 ?_
                obtain ⟨x41, ex41, H⟩ := ok_bind H
                refine r_getI hZ fl_X3_36_3 dX3_addMesh_112 ex41 ?_
                refine r_iconst (v := (J 1)) hZ dX3_addMesh_115 (by decide) ?_
                refine r_iadd hZ dX3_addMesh_116 ?_
                obtain ⟨h42, eh42, H⟩ := ok_bind H
                refine r_putf hZ fl_X3_36_3 dX3_addMesh_117 eh42 rfl rfl ?_
                refine r_iconst (v := (J 1)) hZ dX3_addMesh_120 (by decide) ?_
                have H := ok_some H
                subst H
                exact r_zret hZ hF (by decide) dX3_addMesh_121
              · have H := ok_f H c43
                refine r_iconst (v := (J 0)) hZ dX3_addMesh_77 (by decide) ?_
                have H := ok_some H
                subst H
                exact r_zret hZ hF (by decide) dX3_addMesh_78
def f_X3_setRoom  (h : Hp) (a0 : Nat) (a1 : Int32) (a2 : Int32) (a3 : Int32) : Option (Int32 × Hp) :=
  (isO h a0 3).bind fun u1 =>
  (f_X3_meshOf h a0 a1 a2).bind fun r2 =>
  (if r2 = (J (-4)) then
    some ((J 0), h)
  else
    (f_X11_isWithin a3 (J 0) (J 62)).bind fun r3 =>
    (if r3 = 0 then
      some ((J 0), h)
    else
      (gR h a0 3 4).bind fun x4 =>
      (sI h x4 r2 a3).bind fun h5 =>
      some ((J 1), h5)))
set_option maxRecDepth 100000 in
set_option maxHeartbeats 4000000 in
theorem s_X3_setRoom {n : Nat} {h : Hp} {a0 : Nat} {a1 : Int32} {a2 : Int32} {a3 : Int32}  {r : Int32 × Hp} (hf : f_X3_setRoom  h a0 a1 a2 a3 = some r) : Ev 3 yX3_setRoom cX3_setRoom 5 (some .boolean) [.ref a0, .int a1, .int a2, .int a3] n h (some (.int r.1)) n r.2 := by
  refine Ev_of RX3 rfl (by decide) (Nat.le_of_ble_eq_true rfl) (Nat.le_refl _) (Or.inl rfl) (fun Z hZ hF hN hI => ?_)
  have H : Ok (f_X3_setRoom  h a0 a1 a2 a3) (fun y => y = r) := ⟨_, hf, rfl⟩
  unfold f_X3_setRoom at H
  refine r_ls (ls' := [(0, .ref a0), (1, .int a1), (2, .int a2), (3, .int a3)]) rfl ?_
  refine r_aload_n hZ dX3_setRoom_0 rfl ?_
  refine r_iload_n hZ dX3_setRoom_1 rfl ?_
  refine r_iload_n hZ dX3_setRoom_2 rfl ?_
  obtain ⟨u1, eu1, H⟩ := ok_bind H
  obtain ⟨r2, er2, H⟩ := ok_bind H
  refine r_callV (As := [.int a1, .int a2]) (rest := []) (st1 := [.int r2]) (N2 := 0) hZ dX3_setRoom_3 cw_X3_75_X3 rfl eu1 (s_X3_meshOf er2) rfl rfl (by decide) (Nat.le_of_ble_eq_true rfl) (Nat.le_refl 0) (Nat.le_refl _) (Or.inl rfl) rfl ?_
  refine r_istore hZ dX3_setRoom_6 (by decide) (r_pick [0, 3, 4] (ls' := [(0, .ref a0), (3, .int a3), (4, .int r2)]) rfl ?_)
  refine r_iload hZ dX3_setRoom_8 rfl ?_
  refine r_bipush (v := (J (-4))) hZ dX3_setRoom_10 (by decide) ?_
  refine r_icmp_eq (tgt := 25) hZ dX3_setRoom_12 (by decide) (fun c7 => ?_) (fun c7 => ?_)
  · have H := ok_t H c7
    refine r_iconst (v := (J 0)) hZ dX3_setRoom_25 (by decide) ?_
    have H := ok_some H
    subst H
    exact r_zret hZ hF (by decide) dX3_setRoom_26
  · have H := ok_f H c7
    refine r_iload_n hZ dX3_setRoom_15 rfl ?_
    refine r_iconst (v := (J 0)) hZ dX3_setRoom_16 (by decide) ?_
    refine r_bipush (v := (J 62)) hZ dX3_setRoom_17 (by decide) ?_
    obtain ⟨r3, er3, H⟩ := ok_bind H
    refine r_callSN (As := [.int a3, .int (J 0), .int (J 62)]) (rest := []) (st1 := [.int r3]) (N2 := 0) hZ dX3_setRoom_19 cw_X3_64 (s_X11_isWithin er3) rfl rfl (by decide) (Nat.le_of_ble_eq_true rfl) (Nat.le_refl 0) (Nat.le_refl _) (Or.inl rfl) rfl ?_
    refine r_if_ne (tgt := 27) hZ dX3_setRoom_22 (by decide) (fun c6 => ?_) (fun c6 => ?_)
    · have H := ok_f H c6
      refine r_aload_n hZ dX3_setRoom_27 rfl ?_
      obtain ⟨x4, ex4, H⟩ := ok_bind H
      refine r_getR hZ fl_X3_24_3 dX3_setRoom_28 ex4 ?_
      refine r_iload hZ dX3_setRoom_31 rfl ?_
      refine r_iload_n hZ dX3_setRoom_33 rfl ?_
      obtain ⟨h5, eh5, H⟩ := ok_bind H
      refine r_sI hZ dX3_setRoom_34 eh5 ?_
      refine r_iconst (v := (J 1)) hZ dX3_setRoom_35 (by decide) ?_
      have H := ok_some H
      subst H
      exact r_zret hZ hF (by decide) dX3_setRoom_36
    · have H := ok_t H c6
      refine r_iconst (v := (J 0)) hZ dX3_setRoom_25 (by decide) ?_
      have H := ok_some H
      subst H
      exact r_zret hZ hF (by decide) dX3_setRoom_26
def f_X3_does  (h : Hp) (a0 : Nat) (a1 : Nat) : Option (Int32 × Hp) :=
  (gI h a1 8 4).bind fun x1 =>
  (if x1 = (J 103) then
    (gR h a1 8 6).bind fun x2 =>
    (aI h x2 (J 0)).bind fun x3 =>
    (gR h a1 8 6).bind fun x4 =>
    (aI h x4 (J 1)).bind fun x5 =>
    (gR h a1 8 6).bind fun x6 =>
    (aI h x6 (J 2)).bind fun x7 =>
    (isO h a0 3).bind fun u8 =>
    (f_X3_addGear h a0 x3 x5 x7).bind fun r9 =>
    (bz r9.1).bind fun u10 =>
    some (r9.1, r9.2)
  else
    (if x1 = (J 109) then
      (gR h a1 8 6).bind fun x12 =>
      (aI h x12 (J 0)).bind fun x13 =>
      (gR h a1 8 6).bind fun x14 =>
      (aI h x14 (J 1)).bind fun x15 =>
      (isO h a0 3).bind fun u16 =>
      (f_X3_addMesh h a0 x13 x15).bind fun r17 =>
      (bz r17.1).bind fun u18 =>
      some (r17.1, r17.2)
    else
      (gR h a1 8 6).bind fun x20 =>
      (aI h x20 (J 0)).bind fun x21 =>
      (gR h a1 8 6).bind fun x22 =>
      (aI h x22 (J 1)).bind fun x23 =>
      (gR h a1 8 6).bind fun x24 =>
      (aI h x24 (J 2)).bind fun x25 =>
      (isO h a0 3).bind fun u26 =>
      (f_X3_setRoom h a0 x21 x23 x25).bind fun r27 =>
      (bz r27.1).bind fun u28 =>
      some (r27.1, r27.2)))
set_option maxRecDepth 100000 in
set_option maxHeartbeats 4000000 in
theorem s_X3_does {n : Nat} {h : Hp} {a0 : Nat} {a1 : Nat}  {r : Int32 × Hp} (hf : f_X3_does  h a0 a1 = some r) : Ev 5 yX3_does cX3_does 2 (some .boolean) [.ref a0, .ref a1] n h (some (.int r.1)) n r.2 := by
  refine Ev_of RX3 rfl (by decide) (Nat.le_of_ble_eq_true rfl) (Nat.le_refl _) (Or.inl rfl) (fun Z hZ hF hN hI => ?_)
  have H : Ok (f_X3_does  h a0 a1) (fun y => y = r) := ⟨_, hf, rfl⟩
  unfold f_X3_does at H
  refine r_ls (ls' := [(0, .ref a0), (1, .ref a1)]) rfl ?_
  refine r_aload_n hZ dX3_does_0 rfl ?_
  obtain ⟨x1, ex1, H⟩ := ok_bind H
  refine r_getI hZ fl_X3_45_8 dX3_does_1 ex1 ?_
  by_cases c11 : x1 = (J 103)
  · have hs : R Z 32 [(0, .ref a0), (1, .ref a1)] [] n h 0 → R Z 4 [(0, .ref a0), (1, .ref a1)] [.int x1] n h 0 := by
      exact fun k => r_lookup hZ dX3_does_4 (by decide) (off := 28) (by rw [c11]; rfl) (by decide) k
    refine hs ?_
    clear hs
    have H := ok_t H c11
    refine r_aload_n hZ dX3_does_32 rfl ?_
    refine r_aload_n hZ dX3_does_33 rfl ?_
    obtain ⟨x2, ex2, H⟩ := ok_bind H
    refine r_getR hZ fl_X3_50_8 dX3_does_34 ex2 ?_
    refine r_iconst (v := (J 0)) hZ dX3_does_37 (by decide) ?_
    obtain ⟨x3, ex3, H⟩ := ok_bind H
    refine r_aI hZ dX3_does_38 ex3 ?_
    refine r_aload_n hZ dX3_does_39 rfl ?_
    obtain ⟨x4, ex4, H⟩ := ok_bind H
    refine r_getR hZ fl_X3_50_8 dX3_does_40 ex4 ?_
    refine r_iconst (v := (J 1)) hZ dX3_does_43 (by decide) ?_
    obtain ⟨x5, ex5, H⟩ := ok_bind H
    refine r_aI hZ dX3_does_44 ex5 ?_
    refine r_aload_n hZ dX3_does_45 rfl ?_
    obtain ⟨x6, ex6, H⟩ := ok_bind H
    refine r_getR hZ fl_X3_50_8 dX3_does_46 ex6 ?_
    refine r_iconst (v := (J 2)) hZ dX3_does_49 (by decide) ?_
    obtain ⟨x7, ex7, H⟩ := ok_bind H
    refine r_aI hZ dX3_does_50 ex7 ?_
    obtain ⟨u8, eu8, H⟩ := ok_bind H
    obtain ⟨r9, er9, H⟩ := ok_bind H
    refine r_callV (As := [.int x3, .int x5, .int x7]) (rest := []) (st1 := [.int r9.1]) (N2 := 0) hZ dX3_does_51 cw_X3_53_X3 rfl eu8 (s_X3_addGear er9) rfl rfl (by decide) (Nat.le_of_ble_eq_true rfl) (Nat.le_refl 0) (Nat.le_refl _) (Or.inl rfl) rfl ?_
    obtain ⟨u10, eu10, H⟩ := ok_bind H
    have H := ok_some H
    subst H
    exact r_zret hZ hF eu10 dX3_does_54
  · have H := ok_f H c11
    by_cases c19 : x1 = (J 109)
    · have hs : R Z 55 [(0, .ref a0), (1, .ref a1)] [] n h 0 → R Z 4 [(0, .ref a0), (1, .ref a1)] [.int x1] n h 0 := by
        exact fun k => r_lookup hZ dX3_does_4 (by decide) (off := 51) (by rw [c19]; rfl) (by decide) k
      refine hs ?_
      clear hs
      have H := ok_t H c19
      refine r_aload_n hZ dX3_does_55 rfl ?_
      refine r_aload_n hZ dX3_does_56 rfl ?_
      obtain ⟨x12, ex12, H⟩ := ok_bind H
      refine r_getR hZ fl_X3_50_8 dX3_does_57 ex12 ?_
      refine r_iconst (v := (J 0)) hZ dX3_does_60 (by decide) ?_
      obtain ⟨x13, ex13, H⟩ := ok_bind H
      refine r_aI hZ dX3_does_61 ex13 ?_
      refine r_aload_n hZ dX3_does_62 rfl ?_
      obtain ⟨x14, ex14, H⟩ := ok_bind H
      refine r_getR hZ fl_X3_50_8 dX3_does_63 ex14 ?_
      refine r_iconst (v := (J 1)) hZ dX3_does_66 (by decide) ?_
      obtain ⟨x15, ex15, H⟩ := ok_bind H
      refine r_aI hZ dX3_does_67 ex15 ?_
      obtain ⟨u16, eu16, H⟩ := ok_bind H
      obtain ⟨r17, er17, H⟩ := ok_bind H
      refine r_callV (As := [.int x13, .int x15]) (rest := []) (st1 := [.int r17.1]) (N2 := 0) hZ dX3_does_68 cw_X3_57_X3 rfl eu16 (s_X3_addMesh er17) rfl rfl (by decide) (Nat.le_of_ble_eq_true rfl) (Nat.le_refl 0) (Nat.le_refl _) (Or.inl rfl) rfl ?_
      obtain ⟨u18, eu18, H⟩ := ok_bind H
      have H := ok_some H
      subst H
      exact r_zret hZ hF eu18 dX3_does_71
    · have H := ok_f H c19
      refine r_lookup (off := 68) (tgt := 72) hZ dX3_does_4 (by decide) (by show Op.lookupswitch.offset [(103, 28), (109, 51)] _ _ = _; rw [lv_osw c11 (by decide), lv_osw c19 (by decide)] <;> rfl) (by decide) ?_
      refine r_aload_n hZ dX3_does_72 rfl ?_
      refine r_aload_n hZ dX3_does_73 rfl ?_
      obtain ⟨x20, ex20, H⟩ := ok_bind H
      refine r_getR hZ fl_X3_50_8 dX3_does_74 ex20 ?_
      refine r_iconst (v := (J 0)) hZ dX3_does_77 (by decide) ?_
      obtain ⟨x21, ex21, H⟩ := ok_bind H
      refine r_aI hZ dX3_does_78 ex21 ?_
      refine r_aload_n hZ dX3_does_79 rfl ?_
      obtain ⟨x22, ex22, H⟩ := ok_bind H
      refine r_getR hZ fl_X3_50_8 dX3_does_80 ex22 ?_
      refine r_iconst (v := (J 1)) hZ dX3_does_83 (by decide) ?_
      obtain ⟨x23, ex23, H⟩ := ok_bind H
      refine r_aI hZ dX3_does_84 ex23 ?_
      refine r_aload_n hZ dX3_does_85 rfl ?_
      obtain ⟨x24, ex24, H⟩ := ok_bind H
      refine r_getR hZ fl_X3_50_8 dX3_does_86 ex24 ?_
      refine r_iconst (v := (J 2)) hZ dX3_does_89 (by decide) ?_
      obtain ⟨x25, ex25, H⟩ := ok_bind H
      refine r_aI hZ dX3_does_90 ex25 ?_
      obtain ⟨u26, eu26, H⟩ := ok_bind H
      obtain ⟨r27, er27, H⟩ := ok_bind H
      refine r_callV (As := [.int x21, .int x23, .int x25]) (rest := []) (st1 := [.int r27.1]) (N2 := 0) hZ dX3_does_91 cw_X3_61_X3 rfl eu26 (s_X3_setRoom er27) rfl rfl (by decide) (Nat.le_of_ble_eq_true rfl) (Nat.le_refl 0) (Nat.le_refl _) (Or.inl rfl) rfl ?_
      obtain ⟨u28, eu28, H⟩ := ok_bind H
      have H := ok_some H
      subst H
      exact r_zret hZ hF eu28 dX3_does_94
def b_X3_allTeeth_4 (h : Hp) (p0 : Nat) (s : Int32 × Int32) : Option ((Int32 × Int32) ⊕ ((Int32))) :=
  (gI h p0 3 1).bind fun x1 =>
  (if x1 ≤ s.2 then
    some (.inr (s.1))
  else
    (gR h p0 3 0).bind fun x2 =>
    (aR h x2 3 s.2).bind fun x3 =>
    (gI h x3 0 2).bind fun x4 =>
    (some (s.1 + x4)).bind fun x5 =>
    (some (s.2 + (J 1))).bind fun x6 =>
    some (.inl (x5, x6)))
set_option maxRecDepth 100000 in
set_option maxHeartbeats 4000000 in
theorem l_X3_allTeeth_4 {Z : Zc} (hZ : Fx cX3_allTeeth RX3 3 2 0 Z) {n : Nat} {h : Hp} {p0 : Nat} {P : ((Int32)) → Prop} (hx0 : ∀ e : Int32, P (e) → R Z 30 [(1, .int e)] [] n h 0) : ∀ (m : Nat) (s : Int32 × Int32), Ok (iter (b_X3_allTeeth_4 h p0) m s) P → R Z 4 [(0, .ref p0), (1, .int s.1), (2, .int s.2)] [] n h 0 := by
  intro m
  induction m with
  | zero => exact fun s H => ok_iter0 H
  | succ m ih =>
    intro s H
    have H := ok_iter H
    unfold b_X3_allTeeth_4 at H
    refine r_iload_n hZ dX3_allTeeth_4 rfl ?_
    refine r_aload_n hZ dX3_allTeeth_5 rfl ?_
    obtain ⟨x1, ex1, H⟩ := ok_bind H
    refine r_getI hZ fl_X3_28_3 dX3_allTeeth_6 ex1 ?_
    refine r_icmp_ge (tgt := 30) hZ dX3_allTeeth_9 (by decide) (fun c7 => ?_) (fun c7 => ?_)
    · have H := ok_t H c7
      exact r_pick [1] (ls' := [(1, .int s.1)]) rfl (hx0 _ (ki_r H))
    · have H := ok_f H c7
      refine r_iload_n hZ dX3_allTeeth_12 rfl ?_
      refine r_aload_n hZ dX3_allTeeth_13 rfl ?_
      obtain ⟨x2, ex2, H⟩ := ok_bind H
      refine r_getR hZ fl_X3_11_3 dX3_allTeeth_14 ex2 ?_
      refine r_iload_n hZ dX3_allTeeth_17 rfl ?_
      obtain ⟨x3, ex3, H⟩ := ok_bind H
      refine r_aR hZ dX3_allTeeth_18 ex3 (fun _ => rfl) (Or.inl ⟨_, rfl⟩) ?_
      obtain ⟨x4, ex4, H⟩ := ok_bind H
      refine r_getI hZ fl_X3_79_0 dX3_allTeeth_19 ex4 ?_
      refine r_iadd hZ dX3_allTeeth_22 ?_
      obtain ⟨x5, ex5, H⟩ := ok_bind H
      refine r_topi ex5 ?_
      refine r_istore_n hZ dX3_allTeeth_23 (by decide) (r_pick [0, 1, 2] (ls' := [(0, .ref p0), (1, .int x5), (2, .int s.2)]) rfl ?_)
      obtain ⟨x6, ex6, H⟩ := ok_bind H
      refine r_iincE (w := (J 1)) hZ dX3_allTeeth_24 (by decide) rfl (by decide) ex6 (r_pick [0, 1, 2] (ls' := [(0, .ref p0), (1, .int x5), (2, .int x6)]) rfl ?_)
      refine r_goto (tgt := 4) hZ dX3_allTeeth_27 (by decide) ?_
      exact r_pick [0, 1, 2] (ls' := [(0, .ref p0), (1, .int x5), (2, .int x6)]) rfl (ih _ (ki_l H))
def f_X3_allTeeth  (h : Hp) (a0 : Nat) : Option (Int32) :=
  (some (J 0)).bind fun x1 =>
  (some (J 0)).bind fun x2 =>
  (iter (b_X3_allTeeth_4 h a0) FU (x1, x2)).bind fun e3 =>
  some e3
set_option maxRecDepth 100000 in
set_option maxHeartbeats 4000000 in
theorem s_X3_allTeeth {n : Nat} {h : Hp} {a0 : Nat}  {r : Int32} (hf : f_X3_allTeeth  h a0 = some r) : Ev 2 yX3_allTeeth cX3_allTeeth 3 (some .int) [.ref a0] n h (some (.int r)) n h := by
  refine Ev_of RX3 rfl (by decide) (Nat.le_of_ble_eq_true rfl) (Nat.le_refl _) (Or.inl rfl) (fun Z hZ hF hN hI => ?_)
  have H : Ok (f_X3_allTeeth  h a0) (fun y => y = r) := ⟨_, hf, rfl⟩
  unfold f_X3_allTeeth at H
  refine r_ls (ls' := [(0, .ref a0)]) rfl ?_
  refine r_iconst (v := (J 0)) hZ dX3_allTeeth_0 (by decide) ?_
  obtain ⟨x1, ex1, H⟩ := ok_bind H
  refine r_topi ex1 ?_
  refine r_istore_n hZ dX3_allTeeth_1 (by decide) (r_pick [0, 1] (ls' := [(0, .ref a0), (1, .int x1)]) rfl ?_)
  refine r_iconst (v := (J 0)) hZ dX3_allTeeth_2 (by decide) ?_
  obtain ⟨x2, ex2, H⟩ := ok_bind H
  refine r_topi ex2 ?_
  refine r_istore_n hZ dX3_allTeeth_3 (by decide) (r_pick [0, 1, 2] (ls' := [(0, .ref a0), (1, .int x1), (2, .int x2)]) rfl ?_)
  have H := ok_bindK H
  refine r_pick [0, 1, 2] (ls' := [(0, .ref a0), (1, .int x1), (2, .int x2)]) rfl (l_X3_allTeeth_4 hZ (fun e3 H => ?_) FU _ H)
  · refine r_iload_n hZ dX3_allTeeth_30 rfl ?_
    have H := ok_some H
    subst H
    exact r_iret hZ hF dX3_allTeeth_31
def b_X3_allWidths_4 (h : Hp) (p0 : Nat) (s : Int32 × Int32) : Option ((Int32 × Int32) ⊕ ((Int32))) :=
  (gI h p0 3 1).bind fun x1 =>
  (if x1 ≤ s.2 then
    some (.inr (s.1))
  else
    (gR h p0 3 0).bind fun x2 =>
    (aR h x2 3 s.2).bind fun x3 =>
    (isO h x3 0).bind fun u4 =>
    (f_X0_sumOfWidths h x3).bind fun r5 =>
    (some (s.1 + r5)).bind fun x6 =>
    (some (s.2 + (J 1))).bind fun x7 =>
    some (.inl (x6, x7)))
set_option maxRecDepth 100000 in
set_option maxHeartbeats 4000000 in
theorem l_X3_allWidths_4 {Z : Zc} (hZ : Fx cX3_allWidths RX3 3 3 0 Z) {n : Nat} {h : Hp} {p0 : Nat} {P : ((Int32)) → Prop} (hx0 : ∀ e : Int32, P (e) → R Z 30 [(1, .int e)] [] n h 0) : ∀ (m : Nat) (s : Int32 × Int32), Ok (iter (b_X3_allWidths_4 h p0) m s) P → R Z 4 [(0, .ref p0), (1, .int s.1), (2, .int s.2)] [] n h 0 := by
  intro m
  induction m with
  | zero => exact fun s H => ok_iter0 H
  | succ m ih =>
    intro s H
    have H := ok_iter H
    unfold b_X3_allWidths_4 at H
    refine r_iload_n hZ dX3_allWidths_4 rfl ?_
    refine r_aload_n hZ dX3_allWidths_5 rfl ?_
    obtain ⟨x1, ex1, H⟩ := ok_bind H
    refine r_getI hZ fl_X3_28_3 dX3_allWidths_6 ex1 ?_
    refine r_icmp_ge (tgt := 30) hZ dX3_allWidths_9 (by decide) (fun c8 => ?_) (fun c8 => ?_)
    · have H := ok_t H c8
      exact r_pick [1] (ls' := [(1, .int s.1)]) rfl (hx0 _ (ki_r H))
    · have H := ok_f H c8
      refine r_iload_n hZ dX3_allWidths_12 rfl ?_
      refine r_aload_n hZ dX3_allWidths_13 rfl ?_
      obtain ⟨x2, ex2, H⟩ := ok_bind H
      refine r_getR hZ fl_X3_11_3 dX3_allWidths_14 ex2 ?_
      refine r_iload_n hZ dX3_allWidths_17 rfl ?_
      obtain ⟨x3, ex3, H⟩ := ok_bind H
      refine r_aR hZ dX3_allWidths_18 ex3 (fun _ => rfl) (Or.inl ⟨_, rfl⟩) ?_
      obtain ⟨u4, eu4, H⟩ := ok_bind H
      obtain ⟨r5, er5, H⟩ := ok_bind H
      refine r_callV (As := []) (rest := [.int s.1]) (st1 := [.int r5, .int s.1]) (N2 := 0) hZ dX3_allWidths_19 cw_X3_82_X0 rfl eu4 (s_X0_sumOfWidths er5) rfl rfl (by decide) (Nat.le_of_ble_eq_true rfl) (Nat.le_refl 0) (Nat.le_refl _) (Or.inl rfl) rfl ?_
      refine r_iadd hZ dX3_allWidths_22 ?_
      obtain ⟨x6, ex6, H⟩ := ok_bind H
      refine r_topi ex6 ?_
      refine r_istore_n hZ dX3_allWidths_23 (by decide) (r_pick [0, 1, 2] (ls' := [(0, .ref p0), (1, .int x6), (2, .int s.2)]) rfl ?_)
      obtain ⟨x7, ex7, H⟩ := ok_bind H
      refine r_iincE (w := (J 1)) hZ dX3_allWidths_24 (by decide) rfl (by decide) ex7 (r_pick [0, 1, 2] (ls' := [(0, .ref p0), (1, .int x6), (2, .int x7)]) rfl ?_)
      refine r_goto (tgt := 4) hZ dX3_allWidths_27 (by decide) ?_
      exact r_pick [0, 1, 2] (ls' := [(0, .ref p0), (1, .int x6), (2, .int x7)]) rfl (ih _ (ki_l H))
def f_X3_allWidths  (h : Hp) (a0 : Nat) : Option (Int32) :=
  (some (J 0)).bind fun x1 =>
  (some (J 0)).bind fun x2 =>
  (iter (b_X3_allWidths_4 h a0) FU (x1, x2)).bind fun e3 =>
  some e3
set_option maxRecDepth 100000 in
set_option maxHeartbeats 4000000 in
theorem s_X3_allWidths {n : Nat} {h : Hp} {a0 : Nat}  {r : Int32} (hf : f_X3_allWidths  h a0 = some r) : Ev 3 yX3_allWidths cX3_allWidths 3 (some .int) [.ref a0] n h (some (.int r)) n h := by
  refine Ev_of RX3 rfl (by decide) (Nat.le_of_ble_eq_true rfl) (Nat.le_refl _) (Or.inl rfl) (fun Z hZ hF hN hI => ?_)
  have H : Ok (f_X3_allWidths  h a0) (fun y => y = r) := ⟨_, hf, rfl⟩
  unfold f_X3_allWidths at H
  refine r_ls (ls' := [(0, .ref a0)]) rfl ?_
  refine r_iconst (v := (J 0)) hZ dX3_allWidths_0 (by decide) ?_
  obtain ⟨x1, ex1, H⟩ := ok_bind H
  refine r_topi ex1 ?_
  refine r_istore_n hZ dX3_allWidths_1 (by decide) (r_pick [0, 1] (ls' := [(0, .ref a0), (1, .int x1)]) rfl ?_)
  refine r_iconst (v := (J 0)) hZ dX3_allWidths_2 (by decide) ?_
  obtain ⟨x2, ex2, H⟩ := ok_bind H
  refine r_topi ex2 ?_
  refine r_istore_n hZ dX3_allWidths_3 (by decide) (r_pick [0, 1, 2] (ls' := [(0, .ref a0), (1, .int x1), (2, .int x2)]) rfl ?_)
  have H := ok_bindK H
  refine r_pick [0, 1, 2] (ls' := [(0, .ref a0), (1, .int x1), (2, .int x2)]) rfl (l_X3_allWidths_4 hZ (fun e3 H => ?_) FU _ H)
  · refine r_iload_n hZ dX3_allWidths_30 rfl ?_
    have H := ok_some H
    subst H
    exact r_iret hZ hF dX3_allWidths_31
