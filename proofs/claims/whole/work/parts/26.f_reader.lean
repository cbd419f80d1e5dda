def f_X4_init_6  (N2 n : Nat) (h : Hp) (a0 : Nat) : Option (Hp) :=
  (cap (n + 1) N2).bind fun u1 =>
  (pF (va_up h n (some (0, .inr (0, .inl fun _ => 0)))) a0 6 0 (.ref n)).bind fun h2 =>
  (eqn (n + 1) N2).bind fun u3 =>
  some h2
set_option maxRecDepth 100000 in
set_option maxHeartbeats 4000000 in
theorem s_X4_init_6 {n : Nat} {h : Hp} {a0 : Nat}  {r : Hp} {N2 : Nat} (hB : n ≤ N2 ∧ N2 ≤ BB) (hf : f_X4_init_6  N2 n h a0 = some r) : Ev 2 yX4_init cX4_init 1 none [.ref a0] n h none N2 r := by
  refine Ev_of RX4 rfl (by decide) (Nat.le_of_ble_eq_true rfl) hB.1 (Or.inr hB.2) (fun Z hZ hF hN hI => ?_)
  have hN := hN hB.2
  have hI := hI rfl
  have H : Ok (f_X4_init_6  N2 n h a0) (fun y => y = r) := ⟨_, hf, rfl⟩
  unfold f_X4_init_6 at H
  refine r_ls (ls' := [(0, .ref a0)]) rfl ?_
  refine r_aload_n hZ dX4_init_0 rfl ?_
  refine r_objinit hZ wi_X4_1 wi_i wi_c dX4_init_1 (by decide) (Nat.le_of_ble_eq_true rfl) ?_
  refine r_aload_n hZ dX4_init_4 rfl ?_
  refine r_iconst (v := (J 0)) hZ dX4_init_5 (by decide) ?_
  obtain ⟨u1, eu1, H⟩ := ok_bind H
  refine r_newI (len := 0) hZ hN wa_int (by decide) (by decide) (by decide) dX4_init_6 (cap_le eu1) (Nat.le_refl 0) ?_
  obtain ⟨h2, eh2, H⟩ := ok_bind H
  refine r_putf hZ fl_X4_7_6 dX4_init_8 eh2 rfl rfl ?_
  obtain ⟨u3, eu3, H⟩ := ok_bind H
  have H := ok_some H
  subst H
  have eu3 := eqn_eq eu3
  rw [eu3]
  exact r_ret hZ hF dX4_init_11
def f_X4_init_8  (N2 n : Nat) (h : Hp) (a0 : Nat) : Option (Hp) :=
  (cap (n + 1) N2).bind fun u1 =>
  (pF (va_up h n (some (0, .inr (0, .inl fun _ => 0)))) a0 8 0 (.ref n)).bind fun h2 =>
  (eqn (n + 1) N2).bind fun u3 =>
  some h2
set_option maxRecDepth 100000 in
set_option maxHeartbeats 4000000 in
theorem s_X4_init_8 {n : Nat} {h : Hp} {a0 : Nat}  {r : Hp} {N2 : Nat} (hB : n ≤ N2 ∧ N2 ≤ BB) (hf : f_X4_init_8  N2 n h a0 = some r) : Ev 2 yX4_init cX4_init 1 none [.ref a0] n h none N2 r := by
  refine Ev_of RX4 rfl (by decide) (Nat.le_of_ble_eq_true rfl) hB.1 (Or.inr hB.2) (fun Z hZ hF hN hI => ?_)
  have hN := hN hB.2
  have hI := hI rfl
  have H : Ok (f_X4_init_8  N2 n h a0) (fun y => y = r) := ⟨_, hf, rfl⟩
  unfold f_X4_init_8 at H
  refine r_ls (ls' := [(0, .ref a0)]) rfl ?_
  refine r_aload_n hZ dX4_init_0 rfl ?_
  refine r_objinit hZ wi_X4_1 wi_i wi_c dX4_init_1 (by decide) (Nat.le_of_ble_eq_true rfl) ?_
  refine r_aload_n hZ dX4_init_4 rfl ?_
  refine r_iconst (v := (J 0)) hZ dX4_init_5 (by decide) ?_
  obtain ⟨u1, eu1, H⟩ := ok_bind H
  refine r_newI (len := 0) hZ hN wa_int (by decide) (by decide) (by decide) dX4_init_6 (cap_le eu1) (Nat.le_refl 0) ?_
  obtain ⟨h2, eh2, H⟩ := ok_bind H
  refine r_putf hZ fl_X4_7_8 dX4_init_8 eh2 rfl rfl ?_
  obtain ⟨u3, eu3, H⟩ := ok_bind H
  have H := ok_some H
  subst H
  have eu3 := eqn_eq eu3
  rw [eu3]
  exact r_ret hZ hF dX4_init_11
def f_X4_startOn_6  (h : Hp) (a0 : Nat) (a1 : Nat) (a2 : Int32) : Option (Hp) :=
  (pF h a0 6 0 (.ref a1)).bind fun h1 =>
  (aN h1 a1).bind fun x2 =>
  (pF h1 a0 6 1 (.int (if x2 < a2 then x2 else a2))).bind fun h3 =>
  (pF h3 a0 6 2 (.int (J 0))).bind fun h4 =>
  (pF h4 a0 6 3 (.int (J 0))).bind fun h5 =>
  some h5
set_option maxRecDepth 100000 in
set_option maxHeartbeats 4000000 in
theorem s_X4_startOn_6 {n : Nat} {h : Hp} {a0 : Nat} {a1 : Nat} {a2 : Int32}  {r : Hp} (hf : f_X4_startOn_6  h a0 a1 a2 = some r) : Ev 2 yX4_startOn cX4_startOn 3 none [.ref a0, .ref a1, .int a2] n h none n r := by
  refine Ev_of RX4 rfl (by decide) (Nat.le_of_ble_eq_true rfl) (Nat.le_refl _) (Or.inl rfl) (fun Z hZ hF hN hI => ?_)
  have H : Ok (f_X4_startOn_6  h a0 a1 a2) (fun y => y = r) := ⟨_, hf, rfl⟩
  unfold f_X4_startOn_6 at H
  refine r_ls (ls' := [(0, .ref a0), (1, .ref a1), (2, .int a2)]) rfl ?_
  refine r_aload_n hZ dX4_startOn_0 rfl ?_
  refine r_aload_n hZ dX4_startOn_1 rfl ?_
  obtain ⟨h1, eh1, H⟩ := ok_bind H
  refine r_putf hZ fl_X4_7_6 dX4_startOn_2 eh1 rfl rfl ?_
  refine r_aload_n hZ dX4_startOn_5 rfl ?_
  refine r_iload_n hZ dX4_startOn_6 rfl ?_
  refine r_aload_n hZ dX4_startOn_7 rfl ?_
  obtain ⟨x2, ex2, H⟩ := ok_bind H
  refine r_aN hZ dX4_startOn_8 ex2 ?_
  refine r_min hZ dX4_startOn_9 wM_X4_13 (by decide) (Nat.le_of_ble_eq_true rfl) (Nat.le_refl 0) ?_
  obtain ⟨h3, eh3, H⟩ := ok_bind H
  refine r_putf hZ fl_X4_19_6 dX4_startOn_12 eh3 rfl rfl ?_
  refine r_aload_n hZ dX4_startOn_15 rfl ?_
  refine r_iconst (v := (J 0)) hZ dX4_startOn_16 (by decide) ?_
  obtain ⟨h4, eh4, H⟩ := ok_bind H
  refine r_putf hZ fl_X4_23_6 dX4_startOn_17 eh4 rfl rfl ?_
  refine r_aload_n hZ dX4_startOn_20 rfl ?_
  refine r_iconst (v := (J 0)) hZ dX4_startOn_21 (by decide) ?_
  obtain ⟨h5, eh5, H⟩ := ok_bind H
  refine r_putf hZ fl_X4_26_6 dX4_startOn_22 eh5 (by decide) (by decide) ?_
  have H := ok_some H
  subst H
  exact r_ret hZ hF dX4_startOn_25
def f_X4_startOn_8  (h : Hp) (a0 : Nat) (a1 : Nat) (a2 : Int32) : Option (Hp) :=
  (pF h a0 8 0 (.ref a1)).bind fun h1 =>
  (aN h1 a1).bind fun x2 =>
  (pF h1 a0 8 1 (.int (if x2 < a2 then x2 else a2))).bind fun h3 =>
  (pF h3 a0 8 2 (.int (J 0))).bind fun h4 =>
  (pF h4 a0 8 3 (.int (J 0))).bind fun h5 =>
  some h5
set_option maxRecDepth 100000 in
set_option maxHeartbeats 4000000 in
theorem s_X4_startOn_8 {n : Nat} {h : Hp} {a0 : Nat} {a1 : Nat} {a2 : Int32}  {r : Hp} (hf : f_X4_startOn_8  h a0 a1 a2 = some r) : Ev 2 yX4_startOn cX4_startOn 3 none [.ref a0, .ref a1, .int a2] n h none n r := by
  refine Ev_of RX4 rfl (by decide) (Nat.le_of_ble_eq_true rfl) (Nat.le_refl _) (Or.inl rfl) (fun Z hZ hF hN hI => ?_)
  have H : Ok (f_X4_startOn_8  h a0 a1 a2) (fun y => y = r) := ⟨_, hf, rfl⟩
  unfold f_X4_startOn_8 at H
  refine r_ls (ls' := [(0, .ref a0), (1, .ref a1), (2, .int a2)]) rfl ?_
  refine r_aload_n hZ dX4_startOn_0 rfl ?_
  refine r_aload_n hZ dX4_startOn_1 rfl ?_
  obtain ⟨h1, eh1, H⟩ := ok_bind H
  refine r_putf hZ fl_X4_7_8 dX4_startOn_2 eh1 rfl rfl ?_
  refine r_aload_n hZ dX4_startOn_5 rfl ?_
  refine r_iload_n hZ dX4_startOn_6 rfl ?_
  refine r_aload_n hZ dX4_startOn_7 rfl ?_
  obtain ⟨x2, ex2, H⟩ := ok_bind H
  refine r_aN hZ dX4_startOn_8 ex2 ?_
  refine r_min hZ dX4_startOn_9 wM_X4_13 (by decide) (Nat.le_of_ble_eq_true rfl) (Nat.le_refl 0) ?_
  obtain ⟨h3, eh3, H⟩ := ok_bind H
  refine r_putf hZ fl_X4_19_8 dX4_startOn_12 eh3 rfl rfl ?_
  refine r_aload_n hZ dX4_startOn_15 rfl ?_
  refine r_iconst (v := (J 0)) hZ dX4_startOn_16 (by decide) ?_
  obtain ⟨h4, eh4, H⟩ := ok_bind H
  refine r_putf hZ fl_X4_23_8 dX4_startOn_17 eh4 rfl rfl ?_
  refine r_aload_n hZ dX4_startOn_20 rfl ?_
  refine r_iconst (v := (J 0)) hZ dX4_startOn_21 (by decide) ?_
  obtain ⟨h5, eh5, H⟩ := ok_bind H
  refine r_putf hZ fl_X4_26_8 dX4_startOn_22 eh5 (by decide) (by decide) ?_
  have H := ok_some H
  subst H
  exact r_ret hZ hF dX4_startOn_25
def f_X4_isAtEnd_6  (h : Hp) (a0 : Nat) : Option (Int32) :=
  (gI h a0 6 2).bind fun x1 =>
  (gI h a0 6 1).bind fun x2 =>
  ((if x1 < x2 then
    some (J 0)
  else
    some (J 1))).bind fun (j3 : Int32) =>
  (bz j3).bind fun u5 =>
  some j3
set_option maxRecDepth 100000 in
set_option maxHeartbeats 4000000 in
theorem s_X4_isAtEnd_6 {n : Nat} {h : Hp} {a0 : Nat}  {r : Int32} (hf : f_X4_isAtEnd_6  h a0 = some r) : Ev 2 yX4_isAtEnd cX4_isAtEnd 1 (some .boolean) [.ref a0] n h (some (.int r)) n h := by
  refine Ev_of RX4 rfl (by decide) (Nat.le_of_ble_eq_true rfl) (Nat.le_refl _) (Or.inl rfl) (fun Z hZ hF hN hI => ?_)
  have H : Ok (f_X4_isAtEnd_6  h a0) (fun y => y = r) := ⟨_, hf, rfl⟩
  unfold f_X4_isAtEnd_6 at H
  refine r_ls (ls' := [(0, .ref a0)]) rfl ?_
  refine r_aload_n hZ dX4_isAtEnd_0 rfl ?_
  obtain ⟨x1, ex1, H⟩ := ok_bind H
  refine r_getI hZ fl_X4_23_6 dX4_isAtEnd_1 ex1 ?_
  refine r_aload_n hZ dX4_isAtEnd_4 rfl ?_
  obtain ⟨x2, ex2, H⟩ := ok_bind H
  refine r_getI hZ fl_X4_19_6 dX4_isAtEnd_5 ex2 ?_
  refine ok_join (Q := fun j3 : Int32 => R Z 16 [] [.int j3] n h 0) H (fun j3 H => ?_) (fun H => ?_)
  · obtain ⟨u5, eu5, H⟩ := ok_bind H
    have H := ok_some H
    subst H
    exact r_zret hZ hF eu5 dX4_isAtEnd_16
  · refine r_icmp_lt (tgt := 15) hZ dX4_isAtEnd_8 (by decide) (fun c4 => ?_) (fun c4 => ?_)
    · have H := ok_t H c4
      refine r_iconst (v := (J 0)) hZ dX4_isAtEnd_15 (by decide) ?_
      have H := ok_some H
      exact r_pick [] (ls' := []) rfl H
    · have H := ok_f H c4
      refine r_iconst (v := (J 1)) hZ dX4_isAtEnd_11 (by decide) ?_
      refine r_goto (tgt := 16) hZ dX4_isAtEnd_12 (by decide) ?_
      have H := ok_some H
      exact r_pick [] (ls' := []) rfl H
def f_X4_isAtEnd_8  (h : Hp) (a0 : Nat) : Option (Int32) :=
  (gI h a0 8 2).bind fun x1 =>
  (gI h a0 8 1).bind fun x2 =>
  ((if x1 < x2 then
    some (J 0)
  else
    some (J 1))).bind fun (j3 : Int32) =>
  (bz j3).bind fun u5 =>
  some j3
set_option maxRecDepth 100000 in
set_option maxHeartbeats 4000000 in
theorem s_X4_isAtEnd_8 {n : Nat} {h : Hp} {a0 : Nat}  {r : Int32} (hf : f_X4_isAtEnd_8  h a0 = some r) : Ev 2 yX4_isAtEnd cX4_isAtEnd 1 (some .boolean) [.ref a0] n h (some (.int r)) n h := by
  refine Ev_of RX4 rfl (by decide) (Nat.le_of_ble_eq_true rfl) (Nat.le_refl _) (Or.inl rfl) (fun Z hZ hF hN hI => ?_)
  have H : Ok (f_X4_isAtEnd_8  h a0) (fun y => y = r) := ⟨_, hf, rfl⟩
  unfold f_X4_isAtEnd_8 at H
  refine r_ls (ls' := [(0, .ref a0)]) rfl ?_
  refine r_aload_n hZ dX4_isAtEnd_0 rfl ?_
  obtain ⟨x1, ex1, H⟩ := ok_bind H
  refine r_getI hZ fl_X4_23_8 dX4_isAtEnd_1 ex1 ?_
  refine r_aload_n hZ dX4_isAtEnd_4 rfl ?_
  obtain ⟨x2, ex2, H⟩ := ok_bind H
  refine r_getI hZ fl_X4_19_8 dX4_isAtEnd_5 ex2 ?_
  refine ok_join (Q := fun j3 : Int32 => R Z 16 [] [.int j3] n h 0) H (fun j3 H => ?_) (fun H => ?_)
  · obtain ⟨u5, eu5, H⟩ := ok_bind H
    have H := ok_some H
    subst H
    exact r_zret hZ hF eu5 dX4_isAtEnd_16
  · refine r_icmp_lt (tgt := 15) hZ dX4_isAtEnd_8 (by decide) (fun c4 => ?_) (fun c4 => ?_)
    · have H := ok_t H c4
      refine r_iconst (v := (J 0)) hZ dX4_isAtEnd_15 (by decide) ?_
      have H := ok_some H
      exact r_pick [] (ls' := []) rfl H
    · have H := ok_f H c4
      refine r_iconst (v := (J 1)) hZ dX4_isAtEnd_11 (by decide) ?_
      refine r_goto (tgt := 16) hZ dX4_isAtEnd_12 (by decide) ?_
      have H := ok_some H
      exact r_pick [] (ls' := []) rfl H
def f_X4_coming_6  (h : Hp) (a0 : Nat) : Option (Int32) :=
  (gI h a0 6 3).bind fun x1 =>
  ((if x1 = 0 then
    (gI h a0 6 2).bind fun x3 =>
    (gI h a0 6 1).bind fun x4 =>
    (if x3 < x4 then
      (gR h a0 6 0).bind fun x5 =>
      (gI h a0 6 2).bind fun x6 =>
      (aI h x5 x6).bind fun x7 =>
      some x7
    else
      some (J (-1)))
  else
    some (J (-1)))).bind fun (j2 : Int32) =>
  some j2
set_option maxRecDepth 100000 in
set_option maxHeartbeats 4000000 in
theorem s_X4_coming_6 {n : Nat} {h : Hp} {a0 : Nat}  {r : Int32} (hf : f_X4_coming_6  h a0 = some r) : Ev 2 yX4_coming cX4_coming 1 (some .int) [.ref a0] n h (some (.int r)) n h := by
  refine Ev_of RX4 rfl (by decide) (Nat.le_of_ble_eq_true rfl) (Nat.le_refl _) (Or.inl rfl) (fun Z hZ hF hN hI => ?_)
  have H : Ok (f_X4_coming_6  h a0) (fun y => y = r) := ⟨_, hf, rfl⟩
  unfold f_X4_coming_6 at H
  refine r_ls (ls' := [(0, .ref a0)]) rfl ?_
  refine r_aload_n hZ dX4_coming_0 rfl ?_
  obtain ⟨x1, ex1, H⟩ := ok_bind H
  refine r_getI hZ fl_X4_26_6 dX4_coming_1 ex1 ?_
  refine ok_join (Q := fun j2 : Int32 => R Z 31 [] [.int j2] n h 0) H (fun j2 H => ?_) (fun H => ?_)
  · have H := ok_some H
    subst H
    exact r_iret hZ hF dX4_coming_31
  · refine r_if_ne (tgt := 18) hZ dX4_coming_4 (by decide) (fun c9 => ?_) (fun c9 => ?_)
    · have H := ok_f H c9
      refine r_iconst (v := (J (-1))) hZ dX4_coming_18 (by decide) ?_
      refine r_goto (tgt := 31) hZ dX4_coming_19 (by decide) ?_
      have H := ok_some H
      exact r_pick [] (ls' := []) rfl H
    · have H := ok_t H c9
      refine r_aload_n hZ dX4_coming_7 rfl ?_
      obtain ⟨x3, ex3, H⟩ := ok_bind H
      refine r_getI hZ fl_X4_23_6 dX4_coming_8 ex3 ?_
      refine r_aload_n hZ dX4_coming_11 rfl ?_
      obtain ⟨x4, ex4, H⟩ := ok_bind H
      refine r_getI hZ fl_X4_19_6 dX4_coming_12 ex4 ?_
      refine r_icmp_lt (tgt := 22) hZ dX4_coming_15 (by decide) (fun c8 => ?_) (fun c8 => ?_)
      · have H := ok_t H c8
        refine r_aload_n hZ dX4_coming_22 rfl ?_
        obtain ⟨x5, ex5, H⟩ := ok_bind H
        refine r_getR hZ fl_X4_7_6 dX4_coming_23 ex5 ?_
        refine r_aload_n hZ dX4_coming_26 rfl ?_
        obtain ⟨x6, ex6, H⟩ := ok_bind H
        refine r_getI hZ fl_X4_23_6 dX4_coming_27 ex6 ?_
        obtain ⟨x7, ex7, H⟩ := ok_bind H
        refine r_aI hZ dX4_coming_30 ex7 ?_
        have H := ok_some H
        exact r_pick [] (ls' := []) rfl H
      · have H := ok_f H c8
        refine r_iconst (v := (J (-1))) hZ dX4_coming_18 (by decide) ?_
        refine r_goto (tgt := 31) hZ dX4_coming_19 (by decide) ?_
        have H := ok_some H
        exact r_pick [] (ls' := []) rfl H
def f_X4_coming_8  (h : Hp) (a0 : Nat) : Option (Int32) :=
  (gI h a0 8 3).bind fun x1 =>
  ((if x1 = 0 then
    (gI h a0 8 2).bind fun x3 =>
    (gI h a0 8 1).bind fun x4 =>
    (if x3 < x4 then
      (gR h a0 8 0).bind fun x5 =>
      (gI h a0 8 2).bind fun x6 =>
      (aI h x5 x6).bind fun x7 =>
      some x7
    else
      some (J (-1)))
  else
    some (J (-1)))).bind fun (j2 : Int32) =>
  some j2
set_option maxRecDepth 100000 in
set_option maxHeartbeats 4000000 in
theorem s_X4_coming_8 {n : Nat} {h : Hp} {a0 : Nat}  {r : Int32} (hf : f_X4_coming_8  h a0 = some r) : Ev 2 yX4_coming cX4_coming 1 (some .int) [.ref a0] n h (some (.int r)) n h := by
  refine Ev_of RX4 rfl (by decide) (Nat.le_of_ble_eq_true rfl) (Nat.le_refl _) (Or.inl rfl) (fun Z hZ hF hN hI => ?_)
  have H : Ok (f_X4_coming_8  h a0) (fun y => y = r) := ⟨_, hf, rfl⟩
  unfold f_X4_coming_8 at H
  refine r_ls (ls' := [(0, .ref a0)]) rfl ?_
  refine r_aload_n hZ dX4_coming_0 rfl ?_
  obtain ⟨x1, ex1, H⟩ := ok_bind H
  refine r_getI hZ fl_X4_26_8 dX4_coming_1 ex1 ?_
  refine ok_join (Q := fun j2 : Int32 => R Z 31 [] [.int j2] n h 0) H (fun j2 H => ?_) (fun H => ?_)
  · have H := ok_some H
    subst H
    exact r_iret hZ hF dX4_coming_31
  · refine r_if_ne (tgt := 18) hZ dX4_coming_4 (by decide) (fun c9 => ?_) (fun c9 => ?_)
    · have H := ok_f H c9
      refine r_iconst (v := (J (-1))) hZ dX4_coming_18 (by decide) ?_
      refine r_goto (tgt := 31) hZ dX4_coming_19 (by decide) ?_
      have H := ok_some H
      exact r_pick [] (ls' := []) rfl H
    · have H := ok_t H c9
      refine r_aload_n hZ dX4_coming_7 rfl ?_
      obtain ⟨x3, ex3, H⟩ := ok_bind H
      refine r_getI hZ fl_X4_23_8 dX4_coming_8 ex3 ?_
      refine r_aload_n hZ dX4_coming_11 rfl ?_
      obtain ⟨x4, ex4, H⟩ := ok_bind H
      refine r_getI hZ fl_X4_19_8 dX4_coming_12 ex4 ?_
      refine r_icmp_lt (tgt := 22) hZ dX4_coming_15 (by decide) (fun c8 => ?_) (fun c8 => ?_)
      · have H := ok_t H c8
        refine r_aload_n hZ dX4_coming_22 rfl ?_
        obtain ⟨x5, ex5, H⟩ := ok_bind H
        refine r_getR hZ fl_X4_7_8 dX4_coming_23 ex5 ?_
        refine r_aload_n hZ dX4_coming_26 rfl ?_
        obtain ⟨x6, ex6, H⟩ := ok_bind H
        refine r_getI hZ fl_X4_23_8 dX4_coming_27 ex6 ?_
        obtain ⟨x7, ex7, H⟩ := ok_bind H
        refine r_aI hZ dX4_coming_30 ex7 ?_
        have H := ok_some H
        exact r_pick [] (ls' := []) rfl H
      · have H := ok_f H c8
        refine r_iconst (v := (J (-1))) hZ dX4_coming_18 (by decide) ?_
        refine r_goto (tgt := 31) hZ dX4_coming_19 (by decide) ?_
        have H := ok_some H
        exact r_pick [] (ls' := []) rfl H
def f_X4_takes_6  (h : Hp) (a0 : Nat) (a1 : Int32) : Option (Int32 × Hp) :=
  (isO h a0 6).bind fun u1 =>
  (f_X4_coming_6 h a0).bind fun r2 =>
  (if r2 = a1 then
    (gI h a0 6 2).bind fun x3 =>
    (pF h a0 6 2 (.int (x3 + (J 1)))).bind fun h4 =>
    some ((J 1), h4)
  else
    some ((J 0), h))
set_option maxRecDepth 100000 in
set_option maxHeartbeats 4000000 in
theorem s_X4_takes_6 {n : Nat} {h : Hp} {a0 : Nat} {a1 : Int32}  {r : Int32 × Hp} (hf : f_X4_takes_6  h a0 a1 = some r) : Ev 3 yX4_takes cX4_takes 2 (some .boolean) [.ref a0, .int a1] n h (some (.int r.1)) n r.2 := by
  refine Ev_of RX4 rfl (by decide) (Nat.le_of_ble_eq_true rfl) (Nat.le_refl _) (Or.inl rfl) (fun Z hZ hF hN hI => ?_)
  have H : Ok (f_X4_takes_6  h a0 a1) (fun y => y = r) := ⟨_, hf, rfl⟩
  unfold f_X4_takes_6 at H
  refine r_ls (ls' := [(0, .ref a0), (1, .int a1)]) rfl ?_
  refine r_aload_n hZ dX4_takes_0 rfl ?_
  obtain ⟨u1, eu1, H⟩ := ok_bind H
  obtain ⟨r2, er2, H⟩ := ok_bind H
  refine r_callV (As := []) (rest := []) (st1 := [.int r2]) (N2 := 0) hZ dX4_takes_1 cw_X4_30_X7 rfl eu1 (s_X4_coming_6 er2) rfl rfl (by decide) (Nat.le_of_ble_eq_true rfl) (Nat.le_refl 0) (Nat.le_refl _) (Or.inl rfl) rfl ?_
  refine r_iload_n hZ dX4_takes_4 rfl ?_
  refine r_icmp_eq (tgt := 10) hZ dX4_takes_5 (by decide) (fun c5 => ?_) (fun c5 => ?_)
  · have H := ok_t H c5
    refine r_aload_n hZ dX4_takes_10 rfl ?_
    refine r_dup_a hZ dX4_takes_11 ?_
    obtain ⟨x3, ex3, H⟩ := ok_bind H
    refine r_getI hZ fl_X4_23_6 dX4_takes_12 ex3 ?_
    refine r_iconst (v := (J 1)) hZ dX4_takes_15 (by decide) ?_
    refine r_iadd hZ dX4_takes_16 ?_
    obtain ⟨h4, eh4, H⟩ := ok_bind H
    refine r_putf hZ fl_X4_23_6 dX4_takes_17 eh4 rfl rfl ?_
    refine r_iconst (v := (J 1)) hZ dX4_takes_20 (by decide) ?_
    have H := ok_some H
    subst H
    exact r_zret hZ hF (by decide) dX4_takes_21
  · have H := ok_f H c5
    refine r_iconst (v := (J 0)) hZ dX4_takes_8 (by decide) ?_
    have H := ok_some H
    subst H
    exact r_zret hZ hF (by decide) dX4_takes_9
def f_X4_takes_8  (h : Hp) (a0 : Nat) (a1 : Int32) : Option (Int32 × Hp) :=
  (isO h a0 8).bind fun u1 =>
  (f_X4_coming_8 h a0).bind fun r2 =>
  (if r2 = a1 then
    (gI h a0 8 2).bind fun x3 =>
    (pF h a0 8 2 (.int (x3 + (J 1)))).bind fun h4 =>
    some ((J 1), h4)
  else
    some ((J 0), h))
set_option maxRecDepth 100000 in
set_option maxHeartbeats 4000000 in
theorem s_X4_takes_8 {n : Nat} {h : Hp} {a0 : Nat} {a1 : Int32}  {r : Int32 × Hp} (hf : f_X4_takes_8  h a0 a1 = some r) : Ev 3 yX4_takes cX4_takes 2 (some .boolean) [.ref a0, .int a1] n h (some (.int r.1)) n r.2 := by
  refine Ev_of RX4 rfl (by decide) (Nat.le_of_ble_eq_true rfl) (Nat.le_refl _) (Or.inl rfl) (fun Z hZ hF hN hI => ?_)
  have H : Ok (f_X4_takes_8  h a0 a1) (fun y => y = r) := ⟨_, hf, rfl⟩
  unfold f_X4_takes_8 at H
  refine r_ls (ls' := [(0, .ref a0), (1, .int a1)]) rfl ?_
  refine r_aload_n hZ dX4_takes_0 rfl ?_
  obtain ⟨u1, eu1, H⟩ := ok_bind H
  obtain ⟨r2, er2, H⟩ := ok_bind H
  refine r_callV (As := []) (rest := []) (st1 := [.int r2]) (N2 := 0) hZ dX4_takes_1 cw_X4_30_X9 rfl eu1 (s_X4_coming_8 er2) rfl rfl (by decide) (Nat.le_of_ble_eq_true rfl) (Nat.le_refl 0) (Nat.le_refl _) (Or.inl rfl) rfl ?_
  refine r_iload_n hZ dX4_takes_4 rfl ?_
  refine r_icmp_eq (tgt := 10) hZ dX4_takes_5 (by decide) (fun c5 => ?_) (fun c5 => ?_)
  · have H := ok_t H c5
    refine r_aload_n hZ dX4_takes_10 rfl ?_
    refine r_dup_a hZ dX4_takes_11 ?_
    obtain ⟨x3, ex3, H⟩ := ok_bind H
    refine r_getI hZ fl_X4_23_8 dX4_takes_12 ex3 ?_
    refine r_iconst (v := (J 1)) hZ dX4_takes_15 (by decide) ?_
    refine r_iadd hZ dX4_takes_16 ?_
    obtain ⟨h4, eh4, H⟩ := ok_bind H
    refine r_putf hZ fl_X4_23_8 dX4_takes_17 eh4 rfl rfl ?_
    refine r_iconst (v := (J 1)) hZ dX4_takes_20 (by decide) ?_
    have H := ok_some H
    subst H
    exact r_zret hZ hF (by decide) dX4_takes_21
  · have H := ok_f H c5
    refine r_iconst (v := (J 0)) hZ dX4_takes_8 (by decide) ?_
    have H := ok_some H
    subst H
    exact r_zret hZ hF (by decide) dX4_takes_9
def f_X4_takeOrStop_6  (h : Hp) (a0 : Nat) (a1 : Int32) : Option (Hp) :=
  (isO h a0 6).bind fun u1 =>
  (f_X4_takes_6 h a0 a1).bind fun r2 =>
  ((if r2.1 = 0 then
    (pF r2.2 a0 6 3 (.int (J 1))).bind fun h4 =>
    some h4
  else
    some r2.2)).bind fun (j3 : Hp) =>
  some j3
set_option maxRecDepth 100000 in
set_option maxHeartbeats 4000000 in
theorem s_X4_takeOrStop_6 {n : Nat} {h : Hp} {a0 : Nat} {a1 : Int32}  {r : Hp} (hf : f_X4_takeOrStop_6  h a0 a1 = some r) : Ev 4 yX4_takeOrStop cX4_takeOrStop 2 none [.ref a0, .int a1] n h none n r := by
  refine Ev_of RX4 rfl (by decide) (Nat.le_of_ble_eq_true rfl) (Nat.le_refl _) (Or.inl rfl) (fun Z hZ hF hN hI => ?_)
  have H : Ok (f_X4_takeOrStop_6  h a0 a1) (fun y => y = r) := ⟨_, hf, rfl⟩
  unfold f_X4_takeOrStop_6 at H
  refine r_ls (ls' := [(0, .ref a0), (1, .int a1)]) rfl ?_
  refine r_aload_n hZ dX4_takeOrStop_0 rfl ?_
  refine r_iload_n hZ dX4_takeOrStop_1 rfl ?_
  obtain ⟨u1, eu1, H⟩ := ok_bind H
  obtain ⟨r2, er2, H⟩ := ok_bind H
  refine r_callV (As := [.int a1]) (rest := []) (st1 := [.int r2.1]) (N2 := 0) hZ dX4_takeOrStop_2 cw_X4_34_X7 rfl eu1 (s_X4_takes_6 er2) rfl rfl (by decide) (Nat.le_of_ble_eq_true rfl) (Nat.le_refl 0) (Nat.le_refl _) (Or.inl rfl) rfl ?_
  refine ok_join (Q := fun j3 : Hp => R Z 13 [] [] n j3 0) H (fun j3 H => ?_) (fun H => ?_)
  · have H := ok_some H
    subst H
    exact r_ret hZ hF dX4_takeOrStop_13
  · refine r_if_ne (tgt := 13) hZ dX4_takeOrStop_5 (by decide) (fun c5 => ?_) (fun c5 => ?_)
    · have H := ok_f H c5
      have H := ok_some H
      exact r_pick [] (ls' := []) rfl H
    · have H := ok_t H c5
      refine r_aload_n hZ dX4_takeOrStop_8 rfl ?_
      refine r_iconst (v := (J 1)) hZ dX4_takeOrStop_9 (by decide) ?_
      obtain ⟨h4, eh4, H⟩ := ok_bind H
      refine r_putf hZ fl_X4_26_6 dX4_takeOrStop_10 eh4 (by decide) (by decide) ?_
      have H := ok_some H
      exact r_pick [] (ls' := []) rfl H
def f_X4_takeOrStop_8  (h : Hp) (a0 : Nat) (a1 : Int32) : Option (Hp) :=
  (isO h a0 8).bind fun u1 =>
  (f_X4_takes_8 h a0 a1).bind fun r2 =>
  ((if r2.1 = 0 then
    (pF r2.2 a0 8 3 (.int (J 1))).bind fun h4 =>
    some h4
  else
    some r2.2)).bind fun (j3 : Hp) =>
  some j3
set_option maxRecDepth 100000 in
set_option maxHeartbeats 4000000 in
theorem s_X4_takeOrStop_8 {n : Nat} {h : Hp} {a0 : Nat} {a1 : Int32}  {r : Hp} (hf : f_X4_takeOrStop_8  h a0 a1 = some r) : Ev 4 yX4_takeOrStop cX4_takeOrStop 2 none [.ref a0, .int a1] n h none n r := by
  refine Ev_of RX4 rfl (by decide) (Nat.le_of_ble_eq_true rfl) (Nat.le_refl _) (Or.inl rfl) (fun Z hZ hF hN hI => ?_)
  have H : Ok (f_X4_takeOrStop_8  h a0 a1) (fun y => y = r) := ⟨_, hf, rfl⟩
  unfold f_X4_takeOrStop_8 at H
  refine r_ls (ls' := [(0, .ref a0), (1, .int a1)]) rfl ?_
  refine r_aload_n hZ dX4_takeOrStop_0 rfl ?_
  refine r_iload_n hZ dX4_takeOrStop_1 rfl ?_
  obtain ⟨u1, eu1, H⟩ := ok_bind H
  obtain ⟨r2, er2, H⟩ := ok_bind H
  refine r_callV (As := [.int a1]) (rest := []) (st1 := [.int r2.1]) (N2 := 0) hZ dX4_takeOrStop_2 cw_X4_34_X9 rfl eu1 (s_X4_takes_8 er2) rfl rfl (by decide) (Nat.le_of_ble_eq_true rfl) (Nat.le_refl 0) (Nat.le_refl _) (Or.inl rfl) rfl ?_
  refine ok_join (Q := fun j3 : Hp => R Z 13 [] [] n j3 0) H (fun j3 H => ?_) (fun H => ?_)
  · have H := ok_some H
    subst H
    exact r_ret hZ hF dX4_takeOrStop_13
  · refine r_if_ne (tgt := 13) hZ dX4_takeOrStop_5 (by decide) (fun c5 => ?_) (fun c5 => ?_)
    · have H := ok_f H c5
      have H := ok_some H
      exact r_pick [] (ls' := []) rfl H
    · have H := ok_t H c5
      refine r_aload_n hZ dX4_takeOrStop_8 rfl ?_
      refine r_iconst (v := (J 1)) hZ dX4_takeOrStop_9 (by decide) ?_
      obtain ⟨h4, eh4, H⟩ := ok_bind H
      refine r_putf hZ fl_X4_26_8 dX4_takeOrStop_10 eh4 (by decide) (by decide) ?_
      have H := ok_some H
      exact r_pick [] (ls' := []) rfl H
def b_X4_takeNumber_6_41 (p0 : Nat) (p1 : Int32) (s : Int32 × Int32 × Hp) : Option ((Int32 × Int32 × Hp) ⊕ ((Int32 × Hp))) :=
  (if p1 ≤ s.2.1 then
    some (.inr ((s.1, s.2.2)))
  else
    (if s.1 = 0 then
      some (.inr ((s.1, s.2.2)))
    else
      (isO s.2.2 p0 6).bind fun u1 =>
      (f_X4_coming_6 s.2.2 p0).bind fun r2 =>
      (f_X11_isWithin r2 (J 48) (J 57)).bind fun r3 =>
      (if r3 = 0 then
        some (.inr ((s.1, s.2.2)))
      else
        (isO s.2.2 p0 6).bind fun u4 =>
        (f_X4_coming_6 s.2.2 p0).bind fun r5 =>
        (some ((((J 10) * s.1) + r5) - (J 48))).bind fun x6 =>
        (gI s.2.2 p0 6 2).bind fun x7 =>
        (pF s.2.2 p0 6 2 (.int (x7 + (J 1)))).bind fun h8 =>
        (some (s.2.1 + (J 1))).bind fun x9 =>
        some (.inl (x6, x9, h8)))))
set_option maxRecDepth 100000 in
set_option maxHeartbeats 4000000 in
theorem l_X4_takeNumber_6_41 {Z : Zc} (hZ : Fx cX4_takeNumber RX4 5 3 0 Z) {n : Nat} {p0 : Nat} {p1 : Int32} {P : ((Int32 × Hp)) → Prop} (hx0 : ∀ e : Int32 × Hp, P (e) → R Z 94 [(3, .int e.1)] [] n e.2 0) : ∀ (m : Nat) (s : Int32 × Int32 × Hp), Ok (iter (b_X4_takeNumber_6_41 p0 p1) m s) P → R Z 41 [(0, .ref p0), (1, .int p1), (3, .int s.1), (4, .int s.2.1)] [] n s.2.2 0 := by
  intro m
  induction m with
  | zero => exact fun s H => ok_iter0 H
  | succ m ih =>
    intro s H
    have H := ok_iter H
    unfold b_X4_takeNumber_6_41 at H
    refine r_iload hZ dX4_takeNumber_41 rfl ?_
    refine r_iload_n hZ dX4_takeNumber_43 rfl ?_
    refine r_icmp_ge (tgt := 94) hZ dX4_takeNumber_44 (by decide) (fun c12 => ?_) (fun c12 => ?_)
    · have H := ok_t H c12
      exact r_pick [3] (ls' := [(3, .int s.1)]) rfl (hx0 _ (ki_r H))
    · have H := ok_f H c12
      refine r_iload_n hZ dX4_takeNumber_47 rfl ?_
      refine r_if_eq (tgt := 94) hZ dX4_takeNumber_48 (by decide) (fun c11 => ?_) (fun c11 => ?_)
      · have H := ok_t H c11
        exact r_pick [3] (ls' := [(3, .int s.1)]) rfl (hx0 _ (ki_r H))
      · have H := ok_f H c11
        refine r_aload_n hZ dX4_takeNumber_51 rfl ?_
        obtain ⟨u1, eu1, H⟩ := ok_bind H
        obtain ⟨r2, er2, H⟩ := ok_bind H
        refine r_callV (As := []) (rest := []) (st1 := [.int r2]) (N2 := 0) hZ dX4_takeNumber_52 cw_X4_30_X7 rfl eu1 (s_X4_coming_6 er2) rfl rfl (by decide) (Nat.le_of_ble_eq_true rfl) (Nat.le_refl 0) (Nat.le_refl _) (Or.inl rfl) rfl ?_
        refine r_bipush (v := (J 48)) hZ dX4_takeNumber_55 (by decide) ?_
        refine r_bipush (v := (J 57)) hZ dX4_takeNumber_57 (by decide) ?_
        obtain ⟨r3, er3, H⟩ := ok_bind H
        refine r_callSN (As := [.int r2, .int (J 48), .int (J 57)]) (rest := []) (st1 := [.int r3]) (N2 := 0) hZ dX4_takeNumber_59 cw_X4_38 (s_X11_isWithin er3) rfl rfl (by decide) (Nat.le_of_ble_eq_true rfl) (Nat.le_refl 0) (Nat.le_refl _) (Or.inl rfl) rfl ?_
        refine r_if_eq (tgt := 94) hZ dX4_takeNumber_62 (by decide) (fun c10 => ?_) (fun c10 => ?_)
        · have H := ok_t H c10
          exact r_pick [3] (ls' := [(3, .int s.1)]) rfl (hx0 _ (ki_r H))
        · have H := ok_f H c10
          refine r_bipush (v := (J 10)) hZ dX4_takeNumber_65 (by decide) ?_
          refine r_iload_n hZ dX4_takeNumber_67 rfl ?_
          refine r_imul hZ dX4_takeNumber_68 ?_
          refine r_aload_n hZ dX4_takeNumber_69 rfl ?_
          obtain ⟨u4, eu4, H⟩ := ok_bind H
          obtain ⟨r5, er5, H⟩ := ok_bind H
          refine r_callV (As := []) (rest := [.int ((J 10) * s.1)]) (st1 := [.int r5, .int ((J 10) * s.1)]) (N2 := 0) hZ dX4_takeNumber_70 cw_X4_30_X7 rfl eu4 (s_X4_coming_6 er5) rfl rfl (by decide) (Nat.le_of_ble_eq_true rfl) (Nat.le_refl 0) (Nat.le_refl _) (Or.inl rfl) rfl ?_
          refine r_iadd hZ dX4_takeNumber_73 ?_
          refine r_bipush (v := (J 48)) hZ dX4_takeNumber_74 (by decide) ?_
          refine r_isub hZ dX4_takeNumber_76 ?_
          obtain ⟨x6, ex6, H⟩ := ok_bind H
          refine r_topi ex6 ?_
          refine r_istore_n hZ dX4_takeNumber_77 (by decide) (r_pick [0, 1, 3, 4] (ls' := [(0, .ref p0), (1, .int p1), (3, .int x6), (4, .int s.2.1)]) rfl ?_)
          refine r_aload_n hZ dX4_takeNumber_78 rfl ?_
          refine r_dup_a hZ dX4_takeNumber_79 ?_
          obtain ⟨x7, ex7, H⟩ := ok_bind H
          refine r_getI hZ fl_X4_23_6 dX4_takeNumber_80 ex7 ?_
          refine r_iconst (v := (J 1)) hZ dX4_takeNumber_83 (by decide) ?_
          refine r_iadd hZ dX4_takeNumber_84 ?_
          obtain ⟨h8, eh8, H⟩ := ok_bind H
          refine r_putf hZ fl_X4_23_6 dX4_takeNumber_85 eh8 rfl rfl ?_
          obtain ⟨x9, ex9, H⟩ := ok_bind H
          refine r_iincE (w := (J 1)) hZ dX4_takeNumber_88 (by decide) rfl (by decide) ex9 (r_pick [0, 1, 3, 4] (ls' := [(0, .ref p0), (1, .int p1), (3, .int x6), (4, .int x9)]) rfl ?_)
          refine r_goto (tgt := 41) hZ dX4_takeNumber_91 (by decide) ?_
          exact r_pick [0, 1, 3, 4] (ls' := [(0, .ref p0), (1, .int p1), (3, .int x6), (4, .int x9)]) rfl (ih _ (ki_l H))
def f_X4_takeNumber_6  (h : Hp) (a0 : Nat) (a1 : Int32) : Option (Int32 × Hp) :=
  (isO h a0 6).bind fun u1 =>
  (f_X4_coming_6 h a0).bind fun r2 =>
  (f_X11_isWithin r2 (J 48) (J 57)).bind fun r3 =>
  (if r3 = 0 then
    (pF h a0 6 3 (.int (J 1))).bind fun h9 =>
    some ((J 0), h9)
  else
    (gI h a0 6 2).bind fun x4 =>
    (pF h a0 6 2 (.int (x4 + (J 1)))).bind fun h5 =>
    (some (r2 - (J 48))).bind fun x6 =>
    (some (J 1)).bind fun x7 =>
    (iter (b_X4_takeNumber_6_41 a0 a1) FU (x6, x7, h5)).bind fun e8 =>
    some (e8.1, e8.2))
set_option maxRecDepth 100000 in
set_option maxHeartbeats 4000000 in
theorem s_X4_takeNumber_6 {n : Nat} {h : Hp} {a0 : Nat} {a1 : Int32}  {r : Int32 × Hp} (hf : f_X4_takeNumber_6  h a0 a1 = some r) : Ev 3 yX4_takeNumber cX4_takeNumber 5 (some .int) [.ref a0, .int a1] n h (some (.int r.1)) n r.2 := by
  refine Ev_of RX4 rfl (by decide) (Nat.le_of_ble_eq_true rfl) (Nat.le_refl _) (Or.inl rfl) (fun Z hZ hF hN hI => ?_)
  have H : Ok (f_X4_takeNumber_6  h a0 a1) (fun y => y = r) := ⟨_, hf, rfl⟩
  unfold f_X4_takeNumber_6 at H
  refine r_ls (ls' := [(0, .ref a0), (1, .int a1)]) rfl ?_
  refine r_aload_n hZ dX4_takeNumber_0 rfl ?_
  obtain ⟨u1, eu1, H⟩ := ok_bind H
  obtain ⟨r2, er2, H⟩ := ok_bind H
  refine r_callV (As := []) (rest := []) (st1 := [.int r2]) (N2 := 0) hZ dX4_takeNumber_1 cw_X4_30_X7 rfl eu1 (s_X4_coming_6 er2) rfl rfl (by decide) (Nat.le_of_ble_eq_true rfl) (Nat.le_refl 0) (Nat.le_refl _) (Or.inl rfl) rfl ?_
  refine r_istore_n hZ dX4_takeNumber_4 (by decide) (r_pick [0, 1, 2] (ls' := [(0, .ref a0), (1, .int a1), (2, .int r2)]) rfl ?_)
  refine r_iload_n hZ dX4_takeNumber_5 rfl ?_
  refine r_bipush (v := (J 48)) hZ dX4_takeNumber_6 (by decide) ?_
  refine r_bipush (v := (J 57)) hZ dX4_takeNumber_8 (by decide) ?_
  obtain ⟨r3, er3, H⟩ := ok_bind H
  refine r_callSN (As := [.int r2, .int (J 48), .int (J 57)]) (rest := []) (st1 := [.int r3]) (N2 := 0) hZ dX4_takeNumber_10 cw_X4_38 (s_X11_isWithin er3) rfl rfl (by decide) (Nat.le_of_ble_eq_true rfl) (Nat.le_refl 0) (Nat.le_refl _) (Or.inl rfl) rfl ?_
  refine r_if_ne (tgt := 23) hZ dX4_takeNumber_13 (by decide) (fun c10 => ?_) (fun c10 => ?_)
  · have H := ok_f H c10
    refine r_aload_n hZ dX4_takeNumber_23 rfl ?_
    refine r_dup_a hZ dX4_takeNumber_24 ?_
    obtain ⟨x4, ex4, H⟩ := ok_bind H
    refine r_getI hZ fl_X4_23_6 dX4_takeNumber_25 ex4 ?_
    refine r_iconst (v := (J 1)) hZ dX4_takeNumber_28 (by decide) ?_
    refine r_iadd hZ dX4_takeNumber_29 ?_
    obtain ⟨h5, eh5, H⟩ := ok_bind H
    refine r_putf hZ fl_X4_23_6 dX4_takeNumber_30 eh5 rfl rfl ?_
    refine r_iload_n hZ dX4_takeNumber_33 rfl ?_
    refine r_bipush (v := (J 48)) hZ dX4_takeNumber_34 (by decide) ?_
    refine r_isub hZ dX4_takeNumber_36 ?_
    obtain ⟨x6, ex6, H⟩ := ok_bind H
    refine r_topi ex6 ?_
    refine r_istore_n hZ dX4_takeNumber_37 (by decide) (r_pick [0, 1, 3] (ls' := [(0, .ref a0), (1, .int a1), (3, .int x6)]) rfl ?_)
    refine r_iconst (v := (J 1)) hZ dX4_takeNumber_38 (by decide) ?_
    obtain ⟨x7, ex7, H⟩ := ok_bind H
    refine r_topi ex7 ?_
    refine r_istore hZ dX4_takeNumber_39 (by decide) (r_pick [0, 1, 3, 4] (ls' := [(0, .ref a0), (1, .int a1), (3, .int x6), (4, .int x7)]) rfl ?_)
    have H := ok_bindK H
    refine r_pick [0, 1, 3, 4] (ls' := [(0, .ref a0), (1, .int a1), (3, .int x6), (4, .int x7)]) rfl (l_X4_takeNumber_6_41 hZ (fun e8 H => ?_) FU _ H)
    · refine r_iload_n hZ dX4_takeNumber_94 rfl ?_
      have H := ok_some H
      subst H
      exact r_iret hZ hF dX4_takeNumber_95
  · have H := ok_t H c10
    refine r_aload_n hZ dX4_takeNumber_16 rfl ?_
    refine r_iconst (v := (J 1)) hZ dX4_takeNumber_17 (by decide) ?_
    obtain ⟨h9, eh9, H⟩ := ok_bind H
    refine r_putf hZ fl_X4_26_6 dX4_takeNumber_18 eh9 (by decide) (by decide) ?_
    refine r_iconst (v := (J 0)) hZ dX4_takeNumber_21 (by decide) ?_
    have H := ok_some H
    subst H
    exact r_iret hZ hF dX4_takeNumber_22
def b_X4_takeNumber_8_41 (p0 : Nat) (p1 : Int32) (s : Int32 × Int32 × Hp) : Option ((Int32 × Int32 × Hp) ⊕ ((Int32 × Hp))) :=
  (if p1 ≤ s.2.1 then
    some (.inr ((s.1, s.2.2)))
  else
    (if s.1 = 0 then
      some (.inr ((s.1, s.2.2)))
    else
      (isO s.2.2 p0 8).bind fun u1 =>
      (f_X4_coming_8 s.2.2 p0).bind fun r2 =>
      (f_X11_isWithin r2 (J 48) (J 57)).bind fun r3 =>
      (if r3 = 0 then
        some (.inr ((s.1, s.2.2)))
      else
        (isO s.2.2 p0 8).bind fun u4 =>
        (f_X4_coming_8 s.2.2 p0).bind fun r5 =>
        (some ((((J 10) * s.1) + r5) - (J 48))).bind fun x6 =>
        (gI s.2.2 p0 8 2).bind fun x7 =>
        (pF s.2.2 p0 8 2 (.int (x7 + (J 1)))).bind fun h8 =>
        (some (s.2.1 + (J 1))).bind fun x9 =>
        some (.inl (x6, x9, h8)))))
set_option maxRecDepth 100000 in
set_option maxHeartbeats 4000000 in
theorem l_X4_takeNumber_8_41 {Z : Zc} (hZ : Fx cX4_takeNumber RX4 5 3 0 Z) {n : Nat} {p0 : Nat} {p1 : Int32} {P : ((Int32 × Hp)) → Prop} (hx0 : ∀ e : Int32 × Hp, P (e) → R Z 94 [(3, .int e.1)] [] n e.2 0) : ∀ (m : Nat) (s : Int32 × Int32 × Hp), Ok (iter (b_X4_takeNumber_8_41 p0 p1) m s) P → R Z 41 [(0, .ref p0), (1, .int p1), (3, .int s.1), (4, .int s.2.1)] [] n s.2.2 0 := by
  intro m
  induction m with
  | zero => exact fun s H => ok_iter0 H
  | succ m ih =>
    intro s H
    have H := ok_iter H
    unfold b_X4_takeNumber_8_41 at H
    refine r_iload hZ dX4_takeNumber_41 rfl ?_
    refine r_iload_n hZ dX4_takeNumber_43 rfl ?_
    refine r_icmp_ge (tgt := 94) hZ dX4_takeNumber_44 (by decide) (fun c12 => ?_) (fun c12 => ?_)
    · have H := ok_t H c12
      exact r_pick [3] (ls' := [(3, .int s.1)]) rfl (hx0 _ (ki_r H))
    · have H := ok_f H c12
      refine r_iload_n hZ dX4_takeNumber_47 rfl ?_
      refine r_if_eq (tgt := 94) hZ dX4_takeNumber_48 (by decide) (fun c11 => ?_) (fun c11 => ?_)
      · have H := ok_t H c11
        exact r_pick [3] (ls' := [(3, .int s.1)]) rfl (hx0 _ (ki_r H))
      · have H := ok_f H c11
        refine r_aload_n hZ dX4_takeNumber_51 rfl ?_
        obtain ⟨u1, eu1, H⟩ := ok_bind H
        obtain ⟨r2, er2, H⟩ := ok_bind H
        refine r_callV (As := []) (rest := []) (st1 := [.int r2]) (N2 := 0) hZ dX4_takeNumber_52 cw_X4_30_X9 rfl eu1 (s_X4_coming_8 er2) rfl rfl (by decide) (Nat.le_of_ble_eq_true rfl) (Nat.le_refl 0) (Nat.le_refl _) (Or.inl rfl) rfl ?_
        refine r_bipush (v := (J 48)) hZ dX4_takeNumber_55 (by decide) ?_
        refine r_bipush (v := (J 57)) hZ dX4_takeNumber_57 (by decide) ?_
        obtain ⟨r3, er3, H⟩ := ok_bind H
        refine r_callSN (As := [.int r2, .int (J 48), .int (J 57)]) (rest := []) (st1 := [.int r3]) (N2 := 0) hZ dX4_takeNumber_59 cw_X4_38 (s_X11_isWithin er3) rfl rfl (by decide) (Nat.le_of_ble_eq_true rfl) (Nat.le_refl 0) (Nat.le_refl _) (Or.inl rfl) rfl ?_
        refine r_if_eq (tgt := 94) hZ dX4_takeNumber_62 (by decide) (fun c10 => ?_) (fun c10 => ?_)
        · have H := ok_t H c10
          exact r_pick [3] (ls' := [(3, .int s.1)]) rfl (hx0 _ (ki_r H))
        · have H := ok_f H c10
          refine r_bipush (v := (J 10)) hZ dX4_takeNumber_65 (by decide) ?_
          refine r_iload_n hZ dX4_takeNumber_67 rfl ?_
          refine r_imul hZ dX4_takeNumber_68 ?_
          refine r_aload_n hZ dX4_takeNumber_69 rfl ?_
          obtain ⟨u4, eu4, H⟩ := ok_bind H
          obtain ⟨r5, er5, H⟩ := ok_bind H
          refine r_callV (As := []) (rest := [.int ((J 10) * s.1)]) (st1 := [.int r5, .int ((J 10) * s.1)]) (N2 := 0) hZ dX4_takeNumber_70 cw_X4_30_X9 rfl eu4 (s_X4_coming_8 er5) rfl rfl (by decide) (Nat.le_of_ble_eq_true rfl) (Nat.le_refl 0) (Nat.le_refl _) (Or.inl rfl) rfl ?_
          refine r_iadd hZ dX4_takeNumber_73 ?_
          refine r_bipush (v := (J 48)) hZ dX4_takeNumber_74 (by decide) ?_
          refine r_isub hZ dX4_takeNumber_76 ?_
          obtain ⟨x6, ex6, H⟩ := ok_bind H
          refine r_topi ex6 ?_
          refine r_istore_n hZ dX4_takeNumber_77 (by decide) (r_pick [0, 1, 3, 4] (ls' := [(0, .ref p0), (1, .int p1), (3, .int x6), (4, .int s.2.1)]) rfl ?_)
          refine r_aload_n hZ dX4_takeNumber_78 rfl ?_
          refine r_dup_a hZ dX4_takeNumber_79 ?_
          obtain ⟨x7, ex7, H⟩ := ok_bind H
          refine r_getI hZ fl_X4_23_8 dX4_takeNumber_80 ex7 ?_
          refine r_iconst (v := (J 1)) hZ dX4_takeNumber_83 (by decide) ?_
          refine r_iadd hZ dX4_takeNumber_84 ?_
          obtain ⟨h8, eh8, H⟩ := ok_bind H
          refine r_putf hZ fl_X4_23_8 dX4_takeNumber_85 eh8 rfl rfl ?_
          obtain ⟨x9, ex9, H⟩ := ok_bind H
          refine r_iincE (w := (J 1)) hZ dX4_takeNumber_88 (by decide) rfl (by decide) ex9 (r_pick [0, 1, 3, 4] (ls' := [(0, .ref p0), (1, .int p1), (3, .int x6), (4, .int x9)]) rfl ?_)
          refine r_goto (tgt := 41) hZ dX4_takeNumber_91 (by decide) ?_
          exact r_pick [0, 1, 3, 4] (ls' := [(0, .ref p0), (1, .int p1), (3, .int x6), (4, .int x9)]) rfl (ih _ (ki_l H))
def f_X4_takeNumber_8  (h : Hp) (a0 : Nat) (a1 : Int32) : Option (Int32 × Hp) :=
  (isO h a0 8).bind fun u1 =>
  (f_X4_coming_8 h a0).bind fun r2 =>
  (f_X11_isWithin r2 (J 48) (J 57)).bind fun r3 =>
  (if r3 = 0 then
    (pF h a0 8 3 (.int (J 1))).bind fun h9 =>
    some ((J 0), h9)
  else
    (gI h a0 8 2).bind fun x4 =>
    (pF h a0 8 2 (.int (x4 + (J 1)))).bind fun h5 =>
    (some (r2 - (J 48))).bind fun x6 =>
    (some (J 1)).bind fun x7 =>
    (iter (b_X4_takeNumber_8_41 a0 a1) FU (x6, x7, h5)).bind fun e8 =>
    some (e8.1, e8.2))
set_option maxRecDepth 100000 in
set_option maxHeartbeats 4000000 in
theorem s_X4_takeNumber_8 {n : Nat} {h : Hp} {a0 : Nat} {a1 : Int32}  {r : Int32 × Hp} (hf : f_X4_takeNumber_8  h a0 a1 = some r) : Ev 3 yX4_takeNumber cX4_takeNumber 5 (some .int) [.ref a0, .int a1] n h (some (.int r.1)) n r.2 := by
  refine Ev_of RX4 rfl (by decide) (Nat.le_of_ble_eq_true rfl) (Nat.le_refl _) (Or.inl rfl) (fun Z hZ hF hN hI => ?_)
  have H : Ok (f_X4_takeNumber_8  h a0 a1) (fun y => y = r) := ⟨_, hf, rfl⟩
  unfold f_X4_takeNumber_8 at H
  refine r_ls (ls' := [(0, .ref a0), (1, .int a1)]) rfl ?_
  refine r_aload_n hZ dX4_takeNumber_0 rfl ?_
  obtain ⟨u1, eu1, H⟩ := ok_bind H
  obtain ⟨r2, er2, H⟩ := ok_bind H
  refine r_callV (As := []) (rest := []) (st1 := [.int r2]) (N2 := 0) hZ dX4_takeNumber_1 cw_X4_30_X9 rfl eu1 (s_X4_coming_8 er2) rfl rfl (by decide) (Nat.le_of_ble_eq_true rfl) (Nat.le_refl 0) (Nat.le_refl _) (Or.inl rfl) rfl ?_
  refine r_istore_n hZ dX4_takeNumber_4 (by decide) (r_pick [0, 1, 2] (ls' := [(0, .ref a0), (1, .int a1), (2, .int r2)]) rfl ?_)
  refine r_iload_n hZ dX4_takeNumber_5 rfl ?_
  refine r_bipush (v := (J 48)) hZ dX4_takeNumber_6 (by decide) ?_
  refine r_bipush (v := (J 57)) hZ dX4_takeNumber_8 (by decide) ?_
  obtain ⟨r3, er3, H⟩ := ok_bind H
  refine r_callSN (As := [.int r2, .int (J 48), .int (J 57)]) (rest := []) (st1 := [.int r3]) (N2 := 0) hZ dX4_takeNumber_10 cw_X4_38 (s_X11_isWithin er3) rfl rfl (by decide) (Nat.le_of_ble_eq_true rfl) (Nat.le_refl 0) (Nat.le_refl _) (Or.inl rfl) rfl ?_
  refine r_if_ne (tgt := 23) hZ dX4_takeNumber_13 (by decide) (fun c10 => ?_) (fun c10 => ?_)
  · have H := ok_f H c10
    refine r_aload_n hZ dX4_takeNumber_23 rfl ?_
    refine r_dup_a hZ dX4_takeNumber_24 ?_
    obtain ⟨x4, ex4, H⟩ := ok_bind H
    refine r_getI hZ fl_X4_23_8 dX4_takeNumber_25 ex4 ?_
    refine r_iconst (v := (J 1)) hZ dX4_takeNumber_28 (by decide) ?_
    refine r_iadd hZ dX4_takeNumber_29 ?_
    obtain ⟨h5, eh5, H⟩ := ok_bind H
    refine r_putf hZ fl_X4_23_8 dX4_takeNumber_30 eh5 rfl rfl ?_
    refine r_iload_n hZ dX4_takeNumber_33 rfl ?_
    refine r_bipush (v := (J 48)) hZ dX4_takeNumber_34 (by decide) ?_
    refine r_isub hZ dX4_takeNumber_36 ?_
    obtain ⟨x6, ex6, H⟩ := ok_bind H
    refine r_topi ex6 ?_
    refine r_istore_n hZ dX4_takeNumber_37 (by decide) (r_pick [0, 1, 3] (ls' := [(0, .ref a0), (1, .int a1), (3, .int x6)]) rfl ?_)
    refine r_iconst (v := (J 1)) hZ dX4_takeNumber_38 (by decide) ?_
    obtain ⟨x7, ex7, H⟩ := ok_bind H
    refine r_topi ex7 ?_
    refine r_istore hZ dX4_takeNumber_39 (by decide) (r_pick [0, 1, 3, 4] (ls' := [(0, .ref a0), (1, .int a1), (3, .int x6), (4, .int x7)]) rfl ?_)
    have H := ok_bindK H
    refine r_pick [0, 1, 3, 4] (ls' := [(0, .ref a0), (1, .int a1), (3, .int x6), (4, .int x7)]) rfl (l_X4_takeNumber_8_41 hZ (fun e8 H => ?_) FU _ H)
    · refine r_iload_n hZ dX4_takeNumber_94 rfl ?_
      have H := ok_some H
      subst H
      exact r_iret hZ hF dX4_takeNumber_95
  · have H := ok_t H c10
    refine r_aload_n hZ dX4_takeNumber_16 rfl ?_
    refine r_iconst (v := (J 1)) hZ dX4_takeNumber_17 (by decide) ?_
    obtain ⟨h9, eh9, H⟩ := ok_bind H
    refine r_putf hZ fl_X4_26_8 dX4_takeNumber_18 eh9 (by decide) (by decide) ?_
    refine r_iconst (v := (J 0)) hZ dX4_takeNumber_21 (by decide) ?_
    have H := ok_some H
    subst H
    exact r_iret hZ hF dX4_takeNumber_22
def f_X9_init  (N2 n : Nat) (h : Hp) (a0 : Nat) : Option (Hp) :=
  (cap (n + 1) N2).bind fun u2 =>
  (f_X4_init_8 (n + 1) n h a0).bind fun r1 =>
  (cap ((n + 1) + 1) N2).bind fun u3 =>
  (pF (va_up r1 (n + 1) (some (0, .inr (3, .inl fun _ => 0)))) a0 8 6 (.ref (n + 1))).bind fun h4 =>
  (eqn ((n + 1) + 1) N2).bind fun u5 =>
  some h4
set_option maxRecDepth 100000 in
set_option maxHeartbeats 4000000 in
theorem s_X9_init {n : Nat} {h : Hp} {a0 : Nat}  {r : Hp} {N2 : Nat} (hB : n ≤ N2 ∧ N2 ≤ BB) (hf : f_X9_init  N2 n h a0 = some r) : Ev 3 yX9_init cX9_init 1 none [.ref a0] n h none N2 r := by
  refine Ev_of RX9 rfl (by decide) (Nat.le_of_ble_eq_true rfl) hB.1 (Or.inr hB.2) (fun Z hZ hF hN hI => ?_)
  have hN := hN hB.2
  have hI := hI rfl
  have H : Ok (f_X9_init  N2 n h a0) (fun y => y = r) := ⟨_, hf, rfl⟩
  unfold f_X9_init at H
  refine r_ls (ls' := [(0, .ref a0)]) rfl ?_
  refine r_aload_n hZ dX9_init_0 rfl ?_
  obtain ⟨u2, eu2, H⟩ := ok_bind H
  obtain ⟨r1, er1, H⟩ := ok_bind H
  refine r_callIN (As := []) (rest := []) (N2 := N2) hZ dX9_init_1 cw_X9_1 (s_X4_init_8 ⟨Nat.le_add_right _ _, Nat.le_trans (cap_le eu2) (NX_bb hN)⟩ er1) rfl rfl (by decide) (Nat.le_of_ble_eq_true rfl) (Nat.le_refl 0) (Nat.le_add_right _ _) (Or.inr ⟨hN, cap_le eu2⟩) ?_
  refine r_aload_n hZ dX9_init_4 rfl ?_
  refine r_iconst (v := (J 3)) hZ dX9_init_5 (by decide) ?_
  obtain ⟨u3, eu3, H⟩ := ok_bind H
  refine r_newI (len := 3) hZ hN wa_int (by decide) (by decide) (by decide) dX9_init_6 (cap_le eu3) (Nat.le_refl 0) ?_
  obtain ⟨h4, eh4, H⟩ := ok_bind H
  refine r_putF hZ hI fl_X9_7_8 dX9_init_8 eh4 rfl rfl rfl ?_
  obtain ⟨u5, eu5, H⟩ := ok_bind H
  have H := ok_some H
  subst H
  have eu5 := eqn_eq eu5
  rw [eu5]
  exact r_ret hZ hF dX9_init_11
def b_X9_readStatement_76 (p0 : Nat) (p1 : Int32) (s : Int32 × Hp) : Option ((Int32 × Hp) ⊕ ((Hp))) :=
  (if p1 ≤ s.1 then
    some (.inr (s.2))
  else
    ((if s.1 ≤ 0 then
      some s.2
    else
      (isO s.2 p0 8).bind fun u2 =>
      (f_X4_takeOrStop_8 s.2 p0 (J 32)).bind fun r3 =>
      some r3)).bind fun (j1 : Hp) =>
    (gR j1 p0 8 6).bind fun x5 =>
    (isO j1 p0 8).bind fun u6 =>
    (f_X4_takeNumber_8 j1 p0 (J 2)).bind fun r7 =>
    (sI r7.2 x5 s.1 r7.1).bind fun h8 =>
    (some (s.1 + (J 1))).bind fun x9 =>
    some (.inl (x9, h8)))
set_option maxRecDepth 100000 in
set_option maxHeartbeats 4000000 in
theorem l_X9_readStatement_76 {Z : Zc} (hZ : Fx cX9_readStatement RX9 3 5 0 Z) {n : Nat} {p0 : Nat} {p1 : Int32} {P : ((Hp)) → Prop} (hx0 : ∀ e : Hp, P (e) → R Z 108 [(0, .ref p0)] [] n e 0) : ∀ (m : Nat) (s : Int32 × Hp), Ok (iter (b_X9_readStatement_76 p0 p1) m s) P → R Z 76 [(0, .ref p0), (1, .int p1), (2, .int s.1)] [] n s.2 0 := by
  intro m
  induction m with
  | zero => exact fun s H => ok_iter0 H
  | succ m ih =>
    intro s H
    have H := ok_iter H
    unfold b_X9_readStatement_76 at H
    refine r_iload_n hZ dX9_readStatement_76 rfl ?_
    refine r_iload_n hZ dX9_readStatement_77 rfl ?_
    refine r_icmp_ge (tgt := 108) hZ dX9_readStatement_78 (by decide) (fun c10 => ?_) (fun c10 => ?_)
    · have H := ok_t H c10
      exact r_pick [0] (ls' := [(0, .ref p0)]) rfl (hx0 _ (ki_r H))
    · have H := ok_f H c10
      refine r_iload_n hZ dX9_readStatement_81 rfl ?_
      refine ok_join (Q := fun j1 : Hp => R Z 91 [(0, .ref p0), (1, .int p1), (2, .int s.1)] [] n j1 0) H (fun j1 H => ?_) (fun H => ?_)
      · refine r_aload_n hZ dX9_readStatement_91 rfl ?_
        obtain ⟨x5, ex5, H⟩ := ok_bind H
        refine r_getR hZ fl_X9_7_8 dX9_readStatement_92 ex5 ?_
        refine r_iload_n hZ dX9_readStatement_95 rfl ?_
        refine r_aload_n hZ dX9_readStatement_96 rfl ?_
        refine r_iconst (v := (J 2)) hZ dX9_readStatement_97 (by decide) ?_
        obtain ⟨u6, eu6, H⟩ := ok_bind H
        obtain ⟨r7, er7, H⟩ := ok_bind H
        refine r_callU (As := [.int (J 2)]) (rest := [.int s.1, .ref x5]) (st1 := [.int r7.1, .int s.1, .ref x5]) (N2 := 0) hZ dX9_readStatement_98 cw_X9_46_X9 rfl eu6 (s_X4_takeNumber_8 er7) rfl rfl (by decide) (Nat.le_of_ble_eq_true rfl) (Nat.le_refl 0) (Nat.le_refl _) (Or.inl rfl) rfl ?_
        obtain ⟨h8, eh8, H⟩ := ok_bind H
        refine r_sI hZ dX9_readStatement_101 eh8 ?_
        obtain ⟨x9, ex9, H⟩ := ok_bind H
        refine r_iincE (w := (J 1)) hZ dX9_readStatement_102 (by decide) rfl (by decide) ex9 (r_pick [0, 1, 2] (ls' := [(0, .ref p0), (1, .int p1), (2, .int x9)]) rfl ?_)
        refine r_goto (tgt := 76) hZ dX9_readStatement_105 (by decide) ?_
        exact r_pick [0, 1, 2] (ls' := [(0, .ref p0), (1, .int p1), (2, .int x9)]) rfl (ih _ (ki_l H))
      · refine r_if_le (tgt := 91) hZ dX9_readStatement_82 (by decide) (fun c4 => ?_) (fun c4 => ?_)
        · have H := ok_t H c4
          have H := ok_some H
          exact r_pick [0, 1, 2] (ls' := [(0, .ref p0), (1, .int p1), (2, .int s.1)]) rfl H
        · have H := ok_f H c4
          refine r_aload_n hZ dX9_readStatement_85 rfl ?_
          refine r_bipush (v := (J 32)) hZ dX9_readStatement_86 (by decide) ?_
          obtain ⟨u2, eu2, H⟩ := ok_bind H
          obtain ⟨r3, er3, H⟩ := ok_bind H
          refine r_callU (As := [.int (J 32)]) (rest := []) (st1 := []) (N2 := 0) hZ dX9_readStatement_88 cw_X9_42_X9 rfl eu2 (s_X4_takeOrStop_8 er3) rfl rfl (by decide) (Nat.le_of_ble_eq_true rfl) (Nat.le_refl 0) (Nat.le_refl _) (Or.inl rfl) rfl ?_
          have H := ok_some H
          exact r_pick [0, 1, 2] (ls' := [(0, .ref p0), (1, .int p1), (2, .int s.1)]) rfl H
def f_X9_readStatement  (h : Hp) (a0 : Nat) : Option (Hp) :=
  (gI h a0 8 2).bind fun x1 =>
  (pF h a0 8 5 (.int x1)).bind fun h2 =>
  (isO h2 a0 8).bind fun u3 =>
  (f_X4_coming_8 h2 a0).bind fun r4 =>
  (pF h2 a0 8 4 (.int r4)).bind fun h5 =>
  (gI h5 a0 8 4).bind fun x6 =>
  (if x6 = (J 103) then
    (gI h5 a0 8 2).bind fun x7 =>
    (pF h5 a0 8 2 (.int (x7 + (J 1)))).bind fun h8 =>
    (gI h8 a0 8 4).bind fun x9 =>
    ((if x9 = (J 109) then
      some (J 2)
    else
      some (J 3))).bind fun (j10 : Int32) =>
    (some (J 0)).bind fun x12 =>
    (iter (b_X9_readStatement_76 a0 j10) FU (x12, h8)).bind fun e13 =>
    (isO e13 a0 8).bind fun u14 =>
    (f_X4_takeOrStop_8 e13 a0 (J 59)).bind fun r15 =>
    some r15
  else
    (gI h5 a0 8 4).bind fun x16 =>
    (if x16 = (J 109) then
      (gI h5 a0 8 2).bind fun x17 =>
      (pF h5 a0 8 2 (.int (x17 + (J 1)))).bind fun h18 =>
      (gI h18 a0 8 4).bind fun x19 =>
      ((if x19 = (J 109) then
        some (J 2)
      else
        some (J 3))).bind fun (j20 : Int32) =>
      (some (J 0)).bind fun x22 =>
      (iter (b_X9_readStatement_76 a0 j20) FU (x22, h18)).bind fun e23 =>
      (isO e23 a0 8).bind fun u24 =>
      (f_X4_takeOrStop_8 e23 a0 (J 59)).bind fun r25 =>
      some r25
    else
      (gI h5 a0 8 4).bind fun x26 =>
      (if x26 = (J 100) then
        (gI h5 a0 8 2).bind fun x27 =>
        (pF h5 a0 8 2 (.int (x27 + (J 1)))).bind fun h28 =>
        (gI h28 a0 8 4).bind fun x29 =>
        ((if x29 = (J 109) then
          some (J 2)
        else
          some (J 3))).bind fun (j30 : Int32) =>
        (some (J 0)).bind fun x32 =>
        (iter (b_X9_readStatement_76 a0 j30) FU (x32, h28)).bind fun e33 =>
        (isO e33 a0 8).bind fun u34 =>
        (f_X4_takeOrStop_8 e33 a0 (J 59)).bind fun r35 =>
        some r35
      else
        (pF h5 a0 8 3 (.int (J 1))).bind fun h36 =>
        some h36)))
set_option maxRecDepth 100000 in
set_option maxHeartbeats 4000000 in
theorem s_X9_readStatement {n : Nat} {h : Hp} {a0 : Nat}  {r : Hp} (hf : f_X9_readStatement  h a0 = some r) : Ev 5 yX9_readStatement cX9_readStatement 3 none [.ref a0] n h none n r := by
  refine Ev_of RX9 rfl (by decide) (Nat.le_of_ble_eq_true rfl) (Nat.le_refl _) (Or.inl rfl) (fun Z hZ hF hN hI => ?_)
  have H : Ok (f_X9_readStatement  h a0) (fun y => y = r) := ⟨_, hf, rfl⟩
  unfold f_X9_readStatement at H
  refine r_ls (ls' := [(0, .ref a0)]) rfl ?_
  refine r_aload_n hZ dX9_readStatement_0 rfl ?_
  refine r_aload_n hZ dX9_readStatement_1 rfl ?_
  obtain ⟨x1, ex1, H⟩ := ok_bind H
  refine r_getI hZ fl_X9_28_8 dX9_readStatement_2 ex1 ?_
  obtain ⟨h2, eh2, H⟩ := ok_bind H
  refine r_putf hZ fl_X9_32_8 dX9_readStatement_5 eh2 rfl rfl ?_
  refine r_aload_n hZ dX9_readStatement_8 rfl ?_
  refine r_aload_n hZ dX9_readStatement_9 rfl ?_
  obtain ⟨u3, eu3, H⟩ := ok_bind H
  obtain ⟨r4, er4, H⟩ := ok_bind H
  refine r_callU (As := []) (rest := [.ref a0]) (st1 := [.int r4, .ref a0]) (N2 := 0) hZ dX9_readStatement_10 cw_X9_35_X9 rfl eu3 (s_X4_coming_8 er4) rfl rfl (by decide) (Nat.le_of_ble_eq_true rfl) (Nat.le_refl 0) (Nat.le_refl _) (Or.inl rfl) rfl ?_
  obtain ⟨h5, eh5, H⟩ := ok_bind H
  refine r_putf hZ fl_X9_39_8 dX9_readStatement_13 eh5 rfl rfl ?_
  refine r_aload_n hZ dX9_readStatement_16 rfl ?_
  obtain ⟨x6, ex6, H⟩ := ok_bind H
  refine r_getI hZ fl_X9_39_8 dX9_readStatement_17 ex6 ?_
  refine r_bipush (v := (J 103)) hZ dX9_readStatement_20 (by decide) ?_
  refine r_icmp_eq (tgt := 49) hZ dX9_readStatement_22 (by decide) (fun c39 => ?_) (fun c39 => ?_)
  · have H := ok_t H c39
    refine r_aload_n hZ dX9_readStatement_49 rfl ?_
    refine r_dup_a hZ dX9_readStatement_50 ?_
    obtain ⟨x7, ex7, H⟩ := ok_bind H
    refine r_getI hZ fl_X9_28_8 dX9_readStatement_51 ex7 ?_
    refine r_iconst (v := (J 1)) hZ dX9_readStatement_54 (by decide) ?_
    refine r_iadd hZ dX9_readStatement_55 ?_
    obtain ⟨h8, eh8, H⟩ := ok_bind H
    refine r_putf hZ fl_X9_28_8 dX9_readStatement_56 eh8 rfl rfl ?_
    refine r_aload_n hZ dX9_readStatement_59 rfl ?_
    obtain ⟨x9, ex9, H⟩ := ok_bind H
    refine r_getI hZ fl_X9_39_8 dX9_readStatement_60 ex9 ?_
    refine r_bipush (v := (J 109)) hZ dX9_readStatement_63 (by decide) ?_
    refine ok_join (Q := fun j10 : Int32 => R Z 73 [(0, .ref a0)] [.int j10] n h8 0) H (fun j10 H => ?_) (fun H => ?_)
    · refine r_istore_n hZ dX9_readStatement_73 (by decide) (r_pick [0, 1] (ls' := [(0, .ref a0), (1, .int j10)]) rfl ?_)
      refine r_iconst (v := (J 0)) hZ dX9_readStatement_74 (by decide) ?_
      obtain ⟨x12, ex12, H⟩ := ok_bind H
      refine r_topi ex12 ?_
      refine r_istore_n hZ dX9_readStatement_75 (by decide) (r_pick [0, 1, 2] (ls' := [(0, .ref a0), (1, .int j10), (2, .int x12)]) rfl ?_)
      have H := ok_bindK H
      refine r_pick [0, 1, 2] (ls' := [(0, .ref a0), (1, .int j10), (2, .int x12)]) rfl (l_X9_readStatement_76 hZ (fun e13 H => ?_) FU _ H)
      · refine r_aload_n hZ dX9_readStatement_108 rfl ?_
        refine r_bipush (v := (J 59)) hZ dX9_readStatement_109 (by decide) ?_
        obtain ⟨u14, eu14, H⟩ := ok_bind H
        obtain ⟨r15, er15, H⟩ := ok_bind H
        refine r_callU (As := [.int (J 59)]) (rest := []) (st1 := []) (N2 := 0) hZ dX9_readStatement_111 cw_X9_42_X9 rfl eu14 (s_X4_takeOrStop_8 er15) rfl rfl (by decide) (Nat.le_of_ble_eq_true rfl) (Nat.le_refl 0) (Nat.le_refl _) (Or.inl rfl) rfl ?_
        have H := ok_some H
        subst H
        exact r_ret hZ hF dX9_readStatement_114
    · refine r_icmp_ne (tgt := 72) hZ dX9_readStatement_65 (by decide) (fun c11 => ?_) (fun c11 => ?_)
      · have H := ok_f H c11
        refine r_iconst (v := (J 3)) hZ dX9_readStatement_72 (by decide) ?_
        have H := ok_some H
        exact r_pick [0] (ls' := [(0, .ref a0)]) rfl H
      · have H := ok_t H c11
        refine r_iconst (v := (J 2)) hZ dX9_readStatement_68 (by decide) ?_
        refine r_goto (tgt := 73) hZ dX9_readStatement_69 (by decide) ?_
        have H := ok_some H
        exact r_pick [0] (ls' := [(0, .ref a0)]) rfl H
  · have H := ok_f H c39
    refine r_aload_n hZ dX9_readStatement_25 rfl ?_
    obtain ⟨x16, ex16, H⟩ := ok_bind H
    refine r_getI hZ fl_X9_39_8 dX9_readStatement_26 ex16 ?_
    refine r_bipush (v := (J 109)) hZ dX9_readStatement_29 (by decide) ?_
    refine r_icmp_eq (tgt := 49) hZ dX9_readStatement_31 (by decide) (fun c38 => ?_) (fun c38 => ?_)
    · have H := ok_t H c38
      refine r_aload_n hZ dX9_readStatement_49 rfl ?_
      refine r_dup_a hZ dX9_readStatement_50 ?_
      obtain ⟨x17, ex17, H⟩ := ok_bind H
      refine r_getI hZ fl_X9_28_8 dX9_readStatement_51 ex17 ?_
      refine r_iconst (v := (J 1)) hZ dX9_readStatement_54 (by decide) ?_
      refine r_iadd hZ dX9_readStatement_55 ?_
      obtain ⟨h18, eh18, H⟩ := ok_bind H
      refine r_putf hZ fl_X9_28_8 dX9_readStatement_56 eh18 rfl rfl ?_
      refine r_aload_n hZ dX9_readStatement_59 rfl ?_
      obtain ⟨x19, ex19, H⟩ := ok_bind H
      refine r_getI hZ fl_X9_39_8 dX9_readStatement_60 ex19 ?_
      refine r_bipush (v := (J 109)) hZ dX9_readStatement_63 (by decide) ?_
      refine ok_join (Q := fun j20 : Int32 => R Z 73 [(0, .ref a0)] [.int j20] n h18 0) H (fun j20 H => ?_) (fun H => ?_)
      · refine r_istore_n hZ dX9_readStatement_73 (by decide) (r_pick [0, 1] (ls' := [(0, .ref a0), (1, .int j20)]) rfl ?_)
        refine r_iconst (v := (J 0)) hZ dX9_readStatement_74 (by decide) ?_
        obtain ⟨x22, ex22, H⟩ := ok_bind H
        refine r_topi ex22 ?_
        refine r_istore_n hZ dX9_readStatement_75 (by decide) (r_pick [0, 1, 2] (ls' := [(0, .ref a0), (1, .int j20), (2, .int x22)]) rfl ?_)
        have H := ok_bindK H
        refine r_pick [0, 1, 2] (ls' := [(0, .ref a0), (1, .int j20), (2, .int x22)]) rfl (l_X9_readStatement_76 hZ (fun e23 H => ?_) FU _ H)
        · refine r_aload_n hZ dX9_readStatement_108 rfl ?_
          refine r_bipush (v := (J 59)) hZ dX9_readStatement_109 (by decide) ?_
          obtain ⟨u24, eu24, H⟩ := ok_bind H
          obtain ⟨r25, er25, H⟩ := ok_bind H
          refine r_callU (As := [.int (J 59)]) (rest := []) (st1 := []) (N2 := 0) hZ dX9_readStatement_111 cw_X9_42_X9 rfl eu24 (s_X4_takeOrStop_8 er25) rfl rfl (by decide) (Nat.le_of_ble_eq_true rfl) (Nat.le_refl 0) (Nat.le_refl _) (Or.inl rfl) rfl ?_
          have H := ok_some H
          subst H
          exact r_ret hZ hF dX9_readStatement_114
      · refine r_icmp_ne (tgt := 72) hZ dX9_readStatement_65 (by decide) (fun c21 => ?_) (fun c21 => ?_)
        · have H := ok_f H c21
          refine r_iconst (v := (J 3)) hZ dX9_readStatement_72 (by decide) ?_
          have H := ok_some H
          exact r_pick [0] (ls' := [(0, .ref a0)]) rfl H
        · have H := ok_t H c21
          refine r_iconst (v := (J 2)) hZ dX9_readStatement_68 (by decide) ?_
          refine r_goto (tgt := 73) hZ dX9_readStatement_69 (by decide) ?_
          have H := ok_some H
          exact r_pick [0] (ls' := [(0, .ref a0)]) rfl H
    · have H := ok_f H c38
      refine r_aload_n hZ dX9_readStatement_34 rfl ?_
      obtain ⟨x26, ex26, H⟩ := ok_bind H
      refine r_getI hZ fl_X9_39_8 dX9_readStatement_35 ex26 ?_
      refine r_bipush (v := (J 100)) hZ dX9_readStatement_38 (by decide) ?_
      refine r_icmp_eq (tgt := 49) hZ dX9_readStatement_40 (by decide) (fun c37 => ?_) (fun c37 => ?_)
      · have H := ok_t H c37
        refine r_aload_n hZ dX9_readStatement_49 rfl ?_
        refine r_dup_a hZ dX9_readStatement_50 ?_
        obtain ⟨x27, ex27, H⟩ := ok_bind H
        refine r_getI hZ fl_X9_28_8 dX9_readStatement_51 ex27 ?_
        refine r_iconst (v := (J 1)) hZ dX9_readStatement_54 (by decide) ?_
        refine r_iadd hZ dX9_readStatement_55 ?_
        obtain ⟨h28, eh28, H⟩ := ok_bind H
        refine r_putf hZ fl_X9_28_8 dX9_readStatement_56 eh28 rfl rfl ?_
        refine r_aload_n hZ dX9_readStatement_59 rfl ?_
        obtain ⟨x29, ex29, H⟩ := ok_bind H
        refine r_getI hZ fl_X9_39_8 dX9_readStatement_60 ex29 ?_
        refine r_bipush (v := (J 109)) hZ dX9_readStatement_63 (by decide) ?_
        refine ok_join (Q := fun j30 : Int32 => R Z 73 [(0, .ref a0)] [.int j30] n h28 0) H (fun j30 H => ?_) (fun H => ?_)
        · refine r_istore_n hZ dX9_readStatement_73 (by decide) (r_pick [0, 1] (ls' := [(0, .ref a0), (1, .int j30)]) rfl ?_)
          refine r_iconst (v := (J 0)) hZ dX9_readStatement_74 (by decide) ?_
          obtain ⟨x32, ex32, H⟩ := ok_bind H
          refine r_topi ex32 ?_
          refine r_istore_n hZ dX9_readStatement_75 (by decide) (r_pick [0, 1, 2] (ls' := [(0, .ref a0), (1, .int j30), (2, .int x32)]) rfl ?_)
          have H := ok_bindK H
          refine r_pick [0, 1, 2] (ls' := [(0, .ref a0), (1, .int j30), (2, .int x32)]) rfl (l_X9_readStatement_76 hZ (fun e33 H => ?_) FU _ H)
          · refine r_aload_n hZ dX9_readStatement_108 rfl ?_
            refine r_bipush (v := (J 59)) hZ dX9_readStatement_109 (by decide) ?_
            obtain ⟨u34, eu34, H⟩ := ok_bind H
            obtain ⟨r35, er35, H⟩ := ok_bind H
            refine r_callU (As := [.int (J 59)]) (rest := []) (st1 := []) (N2 := 0) hZ dX9_readStatement_111 cw_X9_42_X9 rfl eu34 (s_X4_takeOrStop_8 er35) rfl rfl (by decide) (Nat.le_of_ble_eq_true rfl) (Nat.le_refl 0) (Nat.le_refl _) (Or.inl rfl) rfl ?_
            have H := ok_some H
            subst H
            exact r_ret hZ hF dX9_readStatement_114
        · refine r_icmp_ne (tgt := 72) hZ dX9_readStatement_65 (by decide) (fun c31 => ?_) (fun c31 => ?_)
          · have H := ok_f H c31
            refine r_iconst (v := (J 3)) hZ dX9_readStatement_72 (by decide) ?_
            have H := ok_some H
            exact r_pick [0] (ls' := [(0, .ref a0)]) rfl H
          · have H := ok_t H c31
            refine r_iconst (v := (J 2)) hZ dX9_readStatement_68 (by decide) ?_
            refine r_goto (tgt := 73) hZ dX9_readStatement_69 (by decide) ?_
            have H := ok_some H
            exact r_pick [0] (ls' := [(0, .ref a0)]) rfl H
      · have H := ok_f H c37
        refine r_aload_n hZ dX9_readStatement_43 rfl ?_
        refine r_iconst (v := (J 1)) hZ dX9_readStatement_44 (by decide) ?_
        obtain ⟨h36, eh36, H⟩ := ok_bind H
        refine r_putf hZ fl_X9_20_8 dX9_readStatement_45 eh36 (by decide) (by decide) ?_
        have H := ok_some H
        subst H
        exact r_ret hZ hF dX9_readStatement_48
def b_X9_countStatements_8 (p0 : Nat) (p2 : Int32) (s : Int32 × Hp) : Option ((Int32 × Hp) ⊕ ((Int32 × Hp))) :=
  (isO s.2 p0 8).bind fun u1 =>
  (f_X9_readStatement s.2 p0).bind fun r2 =>
  (some (s.1 + (J 1))).bind fun x3 =>
  (gI r2 p0 8 3).bind fun x4 =>
  (if x4 = 0 then
    (isO r2 p0 8).bind fun u5 =>
    (f_X4_isAtEnd_8 r2 p0).bind fun r6 =>
    (if r6 = 0 then
      (if x3 < p2 then
        some (.inl (x3, r2))
      else
        some (.inr ((x3, r2))))
    else
      some (.inr ((x3, r2))))
  else
    some (.inr ((x3, r2))))
set_option maxRecDepth 100000 in
set_option maxHeartbeats 4000000 in
theorem l_X9_countStatements_8 {Z : Zc} (hZ : Fx cX9_countStatements RX9 4 6 0 Z) {n : Nat} {p0 : Nat} {p2 : Int32} {P : ((Int32 × Hp)) → Prop} (hx0 : ∀ e : Int32 × Hp, P (e) → R Z 34 [(3, .int e.1)] [] n e.2 0) : ∀ (m : Nat) (s : Int32 × Hp), Ok (iter (b_X9_countStatements_8 p0 p2) m s) P → R Z 8 [(0, .ref p0), (2, .int p2), (3, .int s.1)] [] n s.2 0 := by
  intro m
  induction m with
  | zero => exact fun s H => ok_iter0 H
  | succ m ih =>
    intro s H
    have H := ok_iter H
    unfold b_X9_countStatements_8 at H
    refine r_aload_n hZ dX9_countStatements_8 rfl ?_
    obtain ⟨u1, eu1, H⟩ := ok_bind H
    obtain ⟨r2, er2, H⟩ := ok_bind H
    refine r_callV (As := []) (rest := []) (st1 := []) (N2 := 0) hZ dX9_countStatements_9 cw_X9_17_X9 rfl eu1 (s_X9_readStatement er2) rfl rfl (by decide) (Nat.le_of_ble_eq_true rfl) (Nat.le_refl 0) (Nat.le_refl _) (Or.inl rfl) rfl ?_
    obtain ⟨x3, ex3, H⟩ := ok_bind H
    refine r_iincE (w := (J 1)) hZ dX9_countStatements_12 (by decide) rfl (by decide) ex3 (r_pick [0, 2, 3] (ls' := [(0, .ref p0), (2, .int p2), (3, .int x3)]) rfl ?_)
    refine r_aload_n hZ dX9_countStatements_15 rfl ?_
    obtain ⟨x4, ex4, H⟩ := ok_bind H
    refine r_getI hZ fl_X9_20_8 dX9_countStatements_16 ex4 ?_
    refine r_if_ne (tgt := 34) hZ dX9_countStatements_19 (by decide) (fun c9 => ?_) (fun c9 => ?_)
    · have H := ok_f H c9
      exact r_pick [3] (ls' := [(3, .int x3)]) rfl (hx0 _ (ki_r H))
    · have H := ok_t H c9
      refine r_aload_n hZ dX9_countStatements_22 rfl ?_
      obtain ⟨u5, eu5, H⟩ := ok_bind H
      obtain ⟨r6, er6, H⟩ := ok_bind H
      refine r_callU (As := []) (rest := []) (st1 := [.int r6]) (N2 := 0) hZ dX9_countStatements_23 cw_X9_24_X9 rfl eu5 (s_X4_isAtEnd_8 er6) rfl rfl (by decide) (Nat.le_of_ble_eq_true rfl) (Nat.le_refl 0) (Nat.le_refl _) (Or.inl rfl) rfl ?_
      refine r_if_ne (tgt := 34) hZ dX9_countStatements_26 (by decide) (fun c8 => ?_) (fun c8 => ?_)
      · have H := ok_f H c8
        exact r_pick [3] (ls' := [(3, .int x3)]) rfl (hx0 _ (ki_r H))
      · have H := ok_t H c8
        refine r_iload_n hZ dX9_countStatements_29 rfl ?_
        refine r_iload_n hZ dX9_countStatements_30 rfl ?_
        refine r_icmp_lt (tgt := 8) hZ dX9_countStatements_31 (by decide) (fun c7 => ?_) (fun c7 => ?_)
        · have H := ok_t H c7
          exact r_pick [0, 2, 3] (ls' := [(0, .ref p0), (2, .int p2), (3, .int x3)]) rfl (ih _ (ki_l H))
        · have H := ok_f H c7
          exact r_pick [3] (ls' := [(3, .int x3)]) rfl (hx0 _ (ki_r H))
def f_X9_countStatements  (h : Hp) (a0 : Nat) (a1 : Nat) (a2 : Int32) : Option (Int32 × Hp) :=
  (isO h a0 8).bind fun u1 =>
  (f_X4_startOn_8 h a0 a1 a2).bind fun r2 =>
  (some (J 0)).bind fun x3 =>
  (iter (b_X9_countStatements_8 a0 a2) FU (x3, r2)).bind fun e4 =>
  some (e4.1, e4.2)
set_option maxRecDepth 100000 in
set_option maxHeartbeats 4000000 in
theorem s_X9_countStatements {n : Nat} {h : Hp} {a0 : Nat} {a1 : Nat} {a2 : Int32}  {r : Int32 × Hp} (hf : f_X9_countStatements  h a0 a1 a2 = some r) : Ev 6 yX9_countStatements cX9_countStatements 4 (some .int) [.ref a0, .ref a1, .int a2] n h (some (.int r.1)) n r.2 := by
  refine Ev_of RX9 rfl (by decide) (Nat.le_of_ble_eq_true rfl) (Nat.le_refl _) (Or.inl rfl) (fun Z hZ hF hN hI => ?_)
  have H : Ok (f_X9_countStatements  h a0 a1 a2) (fun y => y = r) := ⟨_, hf, rfl⟩
  unfold f_X9_countStatements at H
  refine r_ls (ls' := [(0, .ref a0), (1, .ref a1), (2, .int a2)]) rfl ?_
  refine r_aload_n hZ dX9_countStatements_0 rfl ?_
  refine r_aload_n hZ dX9_countStatements_1 rfl ?_
  refine r_iload_n hZ dX9_countStatements_2 rfl ?_
  obtain ⟨u1, eu1, H⟩ := ok_bind H
  obtain ⟨r2, er2, H⟩ := ok_bind H
  refine r_callU (As := [.ref a1, .int a2]) (rest := []) (st1 := []) (N2 := 0) hZ dX9_countStatements_3 cw_X9_13_X9 rfl eu1 (s_X4_startOn_8 er2) rfl rfl (by decide) (Nat.le_of_ble_eq_true rfl) (Nat.le_refl 0) (Nat.le_refl _) (Or.inl rfl) rfl ?_
  refine r_iconst (v := (J 0)) hZ dX9_countStatements_6 (by decide) ?_
  obtain ⟨x3, ex3, H⟩ := ok_bind H
  refine r_topi ex3 ?_
  refine r_istore_n hZ dX9_countStatements_7 (by decide) (r_pick [0, 2, 3] (ls' := [(0, .ref a0), (2, .int a2), (3, .int x3)]) rfl ?_)
  have H := ok_bindK H
  refine r_pick [0, 2, 3] (ls' := [(0, .ref a0), (2, .int a2), (3, .int x3)]) rfl (l_X9_countStatements_8 hZ (fun e4 H => ?_) FU _ H)
  · refine r_iload_n hZ dX9_countStatements_34 rfl ?_
    have H := ok_some H
    subst H
    exact r_iret hZ hF dX9_countStatements_35
