def f_X8_init  (N2 n : Nat) (h : Hp) (a0 : Nat) : Option (Hp) :=
  (pF h a0 7 0 (.int (J 0))).bind fun h1 =>
  (cap (n + 1) N2).bind fun u2 =>
  (cap ((n + 1) + 1) N2).bind fun u4 =>
  (f_X0_init ((n + 1) + 1) (n + 1) (va_up h1 n (some (0, .inl [.int 0, .int 0, .int 0, .int 0, .null]))) n).bind fun r3 =>
  (pF r3 a0 7 1 (.ref n)).bind fun h5 =>
  (cap (((n + 1) + 1) + 1) N2).bind fun u6 =>
  (pF (va_up h5 ((n + 1) + 1) (some (0, .inr (120, .inl fun _ => 0)))) a0 7 4 (.ref ((n + 1) + 1))).bind fun h7 =>
  (eqn (((n + 1) + 1) + 1) N2).bind fun u8 =>
  some h7
set_option maxRecDepth 100000 in
set_option maxHeartbeats 4000000 in
theorem s_X8_init {n : Nat} {h : Hp} {a0 : Nat}  {r : Hp} {N2 : Nat} (hB : n ≤ N2 ∧ N2 ≤ BB) (hf : f_X8_init  N2 n h a0 = some r) : Ev 3 yX8_init cX8_init 1 none [.ref a0] n h none N2 r := by
  refine Ev_of RX8 rfl (by decide) (Nat.le_of_ble_eq_true rfl) hB.1 (Or.inr hB.2) (fun Z hZ hF hN hI => ?_)
  have hN := hN hB.2
  have hI := hI rfl
  have H : Ok (f_X8_init  N2 n h a0) (fun y => y = r) := ⟨_, hf, rfl⟩
  unfold f_X8_init at H
  refine r_ls (ls' := [(0, .ref a0)]) rfl ?_
  refine r_aload_n hZ dX8_init_0 rfl ?_
  refine r_objinit hZ wi_X8_3 wi_i wi_c dX8_init_1 (by decide) (Nat.le_of_ble_eq_true rfl) ?_
  refine r_aload_n hZ dX8_init_4 rfl ?_
  refine r_iconst (v := (J 0)) hZ dX8_init_5 (by decide) ?_
  obtain ⟨h1, eh1, H⟩ := ok_bind H
  refine r_putf hZ fl_X8_11_7 dX8_init_6 eh1 rfl rfl ?_
  refine r_aload_n hZ dX8_init_9 rfl ?_
  obtain ⟨u2, eu2, H⟩ := ok_bind H
  refine r_new hZ hN wn_X8_15 dX8_init_10 (cap_le eu2) (Nat.le_refl 0) ?_
  refine r_dup_a hZ dX8_init_13 ?_
  obtain ⟨u4, eu4, H⟩ := ok_bind H
  obtain ⟨r3, er3, H⟩ := ok_bind H
  refine r_callIN (As := []) (rest := [.ref n, .ref a0]) (N2 := N2) hZ dX8_init_14 cw_X8_17 (s_X0_init ⟨Nat.le_add_right _ _, Nat.le_trans (cap_le eu4) (NX_bb hN)⟩ er3) rfl rfl (by decide) (Nat.le_of_ble_eq_true rfl) (Nat.le_refl 0) (Nat.le_add_right _ _) (Or.inr ⟨hN, cap_le eu4⟩) ?_
  obtain ⟨h5, eh5, H⟩ := ok_bind H
  refine r_putF hZ hI fl_X8_18_7 dX8_init_17 eh5 rfl rfl rfl ?_
  refine r_aload_n hZ dX8_init_20 rfl ?_
  refine r_bipush (v := (J 120)) hZ dX8_init_21 (by decide) ?_
  obtain ⟨u6, eu6, H⟩ := ok_bind H
  refine r_newI (len := 120) hZ hN wa_int (by decide) (by decide) (by decide) dX8_init_23 (cap_le eu6) (Nat.le_refl 0) ?_
  obtain ⟨h7, eh7, H⟩ := ok_bind H
  refine r_putF hZ hI fl_X8_22_7 dX8_init_25 eh7 rfl rfl rfl ?_
  obtain ⟨u8, eu8, H⟩ := ok_bind H
  have H := ok_some H
  subst H
  have eu8 := eqn_eq eu8
  rw [eu8]
  exact r_ret hZ hF dX8_init_28
def f_X8_holdNothing  (h : Hp) (a0 : Nat) : Option (Hp) :=
  (pF h a0 7 0 (.int (J 0))).bind fun h1 =>
  some h1
set_option maxRecDepth 100000 in
set_option maxHeartbeats 4000000 in
theorem s_X8_holdNothing {n : Nat} {h : Hp} {a0 : Nat}  {r : Hp} (hf : f_X8_holdNothing  h a0 = some r) : Ev 2 yX8_holdNothing cX8_holdNothing 1 none [.ref a0] n h none n r := by
  refine Ev_of RX8 rfl (by decide) (Nat.le_of_ble_eq_true rfl) (Nat.le_refl _) (Or.inl rfl) (fun Z hZ hF hN hI => ?_)
  have H : Ok (f_X8_holdNothing  h a0) (fun y => y = r) := ⟨_, hf, rfl⟩
  unfold f_X8_holdNothing at H
  refine r_ls (ls' := [(0, .ref a0)]) rfl ?_
  refine r_aload_n hZ dX8_holdNothing_0 rfl ?_
  refine r_iconst (v := (J 0)) hZ dX8_holdNothing_1 (by decide) ?_
  obtain ⟨h1, eh1, H⟩ := ok_bind H
  refine r_putf hZ fl_X8_11_7 dX8_holdNothing_2 eh1 rfl rfl ?_
  have H := ok_some H
  subst H
  exact r_ret hZ hF dX8_holdNothing_5
def f_X8_holdGear  (h : Hp) (a0 : Nat) (a1 : Nat) : Option (Hp) :=
  (pF h a0 7 0 (.int (J 1))).bind fun h1 =>
  (gR h1 a0 7 1).bind fun x2 =>
  (isO h1 x2 0).bind fun u3 =>
  (f_X0_takeFrom h1 x2 a1).bind fun r4 =>
  some r4
set_option maxRecDepth 100000 in
set_option maxHeartbeats 4000000 in
theorem s_X8_holdGear {n : Nat} {h : Hp} {a0 : Nat} {a1 : Nat}  {r : Hp} (hf : f_X8_holdGear  h a0 a1 = some r) : Ev 3 yX8_holdGear cX8_holdGear 2 none [.ref a0, .ref a1] n h none n r := by
  refine Ev_of RX8 rfl (by decide) (Nat.le_of_ble_eq_true rfl) (Nat.le_refl _) (Or.inl rfl) (fun Z hZ hF hN hI => ?_)
  have H : Ok (f_X8_holdGear  h a0 a1) (fun y => y = r) := ⟨_, hf, rfl⟩
  unfold f_X8_holdGear at H
  refine r_ls (ls' := [(0, .ref a0), (1, .ref a1)]) rfl ?_
  refine r_aload_n hZ dX8_holdGear_0 rfl ?_
  refine r_iconst (v := (J 1)) hZ dX8_holdGear_1 (by decide) ?_
  obtain ⟨h1, eh1, H⟩ := ok_bind H
  refine r_putf hZ fl_X8_11_7 dX8_holdGear_2 eh1 rfl rfl ?_
  refine r_aload_n hZ dX8_holdGear_5 rfl ?_
  obtain ⟨x2, ex2, H⟩ := ok_bind H
  refine r_getR hZ fl_X8_18_7 dX8_holdGear_6 ex2 ?_
  refine r_aload_n hZ dX8_holdGear_9 rfl ?_
  obtain ⟨u3, eu3, H⟩ := ok_bind H
  obtain ⟨r4, er4, H⟩ := ok_bind H
  refine r_callV (As := [.ref a1]) (rest := []) (st1 := []) (N2 := 0) hZ dX8_holdGear_10 cw_X8_26_X0 rfl eu3 (s_X0_takeFrom er4) rfl rfl (by decide) (Nat.le_of_ble_eq_true rfl) (Nat.le_refl 0) (Nat.le_refl _) (Or.inl rfl) rfl ?_
  have H := ok_some H
  subst H
  exact r_ret hZ hF dX8_holdGear_13
def f_X8_holdRow  (h : Hp) (a0 : Nat) (a1 : Int32) (a2 : Int32) : Option (Hp) :=
  (pF h a0 7 0 (.int (J 2))).bind fun h1 =>
  (pF h1 a0 7 2 (.int a1)).bind fun h2 =>
  (pF h2 a0 7 3 (.int a2)).bind fun h3 =>
  (gR h3 a0 7 4).bind fun x4 =>
  (f_J7_fill_53178 h3 x4 (J 0)).bind fun r5 =>
  some r5
set_option maxRecDepth 100000 in
set_option maxHeartbeats 4000000 in
theorem s_X8_holdRow {n : Nat} {h : Hp} {a0 : Nat} {a1 : Int32} {a2 : Int32}  {r : Hp} (hf : f_X8_holdRow  h a0 a1 a2 = some r) : Ev 3 yX8_holdRow cX8_holdRow 3 none [.ref a0, .int a1, .int a2] n h none n r := by
  refine Ev_of RX8 rfl (by decide) (Nat.le_of_ble_eq_true rfl) (Nat.le_refl _) (Or.inl rfl) (fun Z hZ hF hN hI => ?_)
  have H : Ok (f_X8_holdRow  h a0 a1 a2) (fun y => y = r) := ⟨_, hf, rfl⟩
  unfold f_X8_holdRow at H
  refine r_ls (ls' := [(0, .ref a0), (1, .int a1), (2, .int a2)]) rfl ?_
  refine r_aload_n hZ dX8_holdRow_0 rfl ?_
  refine r_iconst (v := (J 2)) hZ dX8_holdRow_1 (by decide) ?_
  obtain ⟨h1, eh1, H⟩ := ok_bind H
  refine r_putf hZ fl_X8_11_7 dX8_holdRow_2 eh1 rfl rfl ?_
  refine r_aload_n hZ dX8_holdRow_5 rfl ?_
  refine r_iload_n hZ dX8_holdRow_6 rfl ?_
  obtain ⟨h2, eh2, H⟩ := ok_bind H
  refine r_putf hZ fl_X8_30_7 dX8_holdRow_7 eh2 rfl rfl ?_
  refine r_aload_n hZ dX8_holdRow_10 rfl ?_
  refine r_iload_n hZ dX8_holdRow_11 rfl ?_
  obtain ⟨h3, eh3, H⟩ := ok_bind H
  refine r_putf hZ fl_X8_33_7 dX8_holdRow_12 eh3 rfl rfl ?_
  refine r_aload_n hZ dX8_holdRow_15 rfl ?_
  obtain ⟨x4, ex4, H⟩ := ok_bind H
  refine r_getR hZ fl_X8_22_7 dX8_holdRow_16 ex4 ?_
  refine r_iconst (v := (J 0)) hZ dX8_holdRow_19 (by decide) ?_
  obtain ⟨r5, er5, H⟩ := ok_bind H
  refine r_callS (As := [.ref x4, .int (J 0)]) (rest := []) (st1 := []) (N2 := 0) hZ dX8_holdRow_20 cw_X8_36 (s_J7_fill_53178 er5) rfl rfl (by decide) (Nat.le_of_ble_eq_true rfl) (Nat.le_refl 0) (Nat.le_refl _) (Or.inl rfl) rfl ?_
  have H := ok_some H
  subst H
  exact r_ret hZ hF dX8_holdRow_23
def f_X8_holdsNothing  (h : Hp) (a0 : Nat) : Option (Int32) :=
  (gI h a0 7 0).bind fun x1 =>
  ((if x1 = 0 then
    some (J 1)
  else
    some (J 0))).bind fun (j2 : Int32) =>
  (bz j2).bind fun u4 =>
  some j2
set_option maxRecDepth 100000 in
set_option maxHeartbeats 4000000 in
theorem s_X8_holdsNothing {n : Nat} {h : Hp} {a0 : Nat}  {r : Int32} (hf : f_X8_holdsNothing  h a0 = some r) : Ev 2 yX8_holdsNothing cX8_holdsNothing 1 (some .boolean) [.ref a0] n h (some (.int r)) n h := by
  refine Ev_of RX8 rfl (by decide) (Nat.le_of_ble_eq_true rfl) (Nat.le_refl _) (Or.inl rfl) (fun Z hZ hF hN hI => ?_)
  have H : Ok (f_X8_holdsNothing  h a0) (fun y => y = r) := ⟨_, hf, rfl⟩
  unfold f_X8_holdsNothing at H
  refine r_ls (ls' := [(0, .ref a0)]) rfl ?_
  refine r_aload_n hZ dX8_holdsNothing_0 rfl ?_
  obtain ⟨x1, ex1, H⟩ := ok_bind H
  refine r_getI hZ fl_X8_11_7 dX8_holdsNothing_1 ex1 ?_
  refine ok_join (Q := fun j2 : Int32 => R Z 12 [] [.int j2] n h 0) H (fun j2 H => ?_) (fun H => ?_)
  · obtain ⟨u4, eu4, H⟩ := ok_bind H
    have H := ok_some H
    subst H
    exact r_zret hZ hF eu4 dX8_holdsNothing_12
  · refine r_if_ne (tgt := 11) hZ dX8_holdsNothing_4 (by decide) (fun c3 => ?_) (fun c3 => ?_)
    · have H := ok_f H c3
      refine r_iconst (v := (J 0)) hZ dX8_holdsNothing_11 (by decide) ?_
      have H := ok_some H
      exact r_pick [] (ls' := []) rfl H
    · have H := ok_t H c3
      refine r_iconst (v := (J 1)) hZ dX8_holdsNothing_7 (by decide) ?_
      refine r_goto (tgt := 12) hZ dX8_holdsNothing_8 (by decide) ?_
      have H := ok_some H
      exact r_pick [] (ls' := []) rfl H
def f_X8_holdsRow  (h : Hp) (a0 : Nat) : Option (Int32) :=
  (gI h a0 7 0).bind fun x1 =>
  ((if x1 = (J 2) then
    some (J 1)
  else
    some (J 0))).bind fun (j2 : Int32) =>
  (bz j2).bind fun u4 =>
  some j2
set_option maxRecDepth 100000 in
set_option maxHeartbeats 4000000 in
theorem s_X8_holdsRow {n : Nat} {h : Hp} {a0 : Nat}  {r : Int32} (hf : f_X8_holdsRow  h a0 = some r) : Ev 2 yX8_holdsRow cX8_holdsRow 1 (some .boolean) [.ref a0] n h (some (.int r)) n h := by
  refine Ev_of RX8 rfl (by decide) (Nat.le_of_ble_eq_true rfl) (Nat.le_refl _) (Or.inl rfl) (fun Z hZ hF hN hI => ?_)
  have H : Ok (f_X8_holdsRow  h a0) (fun y => y = r) := ⟨_, hf, rfl⟩
  unfold f_X8_holdsRow at H
  refine r_ls (ls' := [(0, .ref a0)]) rfl ?_
  refine r_aload_n hZ dX8_holdsRow_0 rfl ?_
  obtain ⟨x1, ex1, H⟩ := ok_bind H
  refine r_getI hZ fl_X8_11_7 dX8_holdsRow_1 ex1 ?_
  refine r_iconst (v := (J 2)) hZ dX8_holdsRow_4 (by decide) ?_
  refine ok_join (Q := fun j2 : Int32 => R Z 13 [] [.int j2] n h 0) H (fun j2 H => ?_) (fun H => ?_)
  · obtain ⟨u4, eu4, H⟩ := ok_bind H
    have H := ok_some H
    subst H
    exact r_zret hZ hF eu4 dX8_holdsRow_13
  · refine r_icmp_ne (tgt := 12) hZ dX8_holdsRow_5 (by decide) (fun c3 => ?_) (fun c3 => ?_)
    · have H := ok_f H c3
      refine r_iconst (v := (J 0)) hZ dX8_holdsRow_12 (by decide) ?_
      have H := ok_some H
      exact r_pick [] (ls' := []) rfl H
    · have H := ok_t H c3
      refine r_iconst (v := (J 1)) hZ dX8_holdsRow_8 (by decide) ?_
      refine r_goto (tgt := 13) hZ dX8_holdsRow_9 (by decide) ?_
      have H := ok_some H
      exact r_pick [] (ls' := []) rfl H
def f_X8_hasPlace  (h : Hp) (a0 : Nat) (a1 : Int32) : Option (Int32) :=
  (gI h a0 7 3).bind fun x1 =>
  (f_X11_isWithin a1 (J 0) (x1 - (J 1))).bind fun r2 =>
  (bz r2).bind fun u3 =>
  some r2
set_option maxRecDepth 100000 in
set_option maxHeartbeats 4000000 in
theorem s_X8_hasPlace {n : Nat} {h : Hp} {a0 : Nat} {a1 : Int32}  {r : Int32} (hf : f_X8_hasPlace  h a0 a1 = some r) : Ev 3 yX8_hasPlace cX8_hasPlace 2 (some .boolean) [.ref a0, .int a1] n h (some (.int r)) n h := by
  refine Ev_of RX8 rfl (by decide) (Nat.le_of_ble_eq_true rfl) (Nat.le_refl _) (Or.inl rfl) (fun Z hZ hF hN hI => ?_)
  have H : Ok (f_X8_hasPlace  h a0 a1) (fun y => y = r) := ⟨_, hf, rfl⟩
  unfold f_X8_hasPlace at H
  refine r_ls (ls' := [(0, .ref a0), (1, .int a1)]) rfl ?_
  refine r_iload_n hZ dX8_hasPlace_0 rfl ?_
  refine r_iconst (v := (J 0)) hZ dX8_hasPlace_1 (by decide) ?_
  refine r_aload_n hZ dX8_hasPlace_2 rfl ?_
  obtain ⟨x1, ex1, H⟩ := ok_bind H
  refine r_getI hZ fl_X8_33_7 dX8_hasPlace_3 ex1 ?_
  refine r_iconst (v := (J 1)) hZ dX8_hasPlace_6 (by decide) ?_
  refine r_isub hZ dX8_hasPlace_7 ?_
  obtain ⟨r2, er2, H⟩ := ok_bind H
  refine r_callSN (As := [.int a1, .int (J 0), .int (x1 - (J 1))]) (rest := []) (st1 := [.int r2]) (N2 := 0) hZ dX8_hasPlace_8 cw_X8_42 (s_X11_isWithin er2) rfl rfl (by decide) (Nat.le_of_ble_eq_true rfl) (Nat.le_refl 0) (Nat.le_refl _) (Or.inl rfl) rfl ?_
  obtain ⟨u3, eu3, H⟩ := ok_bind H
  have H := ok_some H
  subst H
  exact r_zret hZ hF eu3 dX8_hasPlace_11
def f_X8_hasPlaces  (h : Hp) (a0 : Nat) (a1 : Int32) (a2 : Int32) : Option (Int32) :=
  ((if a2 < 0 then
    some (J 0)
  else
    (gI h a0 7 3).bind fun x2 =>
    (if x2 < a2 then
      some (J 0)
    else
      (gI h a0 7 3).bind fun x3 =>
      (f_X11_isWithin a1 (J 0) (x3 - a2)).bind fun r4 =>
      (if r4 = 0 then
        some (J 0)
      else
        some (J 1))))).bind fun (j1 : Int32) =>
  (bz j1).bind fun u8 =>
  some j1
set_option maxRecDepth 100000 in
set_option maxHeartbeats 4000000 in
theorem s_X8_hasPlaces {n : Nat} {h : Hp} {a0 : Nat} {a1 : Int32} {a2 : Int32}  {r : Int32} (hf : f_X8_hasPlaces  h a0 a1 a2 = some r) : Ev 3 yX8_hasPlaces cX8_hasPlaces 3 (some .boolean) [.ref a0, .int a1, .int a2] n h (some (.int r)) n h := by
  refine Ev_of RX8 rfl (by decide) (Nat.le_of_ble_eq_true rfl) (Nat.le_refl _) (Or.inl rfl) (fun Z hZ hF hN hI => ?_)
  have H : Ok (f_X8_hasPlaces  h a0 a1 a2) (fun y => y = r) := ⟨_, hf, rfl⟩
  unfold f_X8_hasPlaces at H
  refine r_ls (ls' := [(0, .ref a0), (1, .int a1), (2, .int a2)]) rfl ?_
  refine r_iload_n hZ dX8_hasPlaces_0 rfl ?_
  refine ok_join (Q := fun j1 : Int32 => R Z 31 [] [.int j1] n h 0) H (fun j1 H => ?_) (fun H => ?_)
  · obtain ⟨u8, eu8, H⟩ := ok_bind H
    have H := ok_some H
    subst H
    exact r_zret hZ hF eu8 dX8_hasPlaces_31
  · refine r_if_lt (tgt := 30) hZ dX8_hasPlaces_1 (by decide) (fun c7 => ?_) (fun c7 => ?_)
    · have H := ok_t H c7
      refine r_iconst (v := (J 0)) hZ dX8_hasPlaces_30 (by decide) ?_
      have H := ok_some H
      exact r_pick [] (ls' := []) rfl H
    · have H := ok_f H c7
      refine r_iload_n hZ dX8_hasPlaces_4 rfl ?_
      refine r_aload_n hZ dX8_hasPlaces_5 rfl ?_
      obtain ⟨x2, ex2, H⟩ := ok_bind H
      refine r_getI hZ fl_X8_33_7 dX8_hasPlaces_6 ex2 ?_
      refine r_icmp_gt (tgt := 30) hZ dX8_hasPlaces_9 (by decide) (fun c6 => ?_) (fun c6 => ?_)
      · have H := ok_t H c6
        refine r_iconst (v := (J 0)) hZ dX8_hasPlaces_30 (by decide) ?_
        have H := ok_some H
        exact r_pick [] (ls' := []) rfl H
      · have H := ok_f H c6
        refine r_iload_n hZ dX8_hasPlaces_12 rfl ?_
        refine r_iconst (v := (J 0)) hZ dX8_hasPlaces_13 (by decide) ?_
        refine r_aload_n hZ dX8_hasPlaces_14 rfl ?_
        obtain ⟨x3, ex3, H⟩ := ok_bind H
        refine r_getI hZ fl_X8_33_7 dX8_hasPlaces_15 ex3 ?_
        refine r_iload_n hZ dX8_hasPlaces_18 rfl ?_
        refine r_isub hZ dX8_hasPlaces_19 ?_
        obtain ⟨r4, er4, H⟩ := ok_bind H
        refine r_callSN (As := [.int a1, .int (J 0), .int (x3 - a2)]) (rest := []) (st1 := [.int r4]) (N2 := 0) hZ dX8_hasPlaces_20 cw_X8_42 (s_X11_isWithin er4) rfl rfl (by decide) (Nat.le_of_ble_eq_true rfl) (Nat.le_refl 0) (Nat.le_refl _) (Or.inl rfl) rfl ?_
        refine r_if_eq (tgt := 30) hZ dX8_hasPlaces_23 (by decide) (fun c5 => ?_) (fun c5 => ?_)
        · have H := ok_t H c5
          refine r_iconst (v := (J 0)) hZ dX8_hasPlaces_30 (by decide) ?_
          have H := ok_some H
          exact r_pick [] (ls' := []) rfl H
        · have H := ok_f H c5
          refine r_iconst (v := (J 1)) hZ dX8_hasPlaces_26 (by decide) ?_
          refine r_goto (tgt := 31) hZ dX8_hasPlaces_27 (by decide) ?_
          have H := ok_some H
          exact r_pick [] (ls' := []) rfl H
def f_X8_setElement  (h : Hp) (a0 : Nat) (a1 : Int32) (a2 : Int32) : Option (Hp) :=
  (gI h a0 7 2).bind fun x1 =>
  ((if x1 = (J 0) then
    (gR h a0 7 4).bind fun x3 =>
    (sI h x3 a1 (a2.toInt8.toInt32)).bind fun h4 =>
    some h4
  else
    (if x1 = (J 1) then
      (gR h a0 7 4).bind fun x6 =>
      (sI h x6 a1 (a2.toInt16.toInt32)).bind fun h7 =>
      some h7
    else
      (gR h a0 7 4).bind fun x9 =>
      (sI h x9 a1 a2).bind fun h10 =>
      some h10))).bind fun (j2 : Hp) =>
  some j2
set_option maxRecDepth 100000 in
set_option maxHeartbeats 4000000 in
theorem s_X8_setElement {n : Nat} {h : Hp} {a0 : Nat} {a1 : Int32} {a2 : Int32}  {r : Hp} (hf : f_X8_setElement  h a0 a1 a2 = some r) : Ev 2 yX8_setElement cX8_setElement 3 none [.ref a0, .int a1, .int a2] n h none n r := by
  refine Ev_of RX8 rfl (by decide) (Nat.le_of_ble_eq_true rfl) (Nat.le_refl _) (Or.inl rfl) (fun Z hZ hF hN hI => ?_)
  have H : Ok (f_X8_setElement  h a0 a1 a2) (fun y => y = r) := ⟨_, hf, rfl⟩
  unfold f_X8_setElement at H
  refine r_ls (ls' := [(0, .ref a0), (1, .int a1), (2, .int a2)]) rfl ?_
  refine r_aload_n hZ dX8_setElement_0 rfl ?_
  obtain ⟨x1, ex1, H⟩ := ok_bind H
  refine r_getI hZ fl_X8_30_7 dX8_setElement_1 ex1 ?_
  refine ok_join (Q := fun j2 : Hp => R Z 61 [] [] n j2 0) H (fun j2 H => ?_) (fun H => ?_)
  · have H := ok_some H
    subst H
    exact r_ret hZ hF dX8_setElement_61
  · by_cases c5 : x1 = (J 0)
    · have hs : R Z 32 [(0, .ref a0), (1, .int a1), (2, .int a2)] [] n h 0 → R Z 4 [(0, .ref a0), (1, .int a1), (2, .int a2)] [.int x1] n h 0 := by
        exact fun k => r_lookup hZ dX8_setElement_4 (by decide) (off := 28) (by rw [c5]; rfl) (by decide) k
      refine hs ?_
      clear hs
      have H := ok_t H c5
      refine r_aload_n hZ dX8_setElement_32 rfl ?_
      obtain ⟨x3, ex3, H⟩ := ok_bind H
      refine r_getR hZ fl_X8_22_7 dX8_setElement_33 ex3 ?_
      refine r_iload_n hZ dX8_setElement_36 rfl ?_
      refine r_iload_n hZ dX8_setElement_37 rfl ?_
      refine r_i2b hZ dX8_setElement_38 ?_
      obtain ⟨h4, eh4, H⟩ := ok_bind H
      refine r_sI hZ dX8_setElement_39 eh4 ?_
      refine r_goto (tgt := 61) hZ dX8_setElement_40 (by decide) ?_
      have H := ok_some H
      exact r_pick [] (ls' := []) rfl H
    · have H := ok_f H c5
      by_cases c8 : x1 = (J 1)
      · have hs : R Z 43 [(0, .ref a0), (1, .int a1), (2, .int a2)] [] n h 0 → R Z 4 [(0, .ref a0), (1, .int a1), (2, .int a2)] [.int x1] n h 0 := by
          exact fun k => r_lookup hZ dX8_setElement_4 (by decide) (off := 39) (by rw [c8]; rfl) (by decide) k
        refine hs ?_
        clear hs
        have H := ok_t H c8
        refine r_aload_n hZ dX8_setElement_43 rfl ?_
        obtain ⟨x6, ex6, H⟩ := ok_bind H
        refine r_getR hZ fl_X8_22_7 dX8_setElement_44 ex6 ?_
        refine r_iload_n hZ dX8_setElement_47 rfl ?_
        refine r_iload_n hZ dX8_setElement_48 rfl ?_
        refine r_i2s hZ dX8_setElement_49 ?_
        obtain ⟨h7, eh7, H⟩ := ok_bind H
        refine r_sI hZ dX8_setElement_50 eh7 ?_
        refine r_goto (tgt := 61) hZ dX8_setElement_51 (by decide) ?_
        have H := ok_some H
        exact r_pick [] (ls' := []) rfl H
      · have H := ok_f H c8
        refine r_lookup (off := 50) (tgt := 54) hZ dX8_setElement_4 (by decide) (by show Op.lookupswitch.offset [(0, 28), (1, 39)] _ _ = _; rw [lv_osw c5 (by decide), lv_osw c8 (by decide)] <;> rfl) (by decide) ?_
        refine r_aload_n hZ dX8_setElement_54 rfl ?_
        obtain ⟨x9, ex9, H⟩ := ok_bind H
        refine r_getR hZ fl_X8_22_7 dX8_setElement_55 ex9 ?_
        refine r_iload_n hZ dX8_setElement_58 rfl ?_
        refine r_iload_n hZ dX8_setElement_59 rfl ?_
        obtain ⟨h10, eh10, H⟩ := ok_bind H
        refine r_sI hZ dX8_setElement_60 eh10 ?_
        have H := ok_some H
        exact r_pick [] (ls' := []) rfl H
def f_X8_refusalUnless  (h : Hp) (a0 : Nat) (a1 : Int32) : Option (Int32) :=
  (isO h a0 7).bind fun u1 =>
  (f_X8_holdsNothing h a0).bind fun r2 =>
  (if r2 = 0 then
    ((if a1 = 0 then
      some (J (-12))
    else
      some (J 0))).bind fun (j3 : Int32) =>
    some j3
  else
    some (J (-11)))
set_option maxRecDepth 100000 in
set_option maxHeartbeats 4000000 in
theorem s_X8_refusalUnless {n : Nat} {h : Hp} {a0 : Nat} {a1 : Int32}  {r : Int32} (hf : f_X8_refusalUnless  h a0 a1 = some r) : Ev 3 yX8_refusalUnless cX8_refusalUnless 2 (some .int) [.ref a0, .int a1] n h (some (.int r)) n h := by
  refine Ev_of RX8 rfl (by decide) (Nat.le_of_ble_eq_true rfl) (Nat.le_refl _) (Or.inl rfl) (fun Z hZ hF hN hI => ?_)
  have H : Ok (f_X8_refusalUnless  h a0 a1) (fun y => y = r) := ⟨_, hf, rfl⟩
  unfold f_X8_refusalUnless at H
  refine r_ls (ls' := [(0, .ref a0), (1, .int a1)]) rfl ?_
  refine r_aload_n hZ dX8_refusalUnless_0 rfl ?_
  obtain ⟨u1, eu1, H⟩ := ok_bind H
  obtain ⟨r2, er2, H⟩ := ok_bind H
  refine r_callV (As := []) (rest := []) (st1 := [.int r2]) (N2 := 0) hZ dX8_refusalUnless_1 cw_X8_46_X8 rfl eu1 (s_X8_holdsNothing er2) rfl rfl (by decide) (Nat.le_of_ble_eq_true rfl) (Nat.le_refl 0) (Nat.le_refl _) (Or.inl rfl) rfl ?_
  refine r_if_eq (tgt := 10) hZ dX8_refusalUnless_4 (by decide) (fun c5 => ?_) (fun c5 => ?_)
  · have H := ok_t H c5
    refine r_iload_n hZ dX8_refusalUnless_10 rfl ?_
    refine ok_join (Q := fun j3 : Int32 => R Z 20 [] [.int j3] n h 0) H (fun j3 H => ?_) (fun H => ?_)
    · have H := ok_some H
      subst H
      exact r_iret hZ hF dX8_refusalUnless_20
    · refine r_if_eq (tgt := 18) hZ dX8_refusalUnless_11 (by decide) (fun c4 => ?_) (fun c4 => ?_)
      · have H := ok_t H c4
        refine r_bipush (v := (J (-12))) hZ dX8_refusalUnless_18 (by decide) ?_
        have H := ok_some H
        exact r_pick [] (ls' := []) rfl H
      · have H := ok_f H c4
        refine r_iconst (v := (J 0)) hZ dX8_refusalUnless_14 (by decide) ?_
        refine r_goto (tgt := 20) hZ dX8_refusalUnless_15 (by decide) ?_
        have H := ok_some H
        exact r_pick [] (ls' := []) rfl H
  · have H := ok_f H c5
    refine r_bipush (v := (J (-11))) hZ dX8_refusalUnless_7 (by decide) ?_
    have H := ok_some H
    subst H
    exact r_iret hZ hF dX8_refusalUnless_9
def f_X8_gearRefusal  (h : Hp) (a0 : Nat) : Option (Int32) :=
  (gI h a0 7 0).bind fun x1 =>
  ((if x1 = (J 1) then
    some (J 1)
  else
    some (J 0))).bind fun (j2 : Int32) =>
  (isO h a0 7).bind fun u4 =>
  (f_X8_refusalUnless h a0 j2).bind fun r5 =>
  some r5
set_option maxRecDepth 100000 in
set_option maxHeartbeats 4000000 in
theorem s_X8_gearRefusal {n : Nat} {h : Hp} {a0 : Nat}  {r : Int32} (hf : f_X8_gearRefusal  h a0 = some r) : Ev 4 yX8_gearRefusal cX8_gearRefusal 1 (some .int) [.ref a0] n h (some (.int r)) n h := by
  refine Ev_of RX8 rfl (by decide) (Nat.le_of_ble_eq_true rfl) (Nat.le_refl _) (Or.inl rfl) (fun Z hZ hF hN hI => ?_)
  have H : Ok (f_X8_gearRefusal  h a0) (fun y => y = r) := ⟨_, hf, rfl⟩
  unfold f_X8_gearRefusal at H
  refine r_ls (ls' := [(0, .ref a0)]) rfl ?_
  refine r_aload_n hZ dX8_gearRefusal_0 rfl ?_
  refine r_aload_n hZ dX8_gearRefusal_1 rfl ?_
  obtain ⟨x1, ex1, H⟩ := ok_bind H
  refine r_getI hZ fl_X8_11_7 dX8_gearRefusal_2 ex1 ?_
  refine r_iconst (v := (J 1)) hZ dX8_gearRefusal_5 (by decide) ?_
  refine ok_join (Q := fun j2 : Int32 => R Z 14 [] [.int j2, .ref a0] n h 0) H (fun j2 H => ?_) (fun H => ?_)
  · obtain ⟨u4, eu4, H⟩ := ok_bind H
    obtain ⟨r5, er5, H⟩ := ok_bind H
    refine r_callV (As := [.int j2]) (rest := []) (st1 := [.int r5]) (N2 := 0) hZ dX8_gearRefusal_14 cw_X8_50_X8 rfl eu4 (s_X8_refusalUnless er5) rfl rfl (by decide) (Nat.le_of_ble_eq_true rfl) (Nat.le_refl 0) (Nat.le_refl _) (Or.inl rfl) rfl ?_
    have H := ok_some H
    subst H
    exact r_iret hZ hF dX8_gearRefusal_17
  · refine r_icmp_ne (tgt := 13) hZ dX8_gearRefusal_6 (by decide) (fun c3 => ?_) (fun c3 => ?_)
    · have H := ok_f H c3
      refine r_iconst (v := (J 0)) hZ dX8_gearRefusal_13 (by decide) ?_
      have H := ok_some H
      exact r_pick [] (ls' := []) rfl H
    · have H := ok_t H c3
      refine r_iconst (v := (J 1)) hZ dX8_gearRefusal_9 (by decide) ?_
      refine r_goto (tgt := 14) hZ dX8_gearRefusal_10 (by decide) ?_
      have H := ok_some H
      exact r_pick [] (ls' := []) rfl H
def f_X8_rowRefusal  (h : Hp) (a0 : Nat) : Option (Int32) :=
  (isO h a0 7).bind fun u1 =>
  (f_X8_holdsRow h a0).bind fun r2 =>
  (isO h a0 7).bind fun u3 =>
  (f_X8_refusalUnless h a0 r2).bind fun r4 =>
  some r4
set_option maxRecDepth 100000 in
set_option maxHeartbeats 4000000 in
theorem s_X8_rowRefusal {n : Nat} {h : Hp} {a0 : Nat}  {r : Int32} (hf : f_X8_rowRefusal  h a0 = some r) : Ev 4 yX8_rowRefusal cX8_rowRefusal 1 (some .int) [.ref a0] n h (some (.int r)) n h := by
  refine Ev_of RX8 rfl (by decide) (Nat.le_of_ble_eq_true rfl) (Nat.le_refl _) (Or.inl rfl) (fun Z hZ hF hN hI => ?_)
  have H : Ok (f_X8_rowRefusal  h a0) (fun y => y = r) := ⟨_, hf, rfl⟩
  unfold f_X8_rowRefusal at H
  refine r_ls (ls' := [(0, .ref a0)]) rfl ?_
  refine r_aload_n hZ dX8_rowRefusal_0 rfl ?_
  refine r_aload_n hZ dX8_rowRefusal_1 rfl ?_
  obtain ⟨u1, eu1, H⟩ := ok_bind H
  obtain ⟨r2, er2, H⟩ := ok_bind H
  refine r_callV (As := []) (rest := [.ref a0]) (st1 := [.int r2, .ref a0]) (N2 := 0) hZ dX8_rowRefusal_2 cw_X8_54_X8 rfl eu1 (s_X8_holdsRow er2) rfl rfl (by decide) (Nat.le_of_ble_eq_true rfl) (Nat.le_refl 0) (Nat.le_refl _) (Or.inl rfl) rfl ?_
  obtain ⟨u3, eu3, H⟩ := ok_bind H
  obtain ⟨r4, er4, H⟩ := ok_bind H
  refine r_callV (As := [.int r2]) (rest := []) (st1 := [.int r4]) (N2 := 0) hZ dX8_rowRefusal_5 cw_X8_50_X8 rfl eu3 (s_X8_refusalUnless er4) rfl rfl (by decide) (Nat.le_of_ble_eq_true rfl) (Nat.le_refl 0) (Nat.le_refl _) (Or.inl rfl) rfl ?_
  have H := ok_some H
  subst H
  exact r_iret hZ hF dX8_rowRefusal_8
def f_X8_bytesRefusal  (h : Hp) (a0 : Nat) : Option (Int32) :=
  (isO h a0 7).bind fun u1 =>
  (f_X8_holdsRow h a0).bind fun r2 =>
  ((if r2 = 0 then
    some (J 0)
  else
    (gI h a0 7 2).bind fun x4 =>
    (if x4 = 0 then
      some (J 1)
    else
      some (J 0)))).bind fun (j3 : Int32) =>
  (isO h a0 7).bind fun u7 =>
  (f_X8_refusalUnless h a0 j3).bind fun r8 =>
  some r8
set_option maxRecDepth 100000 in
set_option maxHeartbeats 4000000 in
theorem s_X8_bytesRefusal {n : Nat} {h : Hp} {a0 : Nat}  {r : Int32} (hf : f_X8_bytesRefusal  h a0 = some r) : Ev 4 yX8_bytesRefusal cX8_bytesRefusal 1 (some .int) [.ref a0] n h (some (.int r)) n h := by
  refine Ev_of RX8 rfl (by decide) (Nat.le_of_ble_eq_true rfl) (Nat.le_refl _) (Or.inl rfl) (fun Z hZ hF hN hI => ?_)
  have H : Ok (f_X8_bytesRefusal  h a0) (fun y => y = r) := ⟨_, hf, rfl⟩
  unfold f_X8_bytesRefusal at H
  refine r_ls (ls' := [(0, .ref a0)]) rfl ?_
  refine r_aload_n hZ dX8_bytesRefusal_0 rfl ?_
  refine r_aload_n hZ dX8_bytesRefusal_1 rfl ?_
  obtain ⟨u1, eu1, H⟩ := ok_bind H
  obtain ⟨r2, er2, H⟩ := ok_bind H
  refine r_callV (As := []) (rest := [.ref a0]) (st1 := [.int r2, .ref a0]) (N2 := 0) hZ dX8_bytesRefusal_2 cw_X8_54_X8 rfl eu1 (s_X8_holdsRow er2) rfl rfl (by decide) (Nat.le_of_ble_eq_true rfl) (Nat.le_refl 0) (Nat.le_refl _) (Or.inl rfl) rfl ?_
  refine ok_join (Q := fun j3 : Int32 => R Z 20 [] [.int j3, .ref a0] n h 0) H (fun j3 H => ?_) (fun H => ?_)
  · obtain ⟨u7, eu7, H⟩ := ok_bind H
    obtain ⟨r8, er8, H⟩ := ok_bind H
    refine r_callV (As := [.int j3]) (rest := []) (st1 := [.int r8]) (N2 := 0) hZ dX8_bytesRefusal_20 cw_X8_50_X8 rfl eu7 (s_X8_refusalUnless er8) rfl rfl (by decide) (Nat.le_of_ble_eq_true rfl) (Nat.le_refl 0) (Nat.le_refl _) (Or.inl rfl) rfl ?_
    have H := ok_some H
    subst H
    exact r_iret hZ hF dX8_bytesRefusal_23
  · refine r_if_eq (tgt := 19) hZ dX8_bytesRefusal_5 (by decide) (fun c6 => ?_) (fun c6 => ?_)
    · have H := ok_t H c6
      refine r_iconst (v := (J 0)) hZ dX8_bytesRefusal_19 (by decide) ?_
      have H := ok_some H
      exact r_pick [] (ls' := []) rfl H
    · have H := ok_f H c6
      refine r_aload_n hZ dX8_bytesRefusal_8 rfl ?_
      obtain ⟨x4, ex4, H⟩ := ok_bind H
      refine r_getI hZ fl_X8_30_7 dX8_bytesRefusal_9 ex4 ?_
      refine r_if_ne (tgt := 19) hZ dX8_bytesRefusal_12 (by decide) (fun c5 => ?_) (fun c5 => ?_)
      · have H := ok_f H c5
        refine r_iconst (v := (J 0)) hZ dX8_bytesRefusal_19 (by decide) ?_
        have H := ok_some H
        exact r_pick [] (ls' := []) rfl H
      · have H := ok_t H c5
        refine r_iconst (v := (J 1)) hZ dX8_bytesRefusal_15 (by decide) ?_
        refine r_goto (tgt := 20) hZ dX8_bytesRefusal_16 (by decide) ?_
        have H := ok_some H
        exact r_pick [] (ls' := []) rfl H
def b_X8_areAllWithin_2 (h : Hp) (p0 : Nat) (p1 : Int32) (s : Int32) : Option ((Int32) ⊕ ((Unit) ⊕ (Unit))) :=
  (gI h p0 7 3).bind fun x1 =>
  (if x1 ≤ s then
    some (.inr (.inl ()))
  else
    (gR h p0 7 4).bind fun x2 =>
    (aI h x2 s).bind fun x3 =>
    (f_X11_isWithin x3 (J 0) p1).bind fun r4 =>
    (if r4 = 0 then
      some (.inr (.inr ()))
    else
      (some (s + (J 1))).bind fun x5 =>
      some (.inl x5)))
set_option maxRecDepth 100000 in
set_option maxHeartbeats 4000000 in
theorem l_X8_areAllWithin_2 {Z : Zc} (hZ : Fx cX8_areAllWithin RX8 3 3 0 Z) {n : Nat} {h : Hp} {p0 : Nat} {p1 : Int32} {P : ((Unit) ⊕ (Unit)) → Prop} (hx0 : ∀ e : Unit, P (.inl e) → R Z 32 [] [] n h 0) (hx1 : ∀ e : Unit, P (.inr e) → R Z 24 [] [] n h 0) : ∀ (m : Nat) (s : Int32), Ok (iter (b_X8_areAllWithin_2 h p0 p1) m s) P → R Z 2 [(0, .ref p0), (1, .int p1), (2, .int s)] [] n h 0 := by
  intro m
  induction m with
  | zero => exact fun s H => ok_iter0 H
  | succ m ih =>
    intro s H
    have H := ok_iter H
    unfold b_X8_areAllWithin_2 at H
    refine r_iload_n hZ dX8_areAllWithin_2 rfl ?_
    refine r_aload_n hZ dX8_areAllWithin_3 rfl ?_
    obtain ⟨x1, ex1, H⟩ := ok_bind H
    refine r_getI hZ fl_X8_33_7 dX8_areAllWithin_4 ex1 ?_
    refine r_icmp_ge (tgt := 32) hZ dX8_areAllWithin_7 (by decide) (fun c7 => ?_) (fun c7 => ?_)
    · have H := ok_t H c7
      exact r_pick [] (ls' := []) rfl (hx0 _ (ki_r H))
    · have H := ok_f H c7
      refine r_aload_n hZ dX8_areAllWithin_10 rfl ?_
      obtain ⟨x2, ex2, H⟩ := ok_bind H
      refine r_getR hZ fl_X8_22_7 dX8_areAllWithin_11 ex2 ?_
      refine r_iload_n hZ dX8_areAllWithin_14 rfl ?_
      obtain ⟨x3, ex3, H⟩ := ok_bind H
      refine r_aI hZ dX8_areAllWithin_15 ex3 ?_
      refine r_iconst (v := (J 0)) hZ dX8_areAllWithin_16 (by decide) ?_
      refine r_iload_n hZ dX8_areAllWithin_17 rfl ?_
      obtain ⟨r4, er4, H⟩ := ok_bind H
      refine r_callSN (As := [.int x3, .int (J 0), .int p1]) (rest := []) (st1 := [.int r4]) (N2 := 0) hZ dX8_areAllWithin_18 cw_X8_42 (s_X11_isWithin er4) rfl rfl (by decide) (Nat.le_of_ble_eq_true rfl) (Nat.le_refl 0) (Nat.le_refl _) (Or.inl rfl) rfl ?_
      refine r_if_ne (tgt := 26) hZ dX8_areAllWithin_21 (by decide) (fun c6 => ?_) (fun c6 => ?_)
      · have H := ok_f H c6
        obtain ⟨x5, ex5, H⟩ := ok_bind H
        refine r_iincE (w := (J 1)) hZ dX8_areAllWithin_26 (by decide) rfl (by decide) ex5 (r_pick [0, 1, 2] (ls' := [(0, .ref p0), (1, .int p1), (2, .int x5)]) rfl ?_)
        refine r_goto (tgt := 2) hZ dX8_areAllWithin_29 (by decide) ?_
        exact r_pick [0, 1, 2] (ls' := [(0, .ref p0), (1, .int p1), (2, .int x5)]) rfl (ih _ (ki_l H))
      · have H := ok_t H c6
        exact r_pick [] (ls' := []) rfl (hx1 _ (ki_r H))
def f_X8_areAllWithin  (h : Hp) (a0 : Nat) (a1 : Int32) : Option (Int32) :=
  (some (J 0)).bind fun x1 =>
  (iter (b_X8_areAllWithin_2 h a0 a1) FU x1).bind fun e2 =>
  (match e2 with
  | .inl e3 =>
    some (J 1)
  | .inr e4 =>
    some (J 0))
set_option maxRecDepth 100000 in
set_option maxHeartbeats 4000000 in
theorem s_X8_areAllWithin {n : Nat} {h : Hp} {a0 : Nat} {a1 : Int32}  {r : Int32} (hf : f_X8_areAllWithin  h a0 a1 = some r) : Ev 3 yX8_areAllWithin cX8_areAllWithin 3 (some .boolean) [.ref a0, .int a1] n h (some (.int r)) n h := by
  refine Ev_of RX8 rfl (by decide) (Nat.le_of_ble_eq_true rfl) (Nat.le_refl _) (Or.inl rfl) (fun Z hZ hF hN hI => ?_)
  have H : Ok (f_X8_areAllWithin  h a0 a1) (fun y => y = r) := ⟨_, hf, rfl⟩
  unfold f_X8_areAllWithin at H
  refine r_ls (ls' := [(0, .ref a0), (1, .int a1)]) rfl ?_
  refine r_iconst (v := (J 0)) hZ dX8_areAllWithin_0 (by decide) ?_
  obtain ⟨x1, ex1, H⟩ := ok_bind H
  refine r_topi ex1 ?_
  refine r_istore_n hZ dX8_areAllWithin_1 (by decide) (r_pick [0, 1, 2] (ls' := [(0, .ref a0), (1, .int a1), (2, .int x1)]) rfl ?_)
  have H := ok_bindK H
  refine r_pick [0, 1, 2] (ls' := [(0, .ref a0), (1, .int a1), (2, .int x1)]) rfl (l_X8_areAllWithin_2 hZ (fun e3 H => ?_) (fun e4 H => ?_) FU _ H)
  · refine r_iconst (v := (J 1)) hZ dX8_areAllWithin_32 (by decide) ?_
    have H := ok_some H
    subst H
    exact r_zret hZ hF (by decide) dX8_areAllWithin_33
  · refine r_iconst (v := (J 0)) hZ dX8_areAllWithin_24 (by decide) ?_
    have H := ok_some H
    subst H
    exact r_zret hZ hF (by decide) dX8_areAllWithin_25
def f_X8_cutterRefusal  (h : Hp) (a0 : Nat) : Option (Int32) :=
  (isO h a0 7).bind fun u1 =>
  (f_X8_bytesRefusal h a0).bind fun r2 =>
  (if r2 = 0 then
    (gI h a0 7 3).bind fun x3 =>
    ((if x3 = (J 16) then
      (isO h a0 7).bind fun u5 =>
      (f_X8_areAllWithin h a0 (J 31)).bind fun r6 =>
      (if r6 = 0 then
        some (J (-13))
      else
        some (J 0))
    else
      some (J (-13)))).bind fun (j4 : Int32) =>
    some j4
  else
    some r2)
set_option maxRecDepth 100000 in
set_option maxHeartbeats 4000000 in
theorem s_X8_cutterRefusal {n : Nat} {h : Hp} {a0 : Nat}  {r : Int32} (hf : f_X8_cutterRefusal  h a0 = some r) : Ev 5 yX8_cutterRefusal cX8_cutterRefusal 2 (some .int) [.ref a0] n h (some (.int r)) n h := by
  refine Ev_of RX8 rfl (by decide) (Nat.le_of_ble_eq_true rfl) (Nat.le_refl _) (Or.inl rfl) (fun Z hZ hF hN hI => ?_)
  have H : Ok (f_X8_cutterRefusal  h a0) (fun y => y = r) := ⟨_, hf, rfl⟩
  unfold f_X8_cutterRefusal at H
  refine r_ls (ls' := [(0, .ref a0)]) rfl ?_
  refine r_aload_n hZ dX8_cutterRefusal_0 rfl ?_
  obtain ⟨u1, eu1, H⟩ := ok_bind H
  obtain ⟨r2, er2, H⟩ := ok_bind H
  refine r_callV (As := []) (rest := []) (st1 := [.int r2]) (N2 := 0) hZ dX8_cutterRefusal_1 cw_X8_57_X8 rfl eu1 (s_X8_bytesRefusal er2) rfl rfl (by decide) (Nat.le_of_ble_eq_true rfl) (Nat.le_refl 0) (Nat.le_refl _) (Or.inl rfl) rfl ?_
  refine r_istore_n hZ dX8_cutterRefusal_4 (by decide) (r_pick [0, 1] (ls' := [(0, .ref a0), (1, .int r2)]) rfl ?_)
  refine r_iload_n hZ dX8_cutterRefusal_5 rfl ?_
  refine r_if_eq (tgt := 11) hZ dX8_cutterRefusal_6 (by decide) (fun c9 => ?_) (fun c9 => ?_)
  · have H := ok_t H c9
    refine r_aload_n hZ dX8_cutterRefusal_11 rfl ?_
    obtain ⟨x3, ex3, H⟩ := ok_bind H
    refine r_getI hZ fl_X8_33_7 dX8_cutterRefusal_12 ex3 ?_
    refine r_bipush (v := (J 16)) hZ dX8_cutterRefusal_15 (by decide) ?_
    refine ok_join (Q := fun j4 : Int32 => R Z 35 [] [.int j4] n h 0) H (fun j4 H => ?_) (fun H => ?_)
    · have H := ok_some H
      subst H
      exact r_iret hZ hF dX8_cutterRefusal_35
    · refine r_icmp_ne (tgt := 33) hZ dX8_cutterRefusal_17 (by decide) (fun c8 => ?_) (fun c8 => ?_)
      · have H := ok_f H c8
        refine r_bipush (v := (J (-13))) hZ dX8_cutterRefusal_33 (by decide) ?_
        have H := ok_some H
        exact r_pick [] (ls' := []) rfl H
      · have H := ok_t H c8
        refine r_aload_n hZ dX8_cutterRefusal_20 rfl ?_
        refine r_bipush (v := (J 31)) hZ dX8_cutterRefusal_21 (by decide) ?_
        obtain ⟨u5, eu5, H⟩ := ok_bind H
        obtain ⟨r6, er6, H⟩ := ok_bind H
        refine r_callV (As := [.int (J 31)]) (rest := []) (st1 := [.int r6]) (N2 := 0) hZ dX8_cutterRefusal_23 cw_X8_61_X8 rfl eu5 (s_X8_areAllWithin er6) rfl rfl (by decide) (Nat.le_of_ble_eq_true rfl) (Nat.le_refl 0) (Nat.le_refl _) (Or.inl rfl) rfl ?_
        refine r_if_eq (tgt := 33) hZ dX8_cutterRefusal_26 (by decide) (fun c7 => ?_) (fun c7 => ?_)
        · have H := ok_t H c7
          refine r_bipush (v := (J (-13))) hZ dX8_cutterRefusal_33 (by decide) ?_
          have H := ok_some H
          exact r_pick [] (ls' := []) rfl H
        · have H := ok_f H c7
          refine r_iconst (v := (J 0)) hZ dX8_cutterRefusal_29 (by decide) ?_
          refine r_goto (tgt := 35) hZ dX8_cutterRefusal_30 (by decide) ?_
          have H := ok_some H
          exact r_pick [] (ls' := []) rfl H
  · have H := ok_f H c9
    refine r_iload_n hZ dX8_cutterRefusal_9 rfl ?_
    have H := ok_some H
    subst H
    exact r_iret hZ hF dX8_cutterRefusal_10
def f_X8_earRefusal  (h : Hp) (a0 : Nat) : Option (Int32) :=
  (isO h a0 7).bind fun u1 =>
  (f_X8_bytesRefusal h a0).bind fun r2 =>
  (if r2 = 0 then
    (gI h a0 7 3).bind fun x3 =>
    ((if (J 60) < x3 then
      some (J (-13))
    else
      (isO h a0 7).bind fun u5 =>
      (f_X8_areAllWithin h a0 (J 1)).bind fun r6 =>
      (if r6 = 0 then
        some (J (-13))
      else
        some (J 0)))).bind fun (j4 : Int32) =>
    some j4
  else
    some r2)
set_option maxRecDepth 100000 in
set_option maxHeartbeats 4000000 in
theorem s_X8_earRefusal {n : Nat} {h : Hp} {a0 : Nat}  {r : Int32} (hf : f_X8_earRefusal  h a0 = some r) : Ev 5 yX8_earRefusal cX8_earRefusal 2 (some .int) [.ref a0] n h (some (.int r)) n h := by
  refine Ev_of RX8 rfl (by decide) (Nat.le_of_ble_eq_true rfl) (Nat.le_refl _) (Or.inl rfl) (fun Z hZ hF hN hI => ?_)
  have H : Ok (f_X8_earRefusal  h a0) (fun y => y = r) := ⟨_, hf, rfl⟩
  unfold f_X8_earRefusal at H
  refine r_ls (ls' := [(0, .ref a0)]) rfl ?_
  refine r_aload_n hZ dX8_earRefusal_0 rfl ?_
  obtain ⟨u1, eu1, H⟩ := ok_bind H
  obtain ⟨r2, er2, H⟩ := ok_bind H
  refine r_callV (As := []) (rest := []) (st1 := [.int r2]) (N2 := 0) hZ dX8_earRefusal_1 cw_X8_57_X8 rfl eu1 (s_X8_bytesRefusal er2) rfl rfl (by decide) (Nat.le_of_ble_eq_true rfl) (Nat.le_refl 0) (Nat.le_refl _) (Or.inl rfl) rfl ?_
  refine r_istore_n hZ dX8_earRefusal_4 (by decide) (r_pick [0, 1] (ls' := [(0, .ref a0), (1, .int r2)]) rfl ?_)
  refine r_iload_n hZ dX8_earRefusal_5 rfl ?_
  refine r_if_eq (tgt := 11) hZ dX8_earRefusal_6 (by decide) (fun c9 => ?_) (fun c9 => ?_)
  · have H := ok_t H c9
    refine r_aload_n hZ dX8_earRefusal_11 rfl ?_
    obtain ⟨x3, ex3, H⟩ := ok_bind H
    refine r_getI hZ fl_X8_33_7 dX8_earRefusal_12 ex3 ?_
    refine r_bipush (v := (J 60)) hZ dX8_earRefusal_15 (by decide) ?_
    refine ok_join (Q := fun j4 : Int32 => R Z 34 [] [.int j4] n h 0) H (fun j4 H => ?_) (fun H => ?_)
    · have H := ok_some H
      subst H
      exact r_iret hZ hF dX8_earRefusal_34
    · refine r_icmp_gt (tgt := 32) hZ dX8_earRefusal_17 (by decide) (fun c8 => ?_) (fun c8 => ?_)
      · have H := ok_t H c8
        refine r_bipush (v := (J (-13))) hZ dX8_earRefusal_32 (by decide) ?_
        have H := ok_some H
        exact r_pick [] (ls' := []) rfl H
      · have H := ok_f H c8
        refine r_aload_n hZ dX8_earRefusal_20 rfl ?_
        refine r_iconst (v := (J 1)) hZ dX8_earRefusal_21 (by decide) ?_
        obtain ⟨u5, eu5, H⟩ := ok_bind H
        obtain ⟨r6, er6, H⟩ := ok_bind H
        refine r_callV (As := [.int (J 1)]) (rest := []) (st1 := [.int r6]) (N2 := 0) hZ dX8_earRefusal_22 cw_X8_61_X8 rfl eu5 (s_X8_areAllWithin er6) rfl rfl (by decide) (Nat.le_of_ble_eq_true rfl) (Nat.le_refl 0) (Nat.le_refl _) (Or.inl rfl) rfl ?_
        refine r_if_eq (tgt := 32) hZ dX8_earRefusal_25 (by decide) (fun c7 => ?_) (fun c7 => ?_)
        · have H := ok_t H c7
          refine r_bipush (v := (J (-13))) hZ dX8_earRefusal_32 (by decide) ?_
          have H := ok_some H
          exact r_pick [] (ls' := []) rfl H
        · have H := ok_f H c7
          refine r_iconst (v := (J 0)) hZ dX8_earRefusal_28 (by decide) ?_
          refine r_goto (tgt := 34) hZ dX8_earRefusal_29 (by decide) ?_
          have H := ok_some H
          exact r_pick [] (ls' := []) rfl H
  · have H := ok_f H c9
    refine r_iload_n hZ dX8_earRefusal_9 rfl ?_
    have H := ok_some H
    subst H
    exact r_iret hZ hF dX8_earRefusal_10
