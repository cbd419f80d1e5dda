def b_J7_fill_53178_5 (p0 : Nat) (p1 : Int32) (p3 : Int32) (s : Int32 × Hp) : Option ((Int32 × Hp) ⊕ ((Hp))) :=
  (if p3 ≤ s.1 then
    some (.inr (s.2))
  else
    (sI s.2 p0 s.1 p1).bind fun h1 =>
    (some (s.1 + (J 1))).bind fun x2 =>
    some (.inl (x2, h1)))
set_option maxRecDepth 100000 in
set_option maxHeartbeats 4000000 in
theorem l_J7_fill_53178_5 {Z : Zc} (hZ : Fx cJ7_fill_53178 RJ7 4 2 0 Z) {n : Nat} {p0 : Nat} {p1 : Int32} {p3 : Int32} {P : ((Hp)) → Prop} (hx0 : ∀ e : Hp, P (e) → R Z 20 [] [] n e 0) : ∀ (m : Nat) (s : Int32 × Hp), Ok (iter (b_J7_fill_53178_5 p0 p1 p3) m s) P → R Z 5 [(0, .ref p0), (1, .int p1), (2, .int s.1), (3, .int p3)] [] n s.2 0 := by
  intro m
  induction m with
  | zero => exact fun s H => ok_iter0 H
  | succ m ih =>
    intro s H
    have H := ok_iter H
    unfold b_J7_fill_53178_5 at H
    refine r_iload_n hZ dJ7_fill_53178_5 rfl ?_
    refine r_iload_n hZ dJ7_fill_53178_6 rfl ?_
    refine r_icmp_ge (tgt := 20) hZ dJ7_fill_53178_7 (by decide) (fun c3 => ?_) (fun c3 => ?_)
    · have H := ok_t H c3
      exact r_pick [] (ls' := []) rfl (hx0 _ (ki_r H))
    · have H := ok_f H c3
      refine r_aload_n hZ dJ7_fill_53178_10 rfl ?_
      refine r_iload_n hZ dJ7_fill_53178_11 rfl ?_
      refine r_iload_n hZ dJ7_fill_53178_12 rfl ?_
      obtain ⟨h1, eh1, H⟩ := ok_bind H
      refine r_sI hZ dJ7_fill_53178_13 eh1 ?_
      obtain ⟨x2, ex2, H⟩ := ok_bind H
      refine r_iincE (w := (J 1)) hZ dJ7_fill_53178_14 (by decide) rfl (by decide) ex2 (r_pick [0, 1, 2, 3] (ls' := [(0, .ref p0), (1, .int p1), (2, .int x2), (3, .int p3)]) rfl ?_)
      refine r_goto (tgt := 5) hZ dJ7_fill_53178_17 (by decide) ?_
      exact r_pick [0, 1, 2, 3] (ls' := [(0, .ref p0), (1, .int p1), (2, .int x2), (3, .int p3)]) rfl (ih _ (ki_l H))
def f_J7_fill_53178  (h : Hp) (a0 : Nat) (a1 : Int32) : Option (Hp) :=
  (some (J 0)).bind fun x1 =>
  (aN h a0).bind fun x2 =>
  (iter (b_J7_fill_53178_5 a0 a1 x2) FU (x1, h)).bind fun e3 =>
  some e3
set_option maxRecDepth 100000 in
set_option maxHeartbeats 4000000 in
theorem s_J7_fill_53178 {n : Nat} {h : Hp} {a0 : Nat} {a1 : Int32}  {r : Hp} (hf : f_J7_fill_53178  h a0 a1 = some r) : Ev 2 yJ7_fill_53178 cJ7_fill_53178 4 none [.ref a0, .int a1] n h none n r := by
  refine Ev_of RJ7 rfl (by decide) (Nat.le_of_ble_eq_true rfl) (Nat.le_refl _) (Or.inl rfl) (fun Z hZ hF hN hI => ?_)
  have H : Ok (f_J7_fill_53178  h a0 a1) (fun y => y = r) := ⟨_, hf, rfl⟩
  unfold f_J7_fill_53178 at H
  refine r_ls (ls' := [(0, .ref a0), (1, .int a1)]) rfl ?_
  refine r_iconst (v := (J 0)) hZ dJ7_fill_53178_0 (by decide) ?_
  obtain ⟨x1, ex1, H⟩ := ok_bind H
  refine r_topi ex1 ?_
  refine r_istore_n hZ dJ7_fill_53178_1 (by decide) (r_pick [0, 1, 2] (ls' := [(0, .ref a0), (1, .int a1), (2, .int x1)]) rfl ?_)
  refine r_aload_n hZ dJ7_fill_53178_2 rfl ?_
  obtain ⟨x2, ex2, H⟩ := ok_bind H
  refine r_aN hZ dJ7_fill_53178_3 ex2 ?_
  refine r_istore_n hZ dJ7_fill_53178_4 (by decide) (r_pick [0, 1, 2, 3] (ls' := [(0, .ref a0), (1, .int a1), (2, .int x1), (3, .int x2)]) rfl ?_)
  have H := ok_bindK H
  refine r_pick [0, 1, 2, 3] (ls' := [(0, .ref a0), (1, .int a1), (2, .int x1), (3, .int x2)]) rfl (l_J7_fill_53178_5 hZ (fun e3 H => ?_) FU _ H)
  · have H := ok_some H
    subst H
    exact r_ret hZ hF dJ7_fill_53178_20
def f_X11_isWithin  (a0 : Int32) (a1 : Int32) (a2 : Int32) : Option (Int32) :=
  ((if a0 < a1 then
    some (J 0)
  else
    (if a2 < a0 then
      some (J 0)
    else
      some (J 1)))).bind fun (j1 : Int32) =>
  (bz j1).bind fun u4 =>
  some j1
set_option maxRecDepth 100000 in
set_option maxHeartbeats 4000000 in
theorem s_X11_isWithin {n : Nat} {h : Hp} {a0 : Int32} {a1 : Int32} {a2 : Int32}  {r : Int32} (hf : f_X11_isWithin  a0 a1 a2 = some r) : Ev 2 yX11_isWithin cX11_isWithin 3 (some .boolean) [.int a0, .int a1, .int a2] n h (some (.int r)) n h := by
  refine Ev_of RX11 rfl (by decide) (Nat.le_of_ble_eq_true rfl) (Nat.le_refl _) (Or.inl rfl) (fun Z hZ hF hN hI => ?_)
  have H : Ok (f_X11_isWithin  a0 a1 a2) (fun y => y = r) := ⟨_, hf, rfl⟩
  unfold f_X11_isWithin at H
  refine r_ls (ls' := [(0, .int a0), (1, .int a1), (2, .int a2)]) rfl ?_
  refine r_iload_n hZ dX11_isWithin_0 rfl ?_
  refine r_iload_n hZ dX11_isWithin_1 rfl ?_
  refine ok_join (Q := fun j1 : Int32 => R Z 15 [] [.int j1] n h 0) H (fun j1 H => ?_) (fun H => ?_)
  · obtain ⟨u4, eu4, H⟩ := ok_bind H
    have H := ok_some H
    subst H
    exact r_zret hZ hF eu4 dX11_isWithin_15
  · refine r_icmp_lt (tgt := 14) hZ dX11_isWithin_2 (by decide) (fun c3 => ?_) (fun c3 => ?_)
    · have H := ok_t H c3
      refine r_iconst (v := (J 0)) hZ dX11_isWithin_14 (by decide) ?_
      have H := ok_some H
      exact r_pick [] (ls' := []) rfl H
    · have H := ok_f H c3
      refine r_iload_n hZ dX11_isWithin_5 rfl ?_
      refine r_iload_n hZ dX11_isWithin_6 rfl ?_
      refine r_icmp_gt (tgt := 14) hZ dX11_isWithin_7 (by decide) (fun c2 => ?_) (fun c2 => ?_)
      · have H := ok_t H c2
        refine r_iconst (v := (J 0)) hZ dX11_isWithin_14 (by decide) ?_
        have H := ok_some H
        exact r_pick [] (ls' := []) rfl H
      · have H := ok_f H c2
        refine r_iconst (v := (J 1)) hZ dX11_isWithin_10 (by decide) ?_
        refine r_goto (tgt := 15) hZ dX11_isWithin_11 (by decide) ?_
        have H := ok_some H
        exact r_pick [] (ls' := []) rfl H
def b_X11_greatestDivisor_9  (s : Int64 × Int64 × Int32) : Option ((Int64 × Int64 × Int32) ⊕ ((Int64))) :=
  (if (J 200) ≤ s.2.2 then
    some (.inr (s.1))
  else
    (if (lg_cmp s.2.1 (K 0)) = 0 then
      some (.inr (s.1))
    else
      (nzL s.2.1).bind fun u1 =>
      (some (s.1 - s.1 / s.2.1 * s.2.1)).bind fun x2 =>
      (some (s.2.2 + (J 1))).bind fun x3 =>
      some (.inl (s.2.1, x2, x3))))
set_option maxRecDepth 100000 in
set_option maxHeartbeats 4000000 in
theorem l_X11_greatestDivisor_9 {Z : Zc} (hZ : Fx cX11_greatestDivisor RX11 11 2 0 Z) {n : Nat} {h : Hp}  {P : ((Int64)) → Prop} (hx0 : ∀ e : Int64, P (e) → R Z 45 [(4, .long e)] [] n h 0) : ∀ (m : Nat) (s : Int64 × Int64 × Int32), Ok (iter (b_X11_greatestDivisor_9 ) m s) P → R Z 9 [(4, .long s.1), (6, .long s.2.1), (8, .int s.2.2)] [] n h 0 := by
  intro m
  induction m with
  | zero => exact fun s H => ok_iter0 H
  | succ m ih =>
    intro s H
    have H := ok_iter H
    unfold b_X11_greatestDivisor_9 at H
    refine r_iload hZ dX11_greatestDivisor_9 rfl ?_
    refine r_sipush (v := (J 200)) hZ dX11_greatestDivisor_11 (by decide) ?_
    refine r_icmp_ge (tgt := 45) hZ dX11_greatestDivisor_14 (by decide) (fun c5 => ?_) (fun c5 => ?_)
    · have H := ok_t H c5
      exact r_pick [4] (ls' := [(4, .long s.1)]) rfl (hx0 _ (ki_r H))
    · have H := ok_f H c5
      refine r_lload hZ dX11_greatestDivisor_17 rfl ?_
      refine r_lconst (v := (K 0)) hZ dX11_greatestDivisor_19 (by decide) ?_
      refine r_lcmp hZ dX11_greatestDivisor_20 ?_
      refine r_if_eq (tgt := 45) hZ dX11_greatestDivisor_21 (by decide) (fun c4 => ?_) (fun c4 => ?_)
      · have H := ok_t H c4
        exact r_pick [4] (ls' := [(4, .long s.1)]) rfl (hx0 _ (ki_r H))
      · have H := ok_f H c4
        refine r_lload hZ dX11_greatestDivisor_24 rfl ?_
        refine r_lload hZ dX11_greatestDivisor_26 rfl ?_
        obtain ⟨u1, eu1, H⟩ := ok_bind H
        refine r_lrem hZ dX11_greatestDivisor_28 (nzL_ne eu1) ?_
        obtain ⟨x2, ex2, H⟩ := ok_bind H
        refine r_topl ex2 ?_
        refine r_lstore hZ dX11_greatestDivisor_29 (by decide) (r_pick [6, 8, 9] (ls' := [(6, .long s.2.1), (8, .int s.2.2), (9, .long x2)]) rfl ?_)
        refine r_lload hZ dX11_greatestDivisor_31 rfl ?_
        refine r_lstore hZ dX11_greatestDivisor_33 (by decide) (r_pick [4, 8, 9] (ls' := [(4, .long s.2.1), (8, .int s.2.2), (9, .long x2)]) rfl ?_)
        refine r_lload hZ dX11_greatestDivisor_35 rfl ?_
        refine r_lstore hZ dX11_greatestDivisor_37 (by decide) (r_pick [4, 6, 8] (ls' := [(4, .long s.2.1), (6, .long x2), (8, .int s.2.2)]) rfl ?_)
        obtain ⟨x3, ex3, H⟩ := ok_bind H
        refine r_iincE (w := (J 1)) hZ dX11_greatestDivisor_39 (by decide) rfl (by decide) ex3 (r_pick [4, 6, 8] (ls' := [(4, .long s.2.1), (6, .long x2), (8, .int x3)]) rfl ?_)
        refine r_goto (tgt := 9) hZ dX11_greatestDivisor_42 (by decide) ?_
        exact r_pick [4, 6, 8] (ls' := [(4, .long s.2.1), (6, .long x2), (8, .int x3)]) rfl (ih _ (ki_l H))
def f_X11_greatestDivisor  (a0 : Int64) (a2 : Int64) : Option (Int64) :=
  (some (J 0)).bind fun x1 =>
  (iter (b_X11_greatestDivisor_9) FU (a0, a2, x1)).bind fun e2 =>
  some e2
set_option maxRecDepth 100000 in
set_option maxHeartbeats 4000000 in
theorem s_X11_greatestDivisor {n : Nat} {h : Hp} {a0 : Int64} {a2 : Int64}  {r : Int64} (hf : f_X11_greatestDivisor  a0 a2 = some r) : Ev 2 yX11_greatestDivisor cX11_greatestDivisor 11 (some .long) [.long a0, .long a2] n h (some (.long r)) n h := by
  refine Ev_of RX11 rfl (by decide) (Nat.le_of_ble_eq_true rfl) (Nat.le_refl _) (Or.inl rfl) (fun Z hZ hF hN hI => ?_)
  have H : Ok (f_X11_greatestDivisor  a0 a2) (fun y => y = r) := ⟨_, hf, rfl⟩
  unfold f_X11_greatestDivisor at H
  refine r_ls (ls' := [(0, .long a0), (2, .long a2)]) rfl ?_
  refine r_lload_n hZ dX11_greatestDivisor_0 rfl ?_
  refine r_lstore hZ dX11_greatestDivisor_1 (by decide) (r_pick [2, 4] (ls' := [(2, .long a2), (4, .long a0)]) rfl ?_)
  refine r_lload_n hZ dX11_greatestDivisor_3 rfl ?_
  refine r_lstore hZ dX11_greatestDivisor_4 (by decide) (r_pick [4, 6] (ls' := [(4, .long a0), (6, .long a2)]) rfl ?_)
  refine r_iconst (v := (J 0)) hZ dX11_greatestDivisor_6 (by decide) ?_
  obtain ⟨x1, ex1, H⟩ := ok_bind H
  refine r_topi ex1 ?_
  refine r_istore hZ dX11_greatestDivisor_7 (by decide) (r_pick [4, 6, 8] (ls' := [(4, .long a0), (6, .long a2), (8, .int x1)]) rfl ?_)
  have H := ok_bindK H
  refine r_pick [4, 6, 8] (ls' := [(4, .long a0), (6, .long a2), (8, .int x1)]) rfl (l_X11_greatestDivisor_9 hZ (fun e2 H => ?_) FU _ H)
  · refine r_lload hZ dX11_greatestDivisor_45 rfl ?_
    have H := ok_some H
    subst H
    exact r_lret hZ hF dX11_greatestDivisor_47
