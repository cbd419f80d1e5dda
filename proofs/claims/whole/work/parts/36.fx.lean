set_option maxRecDepth 100000 in
theorem wx_X0_77 : Cond.classLink RX0 77 xISE ∈ TT := (TT_in 1141 (by decide +kernel) rfl)
set_option maxRecDepth 100000 in
theorem wx_xISE : Cond.initialized xISE ∈ TT := (TT_in 109 (by decide +kernel) rfl)
set_option maxRecDepth 100000 in
theorem wx_X11_393 : Cond.classLink RX11 393 xISE ∈ TT := (TT_in 1136 (by decide +kernel) rfl)
set_option maxRecDepth 100000 in
theorem wx_X11_383 : Cond.classLink RX11 383 xIAE ∈ TT := (TT_in 1221 (by decide +kernel) rfl)
set_option maxRecDepth 100000 in
theorem wx_xIAE : Cond.initialized xIAE ∈ TT := (TT_in 108 (by decide +kernel) rfl)
set_option maxRecDepth 100000 in
theorem cw_X11_422_X0 : CV RX11 422 RX0 yX0_fail cX0_fail 1 none 0 := ⟨(TT_in 1137 (by decide +kernel) rfl), (TT_in 1138 (by decide +kernel) rfl), (TT_in 1139 (by decide +kernel) rfl), (TT_in 91 (by decide +kernel) rfl), (TT_in 1140 (by decide +kernel) rfl), by decide, by decide +kernel, by decide⟩
set_option maxRecDepth 100000 in
theorem cw_L_7_X11 : CV RL 7 RX11 yX11_element cX11_element 3 (some .long) 2 := ⟨(TT_in 1217 (by decide +kernel) rfl), (TT_in 1218 (by decide +kernel) rfl), (TT_in 1219 (by decide +kernel) rfl), (TT_in 89 (by decide +kernel) rfl), (TT_in 1220 (by decide +kernel) rfl), by decide, by decide +kernel, by decide⟩
set_option maxRecDepth 100000 in
theorem wx_L_13 : Cond.classLink RL 13 xIAE ∈ TT := (TT_in 1215 (by decide +kernel) rfl)
set_option maxRecDepth 100000 in
theorem wx_L_15 : Cond.classLink RL 15 xISE ∈ TT := (TT_in 1216 (by decide +kernel) rfl)
set_option maxRecDepth 100000 in
theorem cw_X11_425_X0 : CV RX11 425 RX0 yX0_failureNumber cX0_failureNumber 1 (some .int) 0 := ⟨(TT_in 1208 (by decide +kernel) rfl), (TT_in 1209 (by decide +kernel) rfl), (TT_in 1210 (by decide +kernel) rfl), (TT_in 91 (by decide +kernel) rfl), (TT_in 1211 (by decide +kernel) rfl), by decide, by decide +kernel, by decide⟩
def ofU : Unit ⊕ String → Option Value ⊕ String
  | .inl _ => .inl none
  | .inr E => .inr E
def ofL : Int64 ⊕ String → Option Value ⊕ String
  | .inl v => .inl (some (.long v))
  | .inr E => .inr E
theorem r_ls2 {Z : Zc} {pc n x : Nat} {ls : List (Nat × Value)} {st st' : List Value} {h : Hp} (e : st = st') (k : R Z pc ls st' n h x) : R Z pc ls st n h x := e ▸ k
def f_X0_fail (h : Hp) (a0 : Nat) : Option (Unit ⊕ String) :=
  (isO h a0 0).bind fun u1 =>
  (f_X0_isRing h a0).bind fun r2 =>
  (if r2 = 0 then
    (gI h a0 0 1).bind fun x3 =>
    (if x3 = (J 3) then
      (isO h a0 0).bind fun u4 =>
      (f_X0_thin h a0).bind fun r5 =>
      (if r5 = (J 31) then
        some (.inl ())
      else
        some (.inr xISE))
    else
      some (.inr xISE))
  else
    some (.inl ()))
set_option maxRecDepth 100000 in
set_option maxHeartbeats 4000000 in
theorem f_X0_fail_E {h : Hp} {a : Nat} {E : String} (hf : f_X0_fail h a = some (.inr E)) : E = xISE := by
  have H : Ok (f_X0_fail h a) (fun y => y = .inr E) := ⟨_, hf, rfl⟩
  unfold f_X0_fail at H
  obtain ⟨_, _, H⟩ := ok_bind H
  obtain ⟨_, _, H⟩ := ok_bind H
  split at H
  · obtain ⟨_, _, H⟩ := ok_bind H
    split at H
    · obtain ⟨_, _, H⟩ := ok_bind H
      obtain ⟨_, _, H⟩ := ok_bind H
      split at H
      · have q := ok_some H
        cases q
      · have q := ok_some H
        cases q
        rfl
    · have q := ok_some H
      cases q
      rfl
  · have q := ok_some H
    cases q
set_option maxRecDepth 100000 in
set_option maxHeartbeats 4000000 in
theorem s_X0_fail {n : Nat} {h : Hp} {a0 : Nat} {r : Unit ⊕ String} (hf : f_X0_fail h a0 = some r) : EvX 6 yX0_fail cX0_fail 1 none [.ref a0] n h (ofU r) := by
  refine EvX_of RX0 rfl (by decide) (Nat.le_of_ble_eq_true rfl) (fun Z hZ hF hE hT => ?_)
  have H : Ok (f_X0_fail h a0) (fun y => y = r) := ⟨_, hf, rfl⟩
  unfold f_X0_fail at H
  refine r_ls (ls' := [(0, .ref a0)]) rfl ?_
  refine r_aload_n hZ dX0_fail_0 rfl ?_
  obtain ⟨u1, eu1, H⟩ := ok_bind H
  obtain ⟨r2, er2, H⟩ := ok_bind H
  refine r_callV (As := []) (rest := []) (st1 := [.int r2]) (N2 := 0) hZ dX0_fail_1 cw_X0_40_X0 rfl eu1 (s_X0_isRing er2) rfl rfl (by decide) (Nat.le_of_ble_eq_true rfl) (Nat.le_of_ble_eq_true rfl) (Nat.le_refl _) (Or.inl rfl) rfl ?_
  refine r_if_ne (tgt := 34) hZ dX0_fail_4 (by decide) (fun c8 => ?_) (fun c8 => ?_)
  · have H := ok_f H c8
    have H := ok_some H
    subst H
    exact rx_ret hZ hF dX0_fail_34
  · have H := ok_t H c8
    refine r_aload_n hZ dX0_fail_7 rfl ?_
    obtain ⟨x3, ex3, H⟩ := ok_bind H
    refine r_getI hZ fl_X0_22_0 dX0_fail_8 ex3 ?_
    refine r_iconst (v := (J 3)) hZ dX0_fail_11 (by decide) ?_
    refine r_icmp_ne (tgt := 24) hZ dX0_fail_12 (by decide) (fun c7 => ?_) (fun c7 => ?_)
    · have H := ok_f H c7
      have H := ok_some H
      subst H
      exact rx_throwS hZ hE hT hF (by decide) (by decide) wx_X0_77 wx_xISE (fun _ _ q => q.2.2.2.2.1) xg1 xb1 xo1 dX0_fail_24 dX0_fail_27 dX0_fail_28 dX0_fail_30 dX0_fail_33 (by decide) (Nat.le_refl _) (Nat.le_of_ble_eq_true rfl)
    · have H := ok_t H c7
      refine r_aload_n hZ dX0_fail_15 rfl ?_
      obtain ⟨u4, eu4, H⟩ := ok_bind H
      obtain ⟨r5, er5, H⟩ := ok_bind H
      refine r_callV (As := []) (rest := []) (st1 := [.int r5]) (N2 := 0) hZ dX0_fail_16 cw_X0_71_X0 rfl eu4 (s_X0_thin er5) rfl rfl (by decide) (Nat.le_of_ble_eq_true rfl) (Nat.le_of_ble_eq_true rfl) (Nat.le_refl _) (Or.inl rfl) rfl ?_
      refine r_bipush (v := (J 31)) hZ dX0_fail_19 (by decide) ?_
      refine r_icmp_eq (tgt := 34) hZ dX0_fail_21 (by decide) (fun c6 => ?_) (fun c6 => ?_)
      · have H := ok_t H c6
        have H := ok_some H
        subst H
        exact rx_ret hZ hF dX0_fail_34
      · have H := ok_f H c6
        have H := ok_some H
        subst H
        exact rx_throwS hZ hE hT hF (by decide) (by decide) wx_X0_77 wx_xISE (fun _ _ q => q.2.2.2.2.1) xg1 xb1 xo1 dX0_fail_24 dX0_fail_27 dX0_fail_28 dX0_fail_30 dX0_fail_33 (by decide) (Nat.le_refl _) (Nat.le_of_ble_eq_true rfl)
def f_X11_element (h : Hp) (a0 : Nat) (a1 : Int32) (a2 : Int32) : Option (Int64 ⊕ String) :=
  (f_X11_isShelf a1).bind fun r1 =>
  (if r1 = 0 then
    some (.inr xIAE)
  else
    (gR h a0 10 8).bind fun x2 =>
    (aR h x2 4 a1).bind fun x3 =>
    (isO h x3 7).bind fun u4 =>
    (f_X8_holdsRow h x3).bind fun r5 =>
    (if r5 = 0 then
      some (.inr xISE)
    else
      (gR h a0 10 8).bind fun x6 =>
      (aR h x6 4 a1).bind fun x7 =>
      (isO h x7 7).bind fun u8 =>
      (f_X8_hasPlace h x7 a2).bind fun r9 =>
      (if r9 = 0 then
        some (.inr xISE)
      else
        (gR h a0 10 8).bind fun x10 =>
        (aR h x10 4 a1).bind fun x11 =>
        (gR h x11 7 4).bind fun x12 =>
        (aI h x12 a2).bind fun x13 =>
        some (.inl (x13.toInt64)))))
set_option maxRecDepth 100000 in
set_option maxHeartbeats 4000000 in
theorem s_X11_element {n : Nat} {h : Hp} {a0 : Nat} {a1 : Int32} {a2 : Int32} {r : Int64 ⊕ String} (hf : f_X11_element h a0 a1 a2 = some r) : EvX 6 yX11_element cX11_element 3 (some .long) [.ref a0, .int a1, .int a2] n h (ofL r) := by
  refine EvX_of RX11 rfl (by decide) (Nat.le_of_ble_eq_true rfl) (fun Z hZ hF hE hT => ?_)
  have H : Ok (f_X11_element h a0 a1 a2) (fun y => y = r) := ⟨_, hf, rfl⟩
  unfold f_X11_element at H
  refine r_ls (ls' := [(0, .ref a0), (1, .int a1), (2, .int a2)]) rfl ?_
  refine r_iload_n hZ dX11_element_0 rfl ?_
  obtain ⟨r1, er1, H⟩ := ok_bind H
  refine r_callS (As := [.int a1]) (rest := []) (st1 := [.int r1]) (N2 := 0) hZ dX11_element_1 cw_X11_94 (s_X11_isShelf er1) rfl rfl (by decide) (Nat.le_of_ble_eq_true rfl) (Nat.le_of_ble_eq_true rfl) (Nat.le_refl _) (Or.inl rfl) rfl ?_
  refine r_if_ne (tgt := 18) hZ dX11_element_4 (by decide) (fun c16 => ?_) (fun c16 => ?_)
  · have H := ok_f H c16
    refine r_aload_n hZ dX11_element_18 rfl ?_
    obtain ⟨x2, ex2, H⟩ := ok_bind H
    refine r_getR hZ fl_X11_44_10 dX11_element_19 ex2 ?_
    refine r_iload_n hZ dX11_element_22 rfl ?_
    obtain ⟨x3, ex3, H⟩ := ok_bind H
    refine r_aR hZ dX11_element_23 ex3 (fun _ => rfl) (Or.inl ⟨_, rfl⟩) ?_
    obtain ⟨u4, eu4, H⟩ := ok_bind H
    obtain ⟨r5, er5, H⟩ := ok_bind H
    refine r_callV (As := []) (rest := []) (st1 := [.int r5]) (N2 := 0) hZ dX11_element_24 cw_X11_390_X8 rfl eu4 (s_X8_holdsRow er5) rfl rfl (by decide) (Nat.le_of_ble_eq_true rfl) (Nat.le_of_ble_eq_true rfl) (Nat.le_refl _) (Or.inl rfl) rfl ?_
    refine r_if_eq (tgt := 43) hZ dX11_element_27 (by decide) (fun c15 => ?_) (fun c15 => ?_)
    · have H := ok_t H c15
      have H := ok_some H
      subst H
      exact rx_throwSW hZ hE hT hF (by decide) (by decide) wx_X11_393 wx_xISE (fun _ _ q => q.2.2.2.2.2.2) xg3 xb3 xo3 dX11_element_43 dX11_element_46 dX11_element_47 dX11_element_50 dX11_element_53 (by decide) (Nat.le_refl _) (Nat.le_of_ble_eq_true rfl)
    · have H := ok_f H c15
      refine r_aload_n hZ dX11_element_30 rfl ?_
      obtain ⟨x6, ex6, H⟩ := ok_bind H
      refine r_getR hZ fl_X11_44_10 dX11_element_31 ex6 ?_
      refine r_iload_n hZ dX11_element_34 rfl ?_
      obtain ⟨x7, ex7, H⟩ := ok_bind H
      refine r_aR hZ dX11_element_35 ex7 (fun _ => rfl) (Or.inl ⟨_, rfl⟩) ?_
      refine r_iload_n hZ dX11_element_36 rfl ?_
      obtain ⟨u8, eu8, H⟩ := ok_bind H
      obtain ⟨r9, er9, H⟩ := ok_bind H
      refine r_callV (As := [.int a2]) (rest := []) (st1 := [.int r9]) (N2 := 0) hZ dX11_element_37 cw_X11_377_X8 rfl eu8 (s_X8_hasPlace er9) rfl rfl (by decide) (Nat.le_of_ble_eq_true rfl) (Nat.le_of_ble_eq_true rfl) (Nat.le_refl _) (Or.inl rfl) rfl ?_
      refine r_if_ne (tgt := 54) hZ dX11_element_40 (by decide) (fun c14 => ?_) (fun c14 => ?_)
      · have H := ok_f H c14
        refine r_aload_n hZ dX11_element_54 rfl ?_
        obtain ⟨x10, ex10, H⟩ := ok_bind H
        refine r_getR hZ fl_X11_44_10 dX11_element_55 ex10 ?_
        refine r_iload_n hZ dX11_element_58 rfl ?_
        obtain ⟨x11, ex11, H⟩ := ok_bind H
        refine r_aR hZ dX11_element_59 ex11 (fun _ => rfl) (Or.inl ⟨_, rfl⟩) ?_
        obtain ⟨x12, ex12, H⟩ := ok_bind H
        refine r_getR hZ fl_X11_102_7 dX11_element_60 ex12 ?_
        refine r_iload_n hZ dX11_element_63 rfl ?_
        obtain ⟨x13, ex13, H⟩ := ok_bind H
        refine r_aI hZ dX11_element_64 ex13 ?_
        refine r_i2l hZ dX11_element_65 ?_
        have H := ok_some H
        subst H
        exact rx_lret hZ hF dX11_element_66
      · have H := ok_t H c14
        have H := ok_some H
        subst H
        exact rx_throwSW hZ hE hT hF (by decide) (by decide) wx_X11_393 wx_xISE (fun _ _ q => q.2.2.2.2.2.2) xg3 xb3 xo3 dX11_element_43 dX11_element_46 dX11_element_47 dX11_element_50 dX11_element_53 (by decide) (Nat.le_refl _) (Nat.le_of_ble_eq_true rfl)
  · have H := ok_t H c16
    have H := ok_some H
    subst H
    exact rx_throwSW hZ hE hT hF (by decide) (by decide) wx_X11_383 wx_xIAE (fun _ _ q => q.2.2.2.2.2.1) xg2 xb2 xo2 dX11_element_7 dX11_element_10 dX11_element_11 dX11_element_14 dX11_element_17 (by decide) (Nat.le_refl _) (Nat.le_of_ble_eq_true rfl)
def f_X11_toss (h : Hp) (a0 : Nat) (a1 : Int32) : Option (Int32) :=
  (f_X11_isShelf a1).bind fun r1 =>
  (if r1 = 0 then
    some (J (-1))
  else
    (gR h a0 10 8).bind fun x2 =>
    (aR h x2 4 a1).bind fun x3 =>
    (isO h x3 7).bind fun u4 =>
    (f_X8_gearRefusal h x3).bind fun r5 =>
    (if r5 = 0 then
      (gR h a0 10 8).bind fun x6 =>
      (aR h x6 4 a1).bind fun x7 =>
      (gR h x7 7 1).bind fun x8 =>
      (isO h x8 0).bind fun u9 =>
      (f_X0_fail h x8).bind fun r10 =>
      (match r10 with
      | .inl _ =>
        some (J (-15))
      | .inr _ =>
        (gR h a0 10 8).bind fun x12 =>
        (aR h x12 4 a1).bind fun x13 =>
        (gR h x13 7 1).bind fun x14 =>
        (isO h x14 0).bind fun u15 =>
        (f_X0_failureNumber h x14).bind fun r16 =>
        some r16)
    else
      some r5))
set_option maxRecDepth 100000 in
set_option maxHeartbeats 4000000 in
theorem s_X11_toss {n : Nat} {h : Hp} {a0 : Nat} {a1 : Int32} {r : Int32} (hf : f_X11_toss h a0 a1 = some r) : EvY 8 yX11_toss cX11_toss 4 (some .int) [(25, 37, 40, 393)] [.ref a0, .int a1] n h (some (.int r)) h := by
  refine EvY_of RX11 rfl (by decide) (Nat.le_of_ble_eq_true rfl) (fun Z hZ hF hE hTab => ?_)
  have H : Ok (f_X11_toss h a0 a1) (fun y => y = r) := ⟨_, hf, rfl⟩
  unfold f_X11_toss at H
  refine r_ls (ls' := [(0, .ref a0), (1, .int a1)]) rfl ?_
  refine r_iload_n hZ dX11_toss_0 rfl ?_
  obtain ⟨r1, er1, H⟩ := ok_bind H
  refine r_callS (As := [.int a1]) (rest := []) (st1 := [.int r1]) (N2 := 0) hZ dX11_toss_1 cw_X11_94 (s_X11_isShelf er1) rfl rfl (by decide) (Nat.le_of_ble_eq_true rfl) (Nat.le_of_ble_eq_true rfl) (Nat.le_refl _) (Or.inl rfl) rfl ?_
  refine r_if_ne (tgt := 9) hZ dX11_toss_4 (by decide) (fun c18 => ?_) (fun c18 => ?_)
  · have H := ok_f H c18
    refine r_aload_n hZ dX11_toss_9 rfl ?_
    obtain ⟨x2, ex2, H⟩ := ok_bind H
    refine r_getR hZ fl_X11_44_10 dX11_toss_10 ex2 ?_
    refine r_iload_n hZ dX11_toss_13 rfl ?_
    obtain ⟨x3, ex3, H⟩ := ok_bind H
    refine r_aR hZ dX11_toss_14 ex3 (fun _ => rfl) (Or.inl ⟨_, rfl⟩) ?_
    obtain ⟨u4, eu4, H⟩ := ok_bind H
    obtain ⟨r5, er5, H⟩ := ok_bind H
    refine r_callV (As := []) (rest := []) (st1 := [.int r5]) (N2 := 0) hZ dX11_toss_15 cw_X11_413_X8 rfl eu4 (s_X8_gearRefusal er5) rfl rfl (by decide) (Nat.le_of_ble_eq_true rfl) (Nat.le_of_ble_eq_true rfl) (Nat.le_refl _) (Or.inl rfl) rfl ?_
    refine r_istore_n hZ dX11_toss_18 (by decide) (r_pick [0, 1, 2] (ls' := [(0, .ref a0), (1, .int a1), (2, .int r5)]) rfl ?_)
    refine r_iload_n hZ dX11_toss_19 rfl ?_
    refine r_if_eq (tgt := 25) hZ dX11_toss_20 (by decide) (fun c17 => ?_) (fun c17 => ?_)
    · have H := ok_t H c17
      refine r_aload_n hZ dX11_toss_25 rfl ?_
      obtain ⟨x6, ex6, H⟩ := ok_bind H
      refine r_getR hZ fl_X11_44_10 dX11_toss_26 ex6 ?_
      refine r_iload_n hZ dX11_toss_29 rfl ?_
      obtain ⟨x7, ex7, H⟩ := ok_bind H
      refine r_aR hZ dX11_toss_30 ex7 (fun _ => rfl) (Or.inl ⟨_, rfl⟩) ?_
      obtain ⟨x8, ex8, H⟩ := ok_bind H
      refine r_getR hZ fl_X11_416_7 dX11_toss_31 ex8 ?_
      obtain ⟨u9, eu9, H⟩ := ok_bind H
      obtain ⟨r10, er10, H⟩ := ok_bind H
      refine r_callXV (As := []) (rest := []) hZ hE dX11_toss_34 cw_X11_422_X0 rfl eu9 (s_X0_fail er10) rfl rfl (by decide) (Nat.le_of_ble_eq_true rfl) (Nat.le_refl _) (fun r9 q9 => ?_) (fun E9 q9 => ?_)
      · cases r10 with
        | inr E => cases q9
        | inl w =>
          cases q9
          dsimp only at H
          refine r_ls2 (st' := []) rfl ?_
          refine r_goto (tgt := 54) hZ dX11_toss_37 (by decide) ?_
          refine r_bipush (v := (J (-15))) hZ dX11_toss_54 (by decide) ?_
          have H := ok_some H
          subst H
          exact ry_iret hZ hF (by decide) dX11_toss_56
      · cases r10 with
        | inl w => cases q9
        | inr E =>
          cases q9
          dsimp only at H
          obtain rfl := f_X0_fail_E er10
          refine catch_n (own := RX11) (ls' := [(0, .ref a0), (1, .int a1)]) hZ hE [] ⟨25, 37, 40, 393⟩ [] hTab (j := 3) (i := 3) (k := 1) (fun z hz => nomatch hz) (by decide) (by decide) wx_X11_393 (by decide) (Or.inl ⟨dX11_toss_40, rfl, rfl⟩) (by decide) (fun q hq => ?_) ?_
          · simp only [List.mem_cons, List.not_mem_nil, or_false] at hq
            rcases hq with rfl | rfl <;> exact ⟨by simp, Nat.le_of_ble_eq_true rfl⟩
          · refine r_aload_n hZ dX11_toss_41 rfl ?_
            obtain ⟨x12, ex12, H⟩ := ok_bind H
            refine r_getR hZ fl_X11_44_10 dX11_toss_42 ex12 ?_
            refine r_iload_n hZ dX11_toss_45 rfl ?_
            obtain ⟨x13, ex13, H⟩ := ok_bind H
            refine r_aR hZ dX11_toss_46 ex13 (fun _ => rfl) (Or.inl ⟨_, rfl⟩) ?_
            obtain ⟨x14, ex14, H⟩ := ok_bind H
            refine r_getR hZ fl_X11_416_7 dX11_toss_47 ex14 ?_
            obtain ⟨u15, eu15, H⟩ := ok_bind H
            obtain ⟨r16, er16, H⟩ := ok_bind H
            refine r_callV (As := []) (rest := []) (st1 := [.int r16]) (N2 := 0) hZ dX11_toss_50 cw_X11_425_X0 rfl eu15 (s_X0_failureNumber er16) rfl rfl (by decide) (Nat.le_of_ble_eq_true rfl) (Nat.le_of_ble_eq_true rfl) (Nat.le_refl _) (Or.inl rfl) rfl ?_
            have H := ok_some H
            subst H
            exact ry_iret hZ hF (by decide) dX11_toss_53
    · have H := ok_f H c17
      refine r_iload_n hZ dX11_toss_23 rfl ?_
      have H := ok_some H
      subst H
      exact ry_iret hZ hF (by decide) dX11_toss_24
  · have H := ok_t H c18
    refine r_iconst (v := (J (-1))) hZ dX11_toss_7 (by decide) ?_
    have H := ok_some H
    subst H
    exact ry_iret hZ hF (by decide) dX11_toss_8
def f_L_element (h : Hp) (a0 : Nat) (a1 : Int32) (a2 : Int32) (a3 : Nat) : Option (Int32 × Hp) :=
  (isO h a0 10).bind fun u1 =>
  (f_X11_element h a0 a1 a2).bind fun r2 =>
  (match r2 with
  | .inl v3 =>
    (sL h a3 (J 0) v3).bind fun h4 =>
    some ((J 0), h4)
  | .inr E =>
    (if E = xIAE then
      some ((J 1), h)
    else
      (if E = xISE then
        some ((J 2), h)
      else
        none)))
set_option maxRecDepth 100000 in
set_option maxHeartbeats 4000000 in
theorem s_L_element {n : Nat} {h : Hp} {a0 : Nat} {a1 : Int32} {a2 : Int32} {a3 : Nat} {r : Int32 × Hp} (hf : f_L_element h a0 a1 a2 a3 = some r) : EvY 8 yL_element cL_element 5 (some .int) [(0, 9, 12, 13), (0, 9, 16, 15)] [.ref a0, .int a1, .int a2, .ref a3] n h (some (.int r.1)) r.2 := by
  refine EvY_of RL rfl (by decide) (Nat.le_of_ble_eq_true rfl) (fun Z hZ hF hE hTab => ?_)
  have H : Ok (f_L_element h a0 a1 a2 a3) (fun y => y = r) := ⟨_, hf, rfl⟩
  unfold f_L_element at H
  refine r_ls (ls' := [(0, .ref a0), (1, .int a1), (2, .int a2), (3, .ref a3)]) rfl ?_
  refine r_aload_n hZ dL_element_0 rfl ?_
  refine r_iconst (v := (J 0)) hZ dL_element_1 (by decide) ?_
  refine r_aload_n hZ dL_element_2 rfl ?_
  refine r_iload_n hZ dL_element_3 rfl ?_
  refine r_iload_n hZ dL_element_4 rfl ?_
  obtain ⟨u1, eu1, H⟩ := ok_bind H
  obtain ⟨r2, er2, H⟩ := ok_bind H
  refine r_callXV (As := [.int a1, .int a2]) (rest := [.int (J 0), .ref a3]) hZ hE dL_element_5 cw_L_7_X11 rfl eu1 (s_X11_element er2) rfl rfl (by decide) (Nat.le_of_ble_eq_true rfl) (Nat.le_refl _) (fun r9 q9 => ?_) (fun E9 q9 => ?_)
  · cases r2 with
    | inr E => cases q9
    | inl v3 =>
      cases q9
      dsimp only at H
      refine r_ls2 (st' := [.long v3, .int (J 0), .ref a3]) rfl ?_
      obtain ⟨h4, eh4, H⟩ := ok_bind H
      refine r_sL hZ dL_element_8 eh4 ?_
      refine r_goto (tgt := 20) hZ dL_element_9 (by decide) ?_
      refine r_iconst (v := (J 0)) hZ dL_element_20 (by decide) ?_
      have H := ok_some H
      subst H
      exact ry_iret hZ hF (by decide) dL_element_21
  · cases r2 with
    | inl w => cases q9
    | inr E =>
      have q9 := Sum.inr.inj q9
      subst q9
      dsimp only at H
      by_cases c1 : E = xIAE
      · subst c1
        have H := ok_t H rfl
        refine catch_n (own := RL) (ls' := []) hZ hE [] ⟨0, 9, 12, 13⟩ [⟨0, 9, 16, 15⟩] hTab (j := 0) (i := 4) (k := 2) (fun z hz => nomatch hz) (by decide) (by decide) wx_L_13 (by decide) (Or.inr ⟨dL_element_12, rfl⟩) (by decide) (fun q hq => nomatch hq) ?_
        refine r_iconst (v := (J 1)) hZ dL_element_14 (by decide) ?_
        have H := ok_some H
        subst H
        exact ry_iret hZ hF (by decide) dL_element_15
      · have H := ok_f H c1
        by_cases c2 : E = xISE
        · subst c2
          have H := ok_t H rfl
          refine catch_n (own := RL) (ls' := []) hZ hE [⟨0, 9, 12, 13⟩] ⟨0, 9, 16, 15⟩ [] hTab (j := 0) (i := 4) (k := 2) (fun z hz => ?_) (by decide) (by decide) wx_L_15 (by decide) (Or.inr ⟨dL_element_16, rfl⟩) (by decide) (fun q hq => nomatch hq) ?_
          · simp only [List.mem_cons, List.not_mem_nil, or_false] at hz
            subst hz
            exact ⟨by decide, wx_L_13, rfl⟩
          · refine r_iconst (v := (J 2)) hZ dL_element_18 (by decide) ?_
            have H := ok_some H
            subst H
            exact ry_iret hZ hF (by decide) dL_element_19
        · exact ok_none (ok_f H c2)
