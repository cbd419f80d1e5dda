def b_X11_init_169 (N2 : Nat) (p0 : Nat) (s : Int32 × Nat × Hp) : Option ((Int32 × Nat × Hp) ⊕ ((Nat × Hp))) :=
  (if (J 8) ≤ s.1 then
    some (.inr ((s.2.1, s.2.2)))
  else
    (gR s.2.2 p0 10 8).bind fun x1 =>
    (cap (s.2.1 + 1) N2).bind fun u2 =>
    (cap ((s.2.1 + 1) + 3) N2).bind fun u4 =>
    (f_X8_init ((s.2.1 + 1) + 3) (s.2.1 + 1) (va_up s.2.2 s.2.1 (some (7, .inl [.int 0, .null, .int 0, .int 0, .null]))) s.2.1).bind fun r3 =>
    (sR r3 x1 4 7 s.1 s.2.1).bind fun h5 =>
    (some (s.1 + (J 1))).bind fun x6 =>
    some (.inl (x6, ((s.2.1 + 1) + 3), h5)))
set_option maxRecDepth 100000 in
set_option maxHeartbeats 4000000 in
theorem l_X11_init_169 {Z : Zc} (hZ : Fx cX11_init RX11 2 4 0 Z) {N2 : Nat} (hN : NX N2 Z) (hI : Ini Z) {p0 : Nat} {P : ((Nat × Hp)) → Prop} (hx0 : ∀ e : Nat × Hp, P (e) → R Z 194 [] [] e.1 e.2 0) : ∀ (m : Nat) (s : Int32 × Nat × Hp), Ok (iter (b_X11_init_169 N2 p0) m s) P → R Z 169 [(0, .ref p0), (1, .int s.1)] [] s.2.1 s.2.2 0 := by
  intro m
  induction m with
  | zero => exact fun s H => ok_iter0 H
  | succ m ih =>
    intro s H
    have H := ok_iter H
    unfold b_X11_init_169 at H
    refine r_iload_n hZ dX11_init_169 rfl ?_
    refine r_bipush (v := (J 8)) hZ dX11_init_170 (by decide) ?_
    refine r_icmp_ge (tgt := 194) hZ dX11_init_172 (by decide) (fun c7 => ?_) (fun c7 => ?_)
    · have H := ok_t H c7
      exact r_pick [] (ls' := []) rfl (hx0 _ (ki_r H))
    · have H := ok_f H c7
      refine r_aload_n hZ dX11_init_175 rfl ?_
      obtain ⟨x1, ex1, H⟩ := ok_bind H
      refine r_getR hZ fl_X11_44_10 dX11_init_176 ex1 ?_
      refine r_iload_n hZ dX11_init_179 rfl ?_
      obtain ⟨u2, eu2, H⟩ := ok_bind H
      refine r_new hZ hN wn_X11_42 dX11_init_180 (cap_le eu2) (Nat.le_refl 0) ?_
      refine r_dup_a hZ dX11_init_183 ?_
      obtain ⟨u4, eu4, H⟩ := ok_bind H
      obtain ⟨r3, er3, H⟩ := ok_bind H
      refine r_callIN (As := []) (rest := [.ref s.2.1, .int s.1, .ref x1]) (N2 := N2) hZ dX11_init_184 cw_X11_93 (s_X8_init ⟨Nat.le_add_right _ _, Nat.le_trans (cap_le eu4) (NX_bb hN)⟩ er3) rfl rfl (by decide) (Nat.le_of_ble_eq_true rfl) (Nat.le_refl 0) (Nat.le_add_right _ _) (Or.inr ⟨hN, cap_le eu4⟩) ?_
      obtain ⟨h5, eh5, H⟩ := ok_bind H
      refine r_sR hZ dX11_init_187 eh5 rfl (fun _ => rfl) ?_
      obtain ⟨x6, ex6, H⟩ := ok_bind H
      refine r_iincE (w := (J 1)) hZ dX11_init_188 (by decide) rfl (by decide) ex6 (r_pick [0, 1] (ls' := [(0, .ref p0), (1, .int x6)]) rfl ?_)
      refine r_goto (tgt := 169) hZ dX11_init_191 (by decide) ?_
      exact r_pick [0, 1] (ls' := [(0, .ref p0), (1, .int x6)]) rfl (ih _ (ki_l H))
def f_X11_init  (N2 n : Nat) (h : Hp) (a0 : Nat) : Option (Hp) :=
  (cap (n + 1) N2).bind fun u1 =>
  (cap ((n + 1) + 28) N2).bind fun u3 =>
  (f_X3_init ((n + 1) + 28) (n + 1) (va_up h n (some (3, .inl [.null, .int 0, .null, .null, .null, .int 0]))) n).bind fun r2 =>
  (pF r2 a0 10 0 (.ref n)).bind fun h4 =>
  (cap (((n + 1) + 28) + 1) N2).bind fun u5 =>
  (cap ((((n + 1) + 28) + 1) + 28) N2).bind fun u7 =>
  (f_X3_init ((((n + 1) + 28) + 1) + 28) (((n + 1) + 28) + 1) (va_up h4 ((n + 1) + 28) (some (3, .inl [.null, .int 0, .null, .null, .null, .int 0]))) ((n + 1) + 28)).bind fun r6 =>
  (pF r6 a0 10 1 (.ref ((n + 1) + 28))).bind fun h8 =>
  (cap (((((n + 1) + 28) + 1) + 28) + 1) N2).bind fun u9 =>
  (cap ((((((n + 1) + 28) + 1) + 28) + 1) + 2) N2).bind fun u11 =>
  (f_X2_init ((((((n + 1) + 28) + 1) + 28) + 1) + 2) (((((n + 1) + 28) + 1) + 28) + 1) (va_up h8 ((((n + 1) + 28) + 1) + 28) (some (2, .inl [.null, .null, .int 0]))) ((((n + 1) + 28) + 1) + 28)).bind fun r10 =>
  (pF r10 a0 10 2 (.ref ((((n + 1) + 28) + 1) + 28))).bind fun h12 =>
  (cap (((((((n + 1) + 28) + 1) + 28) + 1) + 2) + 1) N2).bind fun u13 =>
  (cap ((((((((n + 1) + 28) + 1) + 28) + 1) + 2) + 1) + 14) N2).bind fun u15 =>
  (f_X6_init ((((((((n + 1) + 28) + 1) + 28) + 1) + 2) + 1) + 14) (((((((n + 1) + 28) + 1) + 28) + 1) + 2) + 1) (va_up h12 ((((((n + 1) + 28) + 1) + 28) + 1) + 2) (some (5, .inl [.null, .null, .int 0]))) ((((((n + 1) + 28) + 1) + 28) + 1) + 2)).bind fun r14 =>
  (pF r14 a0 10 3 (.ref ((((((n + 1) + 28) + 1) + 28) + 1) + 2))).bind fun h16 =>
  (cap (((((((((n + 1) + 28) + 1) + 28) + 1) + 2) + 1) + 14) + 1) N2).bind fun u17 =>
  (cap ((((((((((n + 1) + 28) + 1) + 28) + 1) + 2) + 1) + 14) + 1) + 28) N2).bind fun u19 =>
  (f_X3_init ((((((((((n + 1) + 28) + 1) + 28) + 1) + 2) + 1) + 14) + 1) + 28) (((((((((n + 1) + 28) + 1) + 28) + 1) + 2) + 1) + 14) + 1) (va_up h16 ((((((((n + 1) + 28) + 1) + 28) + 1) + 2) + 1) + 14) (some (3, .inl [.null, .int 0, .null, .null, .null, .int 0]))) ((((((((n + 1) + 28) + 1) + 28) + 1) + 2) + 1) + 14)).bind fun r18 =>
  (pF r18 a0 10 4 (.ref ((((((((n + 1) + 28) + 1) + 28) + 1) + 2) + 1) + 14))).bind fun h20 =>
  (cap (((((((((((n + 1) + 28) + 1) + 28) + 1) + 2) + 1) + 14) + 1) + 28) + 1) N2).bind fun u21 =>
  (cap ((((((((((((n + 1) + 28) + 1) + 28) + 1) + 2) + 1) + 14) + 1) + 28) + 1) + 2) N2).bind fun u23 =>
  (f_X2_init ((((((((((((n + 1) + 28) + 1) + 28) + 1) + 2) + 1) + 14) + 1) + 28) + 1) + 2) (((((((((((n + 1) + 28) + 1) + 28) + 1) + 2) + 1) + 14) + 1) + 28) + 1) (va_up h20 ((((((((((n + 1) + 28) + 1) + 28) + 1) + 2) + 1) + 14) + 1) + 28) (some (2, .inl [.null, .null, .int 0]))) ((((((((((n + 1) + 28) + 1) + 28) + 1) + 2) + 1) + 14) + 1) + 28)).bind fun r22 =>
  (pF r22 a0 10 5 (.ref ((((((((((n + 1) + 28) + 1) + 28) + 1) + 2) + 1) + 14) + 1) + 28))).bind fun h24 =>
  (cap (((((((((((((n + 1) + 28) + 1) + 28) + 1) + 2) + 1) + 14) + 1) + 28) + 1) + 2) + 1) N2).bind fun u25 =>
  (cap ((((((((((((((n + 1) + 28) + 1) + 28) + 1) + 2) + 1) + 14) + 1) + 28) + 1) + 2) + 1) + 14) N2).bind fun u27 =>
  (f_X6_init ((((((((((((((n + 1) + 28) + 1) + 28) + 1) + 2) + 1) + 14) + 1) + 28) + 1) + 2) + 1) + 14) (((((((((((((n + 1) + 28) + 1) + 28) + 1) + 2) + 1) + 14) + 1) + 28) + 1) + 2) + 1) (va_up h24 ((((((((((((n + 1) + 28) + 1) + 28) + 1) + 2) + 1) + 14) + 1) + 28) + 1) + 2) (some (5, .inl [.null, .null, .int 0]))) ((((((((((((n + 1) + 28) + 1) + 28) + 1) + 2) + 1) + 14) + 1) + 28) + 1) + 2)).bind fun r26 =>
  (pF r26 a0 10 6 (.ref ((((((((((((n + 1) + 28) + 1) + 28) + 1) + 2) + 1) + 14) + 1) + 28) + 1) + 2))).bind fun h28 =>
  (cap (((((((((((((((n + 1) + 28) + 1) + 28) + 1) + 2) + 1) + 14) + 1) + 28) + 1) + 2) + 1) + 14) + 1) N2).bind fun u29 =>
  (pF (va_up h28 ((((((((((((((n + 1) + 28) + 1) + 28) + 1) + 2) + 1) + 14) + 1) + 28) + 1) + 2) + 1) + 14) (some (4, .inr (8, .inr (.inr (.inr (.inr fun _ => none))))))) a0 10 8 (.ref ((((((((((((((n + 1) + 28) + 1) + 28) + 1) + 2) + 1) + 14) + 1) + 28) + 1) + 2) + 1) + 14))).bind fun h30 =>
  (cap ((((((((((((((((n + 1) + 28) + 1) + 28) + 1) + 2) + 1) + 14) + 1) + 28) + 1) + 2) + 1) + 14) + 1) + 1) N2).bind fun u31 =>
  (cap (((((((((((((((((n + 1) + 28) + 1) + 28) + 1) + 2) + 1) + 14) + 1) + 28) + 1) + 2) + 1) + 14) + 1) + 1) + 2) N2).bind fun u33 =>
  (f_X9_init (((((((((((((((((n + 1) + 28) + 1) + 28) + 1) + 2) + 1) + 14) + 1) + 28) + 1) + 2) + 1) + 14) + 1) + 1) + 2) ((((((((((((((((n + 1) + 28) + 1) + 28) + 1) + 2) + 1) + 14) + 1) + 28) + 1) + 2) + 1) + 14) + 1) + 1) (va_up h30 (((((((((((((((n + 1) + 28) + 1) + 28) + 1) + 2) + 1) + 14) + 1) + 28) + 1) + 2) + 1) + 14) + 1) (some (8, .inl [.null, .int 0, .int 0, .int 0, .int 0, .int 0, .null]))) (((((((((((((((n + 1) + 28) + 1) + 28) + 1) + 2) + 1) + 14) + 1) + 28) + 1) + 2) + 1) + 14) + 1)).bind fun r32 =>
  (pF r32 a0 10 9 (.ref (((((((((((((((n + 1) + 28) + 1) + 28) + 1) + 2) + 1) + 14) + 1) + 28) + 1) + 2) + 1) + 14) + 1))).bind fun h34 =>
  (cap ((((((((((((((((((n + 1) + 28) + 1) + 28) + 1) + 2) + 1) + 14) + 1) + 28) + 1) + 2) + 1) + 14) + 1) + 1) + 2) + 1) N2).bind fun u35 =>
  (cap (((((((((((((((((((n + 1) + 28) + 1) + 28) + 1) + 2) + 1) + 14) + 1) + 28) + 1) + 2) + 1) + 14) + 1) + 1) + 2) + 1) + 2) N2).bind fun u37 =>
  (f_X7_init (((((((((((((((((((n + 1) + 28) + 1) + 28) + 1) + 2) + 1) + 14) + 1) + 28) + 1) + 2) + 1) + 14) + 1) + 1) + 2) + 1) + 2) ((((((((((((((((((n + 1) + 28) + 1) + 28) + 1) + 2) + 1) + 14) + 1) + 28) + 1) + 2) + 1) + 14) + 1) + 1) + 2) + 1) (va_up h34 (((((((((((((((((n + 1) + 28) + 1) + 28) + 1) + 2) + 1) + 14) + 1) + 28) + 1) + 2) + 1) + 14) + 1) + 1) + 2) (some (6, .inl [.null, .int 0, .int 0, .int 0, .null]))) (((((((((((((((((n + 1) + 28) + 1) + 28) + 1) + 2) + 1) + 14) + 1) + 28) + 1) + 2) + 1) + 14) + 1) + 1) + 2)).bind fun r36 =>
  (pF r36 a0 10 10 (.ref (((((((((((((((((n + 1) + 28) + 1) + 28) + 1) + 2) + 1) + 14) + 1) + 28) + 1) + 2) + 1) + 14) + 1) + 1) + 2))).bind fun h38 =>
  (cap ((((((((((((((((((((n + 1) + 28) + 1) + 28) + 1) + 2) + 1) + 14) + 1) + 28) + 1) + 2) + 1) + 14) + 1) + 1) + 2) + 1) + 2) + 1) N2).bind fun u39 =>
  (cap (((((((((((((((((((((n + 1) + 28) + 1) + 28) + 1) + 2) + 1) + 14) + 1) + 28) + 1) + 2) + 1) + 14) + 1) + 1) + 2) + 1) + 2) + 1) + 4) N2).bind fun u41 =>
  (f_X10_init (((((((((((((((((((((n + 1) + 28) + 1) + 28) + 1) + 2) + 1) + 14) + 1) + 28) + 1) + 2) + 1) + 14) + 1) + 1) + 2) + 1) + 2) + 1) + 4) ((((((((((((((((((((n + 1) + 28) + 1) + 28) + 1) + 2) + 1) + 14) + 1) + 28) + 1) + 2) + 1) + 14) + 1) + 1) + 2) + 1) + 2) + 1) (va_up h38 (((((((((((((((((((n + 1) + 28) + 1) + 28) + 1) + 2) + 1) + 14) + 1) + 28) + 1) + 2) + 1) + 14) + 1) + 1) + 2) + 1) + 2) (some (9, .inl [.null, .null, .null, .null, .long 0, .long 0]))) (((((((((((((((((((n + 1) + 28) + 1) + 28) + 1) + 2) + 1) + 14) + 1) + 28) + 1) + 2) + 1) + 14) + 1) + 1) + 2) + 1) + 2)).bind fun r40 =>
  (pF r40 a0 10 11 (.ref (((((((((((((((((((n + 1) + 28) + 1) + 28) + 1) + 2) + 1) + 14) + 1) + 28) + 1) + 2) + 1) + 14) + 1) + 1) + 2) + 1) + 2))).bind fun h42 =>
  (cap ((((((((((((((((((((((n + 1) + 28) + 1) + 28) + 1) + 2) + 1) + 14) + 1) + 28) + 1) + 2) + 1) + 14) + 1) + 1) + 2) + 1) + 2) + 1) + 4) + 1) N2).bind fun u43 =>
  (cap (((((((((((((((((((((((n + 1) + 28) + 1) + 28) + 1) + 2) + 1) + 14) + 1) + 28) + 1) + 2) + 1) + 14) + 1) + 1) + 2) + 1) + 2) + 1) + 4) + 1) + 1) N2).bind fun u45 =>
  (f_X0_init (((((((((((((((((((((((n + 1) + 28) + 1) + 28) + 1) + 2) + 1) + 14) + 1) + 28) + 1) + 2) + 1) + 14) + 1) + 1) + 2) + 1) + 2) + 1) + 4) + 1) + 1) ((((((((((((((((((((((n + 1) + 28) + 1) + 28) + 1) + 2) + 1) + 14) + 1) + 28) + 1) + 2) + 1) + 14) + 1) + 1) + 2) + 1) + 2) + 1) + 4) + 1) (va_up h42 (((((((((((((((((((((n + 1) + 28) + 1) + 28) + 1) + 2) + 1) + 14) + 1) + 28) + 1) + 2) + 1) + 14) + 1) + 1) + 2) + 1) + 2) + 1) + 4) (some (0, .inl [.int 0, .int 0, .int 0, .int 0, .null]))) (((((((((((((((((((((n + 1) + 28) + 1) + 28) + 1) + 2) + 1) + 14) + 1) + 28) + 1) + 2) + 1) + 14) + 1) + 1) + 2) + 1) + 2) + 1) + 4)).bind fun r44 =>
  (pF r44 a0 10 12 (.ref (((((((((((((((((((((n + 1) + 28) + 1) + 28) + 1) + 2) + 1) + 14) + 1) + 28) + 1) + 2) + 1) + 14) + 1) + 1) + 2) + 1) + 2) + 1) + 4))).bind fun h46 =>
  (cap ((((((((((((((((((((((((n + 1) + 28) + 1) + 28) + 1) + 2) + 1) + 14) + 1) + 28) + 1) + 2) + 1) + 14) + 1) + 1) + 2) + 1) + 2) + 1) + 4) + 1) + 1) + 1) N2).bind fun u47 =>
  (cap (((((((((((((((((((((((((n + 1) + 28) + 1) + 28) + 1) + 2) + 1) + 14) + 1) + 28) + 1) + 2) + 1) + 14) + 1) + 1) + 2) + 1) + 2) + 1) + 4) + 1) + 1) + 1) + 1) N2).bind fun u49 =>
  (f_X0_init (((((((((((((((((((((((((n + 1) + 28) + 1) + 28) + 1) + 2) + 1) + 14) + 1) + 28) + 1) + 2) + 1) + 14) + 1) + 1) + 2) + 1) + 2) + 1) + 4) + 1) + 1) + 1) + 1) ((((((((((((((((((((((((n + 1) + 28) + 1) + 28) + 1) + 2) + 1) + 14) + 1) + 28) + 1) + 2) + 1) + 14) + 1) + 1) + 2) + 1) + 2) + 1) + 4) + 1) + 1) + 1) (va_up h46 (((((((((((((((((((((((n + 1) + 28) + 1) + 28) + 1) + 2) + 1) + 14) + 1) + 28) + 1) + 2) + 1) + 14) + 1) + 1) + 2) + 1) + 2) + 1) + 4) + 1) + 1) (some (0, .inl [.int 0, .int 0, .int 0, .int 0, .null]))) (((((((((((((((((((((((n + 1) + 28) + 1) + 28) + 1) + 2) + 1) + 14) + 1) + 28) + 1) + 2) + 1) + 14) + 1) + 1) + 2) + 1) + 2) + 1) + 4) + 1) + 1)).bind fun r48 =>
  (pF r48 a0 10 13 (.ref (((((((((((((((((((((((n + 1) + 28) + 1) + 28) + 1) + 2) + 1) + 14) + 1) + 28) + 1) + 2) + 1) + 14) + 1) + 1) + 2) + 1) + 2) + 1) + 4) + 1) + 1))).bind fun h50 =>
  (cap ((((((((((((((((((((((((((n + 1) + 28) + 1) + 28) + 1) + 2) + 1) + 14) + 1) + 28) + 1) + 2) + 1) + 14) + 1) + 1) + 2) + 1) + 2) + 1) + 4) + 1) + 1) + 1) + 1) + 1) N2).bind fun u51 =>
  (cap (((((((((((((((((((((((((((n + 1) + 28) + 1) + 28) + 1) + 2) + 1) + 14) + 1) + 28) + 1) + 2) + 1) + 14) + 1) + 1) + 2) + 1) + 2) + 1) + 4) + 1) + 1) + 1) + 1) + 1) + 5) N2).bind fun u53 =>
  (f_X5_init (((((((((((((((((((((((((((n + 1) + 28) + 1) + 28) + 1) + 2) + 1) + 14) + 1) + 28) + 1) + 2) + 1) + 14) + 1) + 1) + 2) + 1) + 2) + 1) + 4) + 1) + 1) + 1) + 1) + 1) + 5) ((((((((((((((((((((((((((n + 1) + 28) + 1) + 28) + 1) + 2) + 1) + 14) + 1) + 28) + 1) + 2) + 1) + 14) + 1) + 1) + 2) + 1) + 2) + 1) + 4) + 1) + 1) + 1) + 1) + 1) (va_up h50 (((((((((((((((((((((((((n + 1) + 28) + 1) + 28) + 1) + 2) + 1) + 14) + 1) + 28) + 1) + 2) + 1) + 14) + 1) + 1) + 2) + 1) + 2) + 1) + 4) + 1) + 1) + 1) + 1) (some (4, .inl [.null, .null, .int 0, .null]))) (((((((((((((((((((((((((n + 1) + 28) + 1) + 28) + 1) + 2) + 1) + 14) + 1) + 28) + 1) + 2) + 1) + 14) + 1) + 1) + 2) + 1) + 2) + 1) + 4) + 1) + 1) + 1) + 1)).bind fun r52 =>
  (pF r52 a0 10 14 (.ref (((((((((((((((((((((((((n + 1) + 28) + 1) + 28) + 1) + 2) + 1) + 14) + 1) + 28) + 1) + 2) + 1) + 14) + 1) + 1) + 2) + 1) + 2) + 1) + 4) + 1) + 1) + 1) + 1))).bind fun h54 =>
  (cap ((((((((((((((((((((((((((((n + 1) + 28) + 1) + 28) + 1) + 2) + 1) + 14) + 1) + 28) + 1) + 2) + 1) + 14) + 1) + 1) + 2) + 1) + 2) + 1) + 4) + 1) + 1) + 1) + 1) + 1) + 5) + 1) N2).bind fun u55 =>
  (cap (((((((((((((((((((((((((((((n + 1) + 28) + 1) + 28) + 1) + 2) + 1) + 14) + 1) + 28) + 1) + 2) + 1) + 14) + 1) + 1) + 2) + 1) + 2) + 1) + 4) + 1) + 1) + 1) + 1) + 1) + 5) + 1) + 4) N2).bind fun u57 =>
  (f_X1_init (((((((((((((((((((((((((((((n + 1) + 28) + 1) + 28) + 1) + 2) + 1) + 14) + 1) + 28) + 1) + 2) + 1) + 14) + 1) + 1) + 2) + 1) + 2) + 1) + 4) + 1) + 1) + 1) + 1) + 1) + 5) + 1) + 4) ((((((((((((((((((((((((((((n + 1) + 28) + 1) + 28) + 1) + 2) + 1) + 14) + 1) + 28) + 1) + 2) + 1) + 14) + 1) + 1) + 2) + 1) + 2) + 1) + 4) + 1) + 1) + 1) + 1) + 1) + 5) + 1) (va_up h54 (((((((((((((((((((((((((((n + 1) + 28) + 1) + 28) + 1) + 2) + 1) + 14) + 1) + 28) + 1) + 2) + 1) + 14) + 1) + 1) + 2) + 1) + 2) + 1) + 4) + 1) + 1) + 1) + 1) + 1) + 5) (some (1, .inl [.null, .int 0, .int 0, .long 0, .int 0, .null, .null, .null, .int 0]))) (((((((((((((((((((((((((((n + 1) + 28) + 1) + 28) + 1) + 2) + 1) + 14) + 1) + 28) + 1) + 2) + 1) + 14) + 1) + 1) + 2) + 1) + 2) + 1) + 4) + 1) + 1) + 1) + 1) + 1) + 5)).bind fun r56 =>
  (pF r56 a0 10 15 (.ref (((((((((((((((((((((((((((n + 1) + 28) + 1) + 28) + 1) + 2) + 1) + 14) + 1) + 28) + 1) + 2) + 1) + 14) + 1) + 1) + 2) + 1) + 2) + 1) + 4) + 1) + 1) + 1) + 1) + 1) + 5))).bind fun h58 =>
  (some (J 0)).bind fun x59 =>
  (iter (b_X11_init_169 N2 a0) FU (x59, (((((((((((((((((((((((((((((n + 1) + 28) + 1) + 28) + 1) + 2) + 1) + 14) + 1) + 28) + 1) + 2) + 1) + 14) + 1) + 1) + 2) + 1) + 2) + 1) + 4) + 1) + 1) + 1) + 1) + 1) + 5) + 1) + 4), h58)).bind fun e60 =>
  (eqn e60.1 N2).bind fun u61 =>
  some e60.2
set_option maxRecDepth 100000 in
set_option maxHeartbeats 4000000 in
theorem s_X11_init {n : Nat} {h : Hp} {a0 : Nat}  {r : Hp} {N2 : Nat} (hB : n ≤ N2 ∧ N2 ≤ BB) (hf : f_X11_init  N2 n h a0 = some r) : Ev 4 yX11_init cX11_init 2 none [.ref a0] n h none N2 r := by
  refine Ev_of RX11 rfl (by decide) (Nat.le_of_ble_eq_true rfl) hB.1 (Or.inr hB.2) (fun Z hZ hF hN hI => ?_)
  have hN := hN hB.2
  have hI := hI rfl
  have H : Ok (f_X11_init  N2 n h a0) (fun y => y = r) := ⟨_, hf, rfl⟩
  unfold f_X11_init at H
  refine r_ls (ls' := [(0, .ref a0)]) rfl ?_
  refine r_aload_n hZ dX11_init_0 rfl ?_
  refine r_objinit hZ wi_X11_1 wi_i wi_c dX11_init_1 (by decide) (Nat.le_of_ble_eq_true rfl) ?_
  refine r_aload_n hZ dX11_init_4 rfl ?_
  obtain ⟨u1, eu1, H⟩ := ok_bind H
  refine r_new hZ hN wn_X11_7 dX11_init_5 (cap_le eu1) (Nat.le_refl 0) ?_
  refine r_dup_a hZ dX11_init_8 ?_
  obtain ⟨u3, eu3, H⟩ := ok_bind H
  obtain ⟨r2, er2, H⟩ := ok_bind H
  refine r_callI (As := []) (rest := [.ref n, .ref a0]) (N2 := N2) hZ dX11_init_9 cw_X11_9 (s_X3_init ⟨Nat.le_add_right _ _, Nat.le_trans (cap_le eu3) (NX_bb hN)⟩ er2) rfl rfl (by decide) (Nat.le_of_ble_eq_true rfl) (Nat.le_refl 0) (Nat.le_add_right _ _) (Or.inr ⟨hN, cap_le eu3⟩) ?_
  obtain ⟨h4, eh4, H⟩ := ok_bind H
  refine r_putF hZ hI fl_X11_10_10 dX11_init_12 eh4 rfl rfl rfl ?_
  refine r_aload_n hZ dX11_init_15 rfl ?_
  obtain ⟨u5, eu5, H⟩ := ok_bind H
  refine r_new hZ hN wn_X11_7 dX11_init_16 (cap_le eu5) (Nat.le_refl 0) ?_
  refine r_dup_a hZ dX11_init_19 ?_
  obtain ⟨u7, eu7, H⟩ := ok_bind H
  obtain ⟨r6, er6, H⟩ := ok_bind H
  refine r_callI (As := []) (rest := [.ref ((n + 1) + 28), .ref a0]) (N2 := N2) hZ dX11_init_20 cw_X11_9 (s_X3_init ⟨Nat.le_add_right _ _, Nat.le_trans (cap_le eu7) (NX_bb hN)⟩ er6) rfl rfl (by decide) (Nat.le_of_ble_eq_true rfl) (Nat.le_refl 0) (Nat.le_add_right _ _) (Or.inr ⟨hN, cap_le eu7⟩) ?_
  obtain ⟨h8, eh8, H⟩ := ok_bind H
  refine r_putF hZ hI fl_X11_16_10 dX11_init_23 eh8 rfl rfl rfl ?_
  refine r_aload_n hZ dX11_init_26 rfl ?_
  obtain ⟨u9, eu9, H⟩ := ok_bind H
  refine r_new hZ hN wn_X11_19 dX11_init_27 (cap_le eu9) (Nat.le_refl 0) ?_
  refine r_dup_a hZ dX11_init_30 ?_
  obtain ⟨u11, eu11, H⟩ := ok_bind H
  obtain ⟨r10, er10, H⟩ := ok_bind H
  refine r_callIN (As := []) (rest := [.ref ((((n + 1) + 28) + 1) + 28), .ref a0]) (N2 := N2) hZ dX11_init_31 cw_X11_21 (s_X2_init ⟨Nat.le_add_right _ _, Nat.le_trans (cap_le eu11) (NX_bb hN)⟩ er10) rfl rfl (by decide) (Nat.le_of_ble_eq_true rfl) (Nat.le_refl 0) (Nat.le_add_right _ _) (Or.inr ⟨hN, cap_le eu11⟩) ?_
  obtain ⟨h12, eh12, H⟩ := ok_bind H
  refine r_putF hZ hI fl_X11_22_10 dX11_init_34 eh12 rfl rfl rfl ?_
  refine r_aload_n hZ dX11_init_37 rfl ?_
  obtain ⟨u13, eu13, H⟩ := ok_bind H
  refine r_new hZ hN wn_X11_26 dX11_init_38 (cap_le eu13) (Nat.le_refl 0) ?_
  refine r_dup_a hZ dX11_init_41 ?_
  obtain ⟨u15, eu15, H⟩ := ok_bind H
  obtain ⟨r14, er14, H⟩ := ok_bind H
  refine r_callIN (As := []) (rest := [.ref ((((((n + 1) + 28) + 1) + 28) + 1) + 2), .ref a0]) (N2 := N2) hZ dX11_init_42 cw_X11_28 (s_X6_init ⟨Nat.le_add_right _ _, Nat.le_trans (cap_le eu15) (NX_bb hN)⟩ er14) rfl rfl (by decide) (Nat.le_of_ble_eq_true rfl) (Nat.le_refl 0) (Nat.le_add_right _ _) (Or.inr ⟨hN, cap_le eu15⟩) ?_
  obtain ⟨h16, eh16, H⟩ := ok_bind H
  refine r_putF hZ hI fl_X11_29_10 dX11_init_45 eh16 rfl rfl rfl ?_
  refine r_aload_n hZ dX11_init_48 rfl ?_
  obtain ⟨u17, eu17, H⟩ := ok_bind H
  refine r_new hZ hN wn_X11_7 dX11_init_49 (cap_le eu17) (Nat.le_refl 0) ?_
  refine r_dup_a hZ dX11_init_52 ?_
  obtain ⟨u19, eu19, H⟩ := ok_bind H
  obtain ⟨r18, er18, H⟩ := ok_bind H
  refine r_callI (As := []) (rest := [.ref ((((((((n + 1) + 28) + 1) + 28) + 1) + 2) + 1) + 14), .ref a0]) (N2 := N2) hZ dX11_init_53 cw_X11_9 (s_X3_init ⟨Nat.le_add_right _ _, Nat.le_trans (cap_le eu19) (NX_bb hN)⟩ er18) rfl rfl (by decide) (Nat.le_of_ble_eq_true rfl) (Nat.le_refl 0) (Nat.le_add_right _ _) (Or.inr ⟨hN, cap_le eu19⟩) ?_
  obtain ⟨h20, eh20, H⟩ := ok_bind H
  refine r_putF hZ hI fl_X11_33_10 dX11_init_56 eh20 rfl rfl rfl ?_
  refine r_aload_n hZ dX11_init_59 rfl ?_
  obtain ⟨u21, eu21, H⟩ := ok_bind H
  refine r_new hZ hN wn_X11_19 dX11_init_60 (cap_le eu21) (Nat.le_refl 0) ?_
  refine r_dup_a hZ dX11_init_63 ?_
  obtain ⟨u23, eu23, H⟩ := ok_bind H
  obtain ⟨r22, er22, H⟩ := ok_bind H
  refine r_callIN (As := []) (rest := [.ref ((((((((((n + 1) + 28) + 1) + 28) + 1) + 2) + 1) + 14) + 1) + 28), .ref a0]) (N2 := N2) hZ dX11_init_64 cw_X11_21 (s_X2_init ⟨Nat.le_add_right _ _, Nat.le_trans (cap_le eu23) (NX_bb hN)⟩ er22) rfl rfl (by decide) (Nat.le_of_ble_eq_true rfl) (Nat.le_refl 0) (Nat.le_add_right _ _) (Or.inr ⟨hN, cap_le eu23⟩) ?_
  obtain ⟨h24, eh24, H⟩ := ok_bind H
  refine r_putF hZ hI fl_X11_36_10 dX11_init_67 eh24 rfl rfl rfl ?_
  refine r_aload_n hZ dX11_init_70 rfl ?_
  obtain ⟨u25, eu25, H⟩ := ok_bind H
  refine r_new hZ hN wn_X11_26 dX11_init_71 (cap_le eu25) (Nat.le_refl 0) ?_
  refine r_dup_a hZ dX11_init_74 ?_
  obtain ⟨u27, eu27, H⟩ := ok_bind H
  obtain ⟨r26, er26, H⟩ := ok_bind H
  refine r_callIN (As := []) (rest := [.ref ((((((((((((n + 1) + 28) + 1) + 28) + 1) + 2) + 1) + 14) + 1) + 28) + 1) + 2), .ref a0]) (N2 := N2) hZ dX11_init_75 cw_X11_28 (s_X6_init ⟨Nat.le_add_right _ _, Nat.le_trans (cap_le eu27) (NX_bb hN)⟩ er26) rfl rfl (by decide) (Nat.le_of_ble_eq_true rfl) (Nat.le_refl 0) (Nat.le_add_right _ _) (Or.inr ⟨hN, cap_le eu27⟩) ?_
  obtain ⟨h28, eh28, H⟩ := ok_bind H
  refine r_putF hZ hI fl_X11_39_10 dX11_init_78 eh28 rfl rfl rfl ?_
  refine r_aload_n hZ dX11_init_81 rfl ?_
  refine r_bipush (v := (J 8)) hZ dX11_init_82 (by decide) ?_
  obtain ⟨u29, eu29, H⟩ := ok_bind H
  refine r_newQ (t0 := 4) (len := 8) hZ hN wq_X11_42 (Or.inr rfl) (fun _ => rfl) (by decide) (by decide) (by decide) dX11_init_84 (cap_le eu29) (Nat.le_refl 0) ?_
  obtain ⟨h30, eh30, H⟩ := ok_bind H
  refine r_putF hZ hI fl_X11_44_10 dX11_init_87 eh30 rfl rfl rfl ?_
  refine r_aload_n hZ dX11_init_90 rfl ?_
  obtain ⟨u31, eu31, H⟩ := ok_bind H
  refine r_new hZ hN wn_X11_48 dX11_init_91 (cap_le eu31) (Nat.le_refl 0) ?_
  refine r_dup_a hZ dX11_init_94 ?_
  obtain ⟨u33, eu33, H⟩ := ok_bind H
  obtain ⟨r32, er32, H⟩ := ok_bind H
  refine r_callIN (As := []) (rest := [.ref (((((((((((((((n + 1) + 28) + 1) + 28) + 1) + 2) + 1) + 14) + 1) + 28) + 1) + 2) + 1) + 14) + 1), .ref a0]) (N2 := N2) hZ dX11_init_95 cw_X11_50 (s_X9_init ⟨Nat.le_add_right _ _, Nat.le_trans (cap_le eu33) (NX_bb hN)⟩ er32) rfl rfl (by decide) (Nat.le_of_ble_eq_true rfl) (Nat.le_refl 0) (Nat.le_add_right _ _) (Or.inr ⟨hN, cap_le eu33⟩) ?_
  obtain ⟨h34, eh34, H⟩ := ok_bind H
  refine r_putF hZ hI fl_X11_51_10 dX11_init_98 eh34 rfl rfl rfl ?_
  refine r_aload_n hZ dX11_init_101 rfl ?_
  obtain ⟨u35, eu35, H⟩ := ok_bind H
  refine r_new hZ hN wn_X11_55 dX11_init_102 (cap_le eu35) (Nat.le_refl 0) ?_
  refine r_dup_a hZ dX11_init_105 ?_
  obtain ⟨u37, eu37, H⟩ := ok_bind H
  obtain ⟨r36, er36, H⟩ := ok_bind H
  refine r_callIN (As := []) (rest := [.ref (((((((((((((((((n + 1) + 28) + 1) + 28) + 1) + 2) + 1) + 14) + 1) + 28) + 1) + 2) + 1) + 14) + 1) + 1) + 2), .ref a0]) (N2 := N2) hZ dX11_init_106 cw_X11_57 (s_X7_init ⟨Nat.le_add_right _ _, Nat.le_trans (cap_le eu37) (NX_bb hN)⟩ er36) rfl rfl (by decide) (Nat.le_of_ble_eq_true rfl) (Nat.le_refl 0) (Nat.le_add_right _ _) (Or.inr ⟨hN, cap_le eu37⟩) ?_
  obtain ⟨h38, eh38, H⟩ := ok_bind H
  refine r_putF hZ hI fl_X11_58_10 dX11_init_109 eh38 rfl rfl rfl ?_
  refine r_aload_n hZ dX11_init_112 rfl ?_
  obtain ⟨u39, eu39, H⟩ := ok_bind H
  refine r_new hZ hN wn_X11_62 dX11_init_113 (cap_le eu39) (Nat.le_refl 0) ?_
  refine r_dup_a hZ dX11_init_116 ?_
  obtain ⟨u41, eu41, H⟩ := ok_bind H
  obtain ⟨r40, er40, H⟩ := ok_bind H
  refine r_callIN (As := []) (rest := [.ref (((((((((((((((((((n + 1) + 28) + 1) + 28) + 1) + 2) + 1) + 14) + 1) + 28) + 1) + 2) + 1) + 14) + 1) + 1) + 2) + 1) + 2), .ref a0]) (N2 := N2) hZ dX11_init_117 cw_X11_64 (s_X10_init ⟨Nat.le_add_right _ _, Nat.le_trans (cap_le eu41) (NX_bb hN)⟩ er40) rfl rfl (by decide) (Nat.le_of_ble_eq_true rfl) (Nat.le_refl 0) (Nat.le_add_right _ _) (Or.inr ⟨hN, cap_le eu41⟩) ?_
  obtain ⟨h42, eh42, H⟩ := ok_bind H
  refine r_putF hZ hI fl_X11_65_10 dX11_init_120 eh42 rfl rfl rfl ?_
  refine r_aload_n hZ dX11_init_123 rfl ?_
  obtain ⟨u43, eu43, H⟩ := ok_bind H
  refine r_new hZ hN wn_X11_69 dX11_init_124 (cap_le eu43) (Nat.le_refl 0) ?_
  refine r_dup_a hZ dX11_init_127 ?_
  obtain ⟨u45, eu45, H⟩ := ok_bind H
  obtain ⟨r44, er44, H⟩ := ok_bind H
  refine r_callIN (As := []) (rest := [.ref (((((((((((((((((((((n + 1) + 28) + 1) + 28) + 1) + 2) + 1) + 14) + 1) + 28) + 1) + 2) + 1) + 14) + 1) + 1) + 2) + 1) + 2) + 1) + 4), .ref a0]) (N2 := N2) hZ dX11_init_128 cw_X11_71 (s_X0_init ⟨Nat.le_add_right _ _, Nat.le_trans (cap_le eu45) (NX_bb hN)⟩ er44) rfl rfl (by decide) (Nat.le_of_ble_eq_true rfl) (Nat.le_refl 0) (Nat.le_add_right _ _) (Or.inr ⟨hN, cap_le eu45⟩) ?_
  obtain ⟨h46, eh46, H⟩ := ok_bind H
  refine r_putF hZ hI fl_X11_72_10 dX11_init_131 eh46 rfl rfl rfl ?_
  refine r_aload_n hZ dX11_init_134 rfl ?_
  obtain ⟨u47, eu47, H⟩ := ok_bind H
  refine r_new hZ hN wn_X11_69 dX11_init_135 (cap_le eu47) (Nat.le_refl 0) ?_
  refine r_dup_a hZ dX11_init_138 ?_
  obtain ⟨u49, eu49, H⟩ := ok_bind H
  obtain ⟨r48, er48, H⟩ := ok_bind H
  refine r_callIN (As := []) (rest := [.ref (((((((((((((((((((((((n + 1) + 28) + 1) + 28) + 1) + 2) + 1) + 14) + 1) + 28) + 1) + 2) + 1) + 14) + 1) + 1) + 2) + 1) + 2) + 1) + 4) + 1) + 1), .ref a0]) (N2 := N2) hZ dX11_init_139 cw_X11_71 (s_X0_init ⟨Nat.le_add_right _ _, Nat.le_trans (cap_le eu49) (NX_bb hN)⟩ er48) rfl rfl (by decide) (Nat.le_of_ble_eq_true rfl) (Nat.le_refl 0) (Nat.le_add_right _ _) (Or.inr ⟨hN, cap_le eu49⟩) ?_
  obtain ⟨h50, eh50, H⟩ := ok_bind H
  refine r_putF hZ hI fl_X11_76_10 dX11_init_142 eh50 rfl rfl rfl ?_
  refine r_aload_n hZ dX11_init_145 rfl ?_
  obtain ⟨u51, eu51, H⟩ := ok_bind H
  refine r_new hZ hN wn_X11_79 dX11_init_146 (cap_le eu51) (Nat.le_refl 0) ?_
  refine r_dup_a hZ dX11_init_149 ?_
  obtain ⟨u53, eu53, H⟩ := ok_bind H
  obtain ⟨r52, er52, H⟩ := ok_bind H
  refine r_callIN (As := []) (rest := [.ref (((((((((((((((((((((((((n + 1) + 28) + 1) + 28) + 1) + 2) + 1) + 14) + 1) + 28) + 1) + 2) + 1) + 14) + 1) + 1) + 2) + 1) + 2) + 1) + 4) + 1) + 1) + 1) + 1), .ref a0]) (N2 := N2) hZ dX11_init_150 cw_X11_81 (s_X5_init ⟨Nat.le_add_right _ _, Nat.le_trans (cap_le eu53) (NX_bb hN)⟩ er52) rfl rfl (by decide) (Nat.le_of_ble_eq_true rfl) (Nat.le_refl 0) (Nat.le_add_right _ _) (Or.inr ⟨hN, cap_le eu53⟩) ?_
  obtain ⟨h54, eh54, H⟩ := ok_bind H
  refine r_putF hZ hI fl_X11_82_10 dX11_init_153 eh54 rfl rfl rfl ?_
  refine r_aload_n hZ dX11_init_156 rfl ?_
  obtain ⟨u55, eu55, H⟩ := ok_bind H
  refine r_new hZ hN wn_X11_86 dX11_init_157 (cap_le eu55) (Nat.le_refl 0) ?_
  refine r_dup_a hZ dX11_init_160 ?_
  obtain ⟨u57, eu57, H⟩ := ok_bind H
  obtain ⟨r56, er56, H⟩ := ok_bind H
  refine r_callIN (As := []) (rest := [.ref (((((((((((((((((((((((((((n + 1) + 28) + 1) + 28) + 1) + 2) + 1) + 14) + 1) + 28) + 1) + 2) + 1) + 14) + 1) + 1) + 2) + 1) + 2) + 1) + 4) + 1) + 1) + 1) + 1) + 1) + 5), .ref a0]) (N2 := N2) hZ dX11_init_161 cw_X11_88 (s_X1_init ⟨Nat.le_add_right _ _, Nat.le_trans (cap_le eu57) (NX_bb hN)⟩ er56) rfl rfl (by decide) (Nat.le_of_ble_eq_true rfl) (Nat.le_refl 0) (Nat.le_add_right _ _) (Or.inr ⟨hN, cap_le eu57⟩) ?_
  obtain ⟨h58, eh58, H⟩ := ok_bind H
  refine r_putF hZ hI fl_X11_89_10 dX11_init_164 eh58 rfl rfl rfl ?_
  refine r_iconst (v := (J 0)) hZ dX11_init_167 (by decide) ?_
  obtain ⟨x59, ex59, H⟩ := ok_bind H
  refine r_topi ex59 ?_
  refine r_istore_n hZ dX11_init_168 (by decide) (r_pick [0, 1] (ls' := [(0, .ref a0), (1, .int x59)]) rfl ?_)
  have H := ok_bindK H
  refine r_pick [0, 1] (ls' := [(0, .ref a0), (1, .int x59)]) rfl (l_X11_init_169 hZ hN hI (fun e60 H => ?_) FU _ H)
  · obtain ⟨u61, eu61, H⟩ := ok_bind H
    have H := ok_some H
    subst H
    have eu61 := eqn_eq eu61
    rw [eu61]
    exact r_ret hZ hF dX11_init_194
def f_X11_isShelf  (a0 : Int32) : Option (Int32) :=
  (f_X11_isWithin a0 (J 0) (J 7)).bind fun r1 =>
  (bz r1).bind fun u2 =>
  some r1
set_option maxRecDepth 100000 in
set_option maxHeartbeats 4000000 in
theorem s_X11_isShelf {n : Nat} {h : Hp} {a0 : Int32}  {r : Int32} (hf : f_X11_isShelf  a0 = some r) : Ev 3 yX11_isShelf cX11_isShelf 1 (some .boolean) [.int a0] n h (some (.int r)) n h := by
  refine Ev_of RX11 rfl (by decide) (Nat.le_of_ble_eq_true rfl) (Nat.le_refl _) (Or.inl rfl) (fun Z hZ hF hN hI => ?_)
  have H : Ok (f_X11_isShelf  a0) (fun y => y = r) := ⟨_, hf, rfl⟩
  unfold f_X11_isShelf at H
  refine r_ls (ls' := [(0, .int a0)]) rfl ?_
  refine r_iload_n hZ dX11_isShelf_0 rfl ?_
  refine r_iconst (v := (J 0)) hZ dX11_isShelf_1 (by decide) ?_
  refine r_bipush (v := (J 7)) hZ dX11_isShelf_2 (by decide) ?_
  obtain ⟨r1, er1, H⟩ := ok_bind H
  refine r_callS (As := [.int a0, .int (J 0), .int (J 7)]) (rest := []) (st1 := [.int r1]) (N2 := 0) hZ dX11_isShelf_4 cw_X11_170 (s_X11_isWithin er1) rfl rfl (by decide) (Nat.le_of_ble_eq_true rfl) (Nat.le_refl 0) (Nat.le_refl _) (Or.inl rfl) rfl ?_
  obtain ⟨u2, eu2, H⟩ := ok_bind H
  have H := ok_some H
  subst H
  exact r_zret hZ hF eu2 dX11_isShelf_7
def b_X11_text_95 (p0 : Nat) (p4 : Int32) (s : Int32 × Hp) : Option ((Int32 × Hp) ⊕ ((Hp) ⊕ (Hp))) :=
  (if p4 ≤ s.1 then
    some (.inr (.inl s.2))
  else
    (gR s.2 p0 10 9).bind fun x1 =>
    (isO s.2 x1 8).bind fun u2 =>
    (f_X9_readStatement s.2 x1).bind fun r3 =>
    (gR r3 p0 10 1).bind fun x4 =>
    (gR r3 p0 10 9).bind fun x5 =>
    (isO r3 x4 3).bind fun u6 =>
    (f_X3_does r3 x4 x5).bind fun r7 =>
    (if r7.1 = 0 then
      some (.inr (.inr r7.2))
    else
      (some (s.1 + (J 1))).bind fun x8 =>
      some (.inl (x8, r7.2))))
set_option maxRecDepth 100000 in
set_option maxHeartbeats 4000000 in
theorem l_X11_text_95 {Z : Zc} (hZ : Fx cX11_text RX11 6 7 0 Z) {n : Nat} {p0 : Nat} {p4 : Int32} {P : ((Hp) ⊕ (Hp)) → Prop} (hx0 : ∀ e : Hp, P (.inl e) → R Z 141 [(0, .ref p0), (4, .int p4)] [] n e 0) (hx1 : ∀ e : Hp, P (.inr e) → R Z 123 [(0, .ref p0)] [] n e 0) : ∀ (m : Nat) (s : Int32 × Hp), Ok (iter (b_X11_text_95 p0 p4) m s) P → R Z 95 [(0, .ref p0), (4, .int p4), (5, .int s.1)] [] n s.2 0 := by
  intro m
  induction m with
  | zero => exact fun s H => ok_iter0 H
  | succ m ih =>
    intro s H
    have H := ok_iter H
    unfold b_X11_text_95 at H
    refine r_iload hZ dX11_text_95 rfl ?_
    refine r_iload hZ dX11_text_97 rfl ?_
    refine r_icmp_ge (tgt := 141) hZ dX11_text_99 (by decide) (fun c10 => ?_) (fun c10 => ?_)
    · have H := ok_t H c10
      exact r_pick [0, 4] (ls' := [(0, .ref p0), (4, .int p4)]) rfl (hx0 _ (ki_r H))
    · have H := ok_f H c10
      refine r_aload_n hZ dX11_text_102 rfl ?_
      obtain ⟨x1, ex1, H⟩ := ok_bind H
      refine r_getR hZ fl_X11_51_10 dX11_text_103 ex1 ?_
      obtain ⟨u2, eu2, H⟩ := ok_bind H
      obtain ⟨r3, er3, H⟩ := ok_bind H
      refine r_callV (As := []) (rest := []) (st1 := []) (N2 := 0) hZ dX11_text_106 cw_X11_129_X9 rfl eu2 (s_X9_readStatement er3) rfl rfl (by decide) (Nat.le_of_ble_eq_true rfl) (Nat.le_refl 0) (Nat.le_refl _) (Or.inl rfl) rfl ?_
      refine r_aload_n hZ dX11_text_109 rfl ?_
      obtain ⟨x4, ex4, H⟩ := ok_bind H
      refine r_getR hZ fl_X11_16_10 dX11_text_110 ex4 ?_
      refine r_aload_n hZ dX11_text_113 rfl ?_
      obtain ⟨x5, ex5, H⟩ := ok_bind H
      refine r_getR hZ fl_X11_51_10 dX11_text_114 ex5 ?_
      obtain ⟨u6, eu6, H⟩ := ok_bind H
      obtain ⟨r7, er7, H⟩ := ok_bind H
      refine r_callV (As := [.ref x5]) (rest := []) (st1 := [.int r7.1]) (N2 := 0) hZ dX11_text_117 cw_X11_132_X3 rfl eu6 (s_X3_does er7) rfl rfl (by decide) (Nat.le_of_ble_eq_true rfl) (Nat.le_refl 0) (Nat.le_refl _) (Or.inl rfl) rfl ?_
      refine r_if_ne (tgt := 135) hZ dX11_text_120 (by decide) (fun c9 => ?_) (fun c9 => ?_)
      · have H := ok_f H c9
        obtain ⟨x8, ex8, H⟩ := ok_bind H
        refine r_iincE (w := (J 1)) hZ dX11_text_135 (by decide) rfl (by decide) ex8 (r_pick [0, 4, 5] (ls' := [(0, .ref p0), (4, .int p4), (5, .int x8)]) rfl ?_)
        refine r_goto (tgt := 95) hZ dX11_text_138 (by decide) ?_
        exact r_pick [0, 4, 5] (ls' := [(0, .ref p0), (4, .int p4), (5, .int x8)]) rfl (ih _ (ki_l H))
      · have H := ok_t H c9
        exact r_pick [0] (ls' := [(0, .ref p0)]) rfl (hx1 _ (ki_r H))
def f_X11_text  (h : Hp) (a0 : Nat) (a1 : Int32) : Option (Int32 × Hp) :=
  (f_X11_isShelf a1).bind fun r1 =>
  (if r1 = 0 then
    some ((J (-1)), h)
  else
    (gR h a0 10 8).bind fun x2 =>
    (aR h x2 4 a1).bind fun x3 =>
    (isO h x3 7).bind fun u4 =>
    (f_X8_bytesRefusal h x3).bind fun r5 =>
    (if r5 = 0 then
      (gR h a0 10 9).bind fun x6 =>
      (gR h x3 7 4).bind fun x7 =>
      (gI h x3 7 3).bind fun x8 =>
      (isO h x6 8).bind fun u9 =>
      (f_X9_countStatements h x6 x7 x8).bind fun r10 =>
      (gR r10.2 a0 10 9).bind fun x11 =>
      (gI r10.2 x11 8 3).bind fun x12 =>
      (if x12 = 0 then
        (gR r10.2 a0 10 1).bind fun x13 =>
        (gR r10.2 a0 10 0).bind fun x14 =>
        (isO r10.2 x13 3).bind fun u15 =>
        (f_X3_takeFrom r10.2 x13 x14).bind fun r16 =>
        (gR r16 a0 10 9).bind fun x17 =>
        (gR r16 x3 7 4).bind fun x18 =>
        (gI r16 x3 7 3).bind fun x19 =>
        (isO r16 x17 8).bind fun u20 =>
        (f_X4_startOn_8 r16 x17 x18 x19).bind fun r21 =>
        (some (J 0)).bind fun x22 =>
        (iter (b_X11_text_95 a0 r10.1) FU (x22, r21)).bind fun e23 =>
        (match e23 with
        | .inl e24 =>
          (gR e24 a0 10 0).bind fun x25 =>
          (gR e24 a0 10 1).bind fun x26 =>
          (isO e24 x25 3).bind fun u27 =>
          (f_X3_takeFrom e24 x25 x26).bind fun r28 =>
          some (r10.1, r28)
        | .inr e29 =>
          (gR e29 a0 10 9).bind fun x30 =>
          (gI e29 x30 8 5).bind fun x31 =>
          some (((J (-2000)) - x31), e29))
      else
        (gR r10.2 a0 10 9).bind fun x32 =>
        (gI r10.2 x32 8 2).bind fun x33 =>
        some (((J (-1000)) - x33), r10.2))
    else
      some (r5, h)))
set_option maxRecDepth 100000 in
set_option maxHeartbeats 4000000 in
theorem s_X11_text {n : Nat} {h : Hp} {a0 : Nat} {a1 : Int32}  {r : Int32 × Hp} (hf : f_X11_text  h a0 a1 = some r) : Ev 7 yX11_text cX11_text 6 (some .int) [.ref a0, .int a1] n h (some (.int r.1)) n r.2 := by
  refine Ev_of RX11 rfl (by decide) (Nat.le_of_ble_eq_true rfl) (Nat.le_refl _) (Or.inl rfl) (fun Z hZ hF hN hI => ?_)
  have H : Ok (f_X11_text  h a0 a1) (fun y => y = r) := ⟨_, hf, rfl⟩
  unfold f_X11_text at H
  refine r_ls (ls' := [(0, .ref a0), (1, .int a1)]) rfl ?_
  refine r_iload_n hZ dX11_text_0 rfl ?_
  obtain ⟨r1, er1, H⟩ := ok_bind H
  refine r_callS (As := [.int a1]) (rest := []) (st1 := [.int r1]) (N2 := 0) hZ dX11_text_1 cw_X11_94 (s_X11_isShelf er1) rfl rfl (by decide) (Nat.le_of_ble_eq_true rfl) (Nat.le_refl 0) (Nat.le_refl _) (Or.inl rfl) rfl ?_
  refine r_if_ne (tgt := 9) hZ dX11_text_4 (by decide) (fun c36 => ?_) (fun c36 => ?_)
  · have H := ok_f H c36
    refine r_aload_n hZ dX11_text_9 rfl ?_
    obtain ⟨x2, ex2, H⟩ := ok_bind H
    refine r_getR hZ fl_X11_44_10 dX11_text_10 ex2 ?_
    refine r_iload_n hZ dX11_text_13 rfl ?_
    obtain ⟨x3, ex3, H⟩ := ok_bind H
    refine r_aR hZ dX11_text_14 ex3 (fun _ => rfl) (Or.inl ⟨_, rfl⟩) ?_
    refine r_astore_n hZ dX11_text_15 (by decide) (r_pick [0, 2] (ls' := [(0, .ref a0), (2, .ref x3)]) rfl ?_)
    refine r_aload_n hZ dX11_text_16 rfl ?_
    obtain ⟨u4, eu4, H⟩ := ok_bind H
    obtain ⟨r5, er5, H⟩ := ok_bind H
    refine r_callV (As := []) (rest := []) (st1 := [.int r5]) (N2 := 0) hZ dX11_text_17 cw_X11_98_X8 rfl eu4 (s_X8_bytesRefusal er5) rfl rfl (by decide) (Nat.le_of_ble_eq_true rfl) (Nat.le_refl 0) (Nat.le_refl _) (Or.inl rfl) rfl ?_
    refine r_istore_n hZ dX11_text_20 (by decide) (r_pick [0, 2, 3] (ls' := [(0, .ref a0), (2, .ref x3), (3, .int r5)]) rfl ?_)
    refine r_iload_n hZ dX11_text_21 rfl ?_
    refine r_if_eq (tgt := 27) hZ dX11_text_22 (by decide) (fun c35 => ?_) (fun c35 => ?_)
    · have H := ok_t H c35
      refine r_aload_n hZ dX11_text_27 rfl ?_
      obtain ⟨x6, ex6, H⟩ := ok_bind H
      refine r_getR hZ fl_X11_51_10 dX11_text_28 ex6 ?_
      refine r_aload_n hZ dX11_text_31 rfl ?_
      obtain ⟨x7, ex7, H⟩ := ok_bind H
      refine r_getR hZ fl_X11_102_7 dX11_text_32 ex7 ?_
      refine r_aload_n hZ dX11_text_35 rfl ?_
      obtain ⟨x8, ex8, H⟩ := ok_bind H
      refine r_getI hZ fl_X11_106_7 dX11_text_36 ex8 ?_
      obtain ⟨u9, eu9, H⟩ := ok_bind H
      obtain ⟨r10, er10, H⟩ := ok_bind H
      refine r_callV (As := [.ref x7, .int x8]) (rest := []) (st1 := [.int r10.1]) (N2 := 0) hZ dX11_text_39 cw_X11_110_X9 rfl eu9 (s_X9_countStatements er10) rfl rfl (by decide) (Nat.le_of_ble_eq_true rfl) (Nat.le_refl 0) (Nat.le_refl _) (Or.inl rfl) rfl ?_
      refine r_istore hZ dX11_text_42 (by decide) (r_pick [0, 2, 4] (ls' := [(0, .ref a0), (2, .ref x3), (4, .int r10.1)]) rfl ?_)
      refine r_aload_n hZ dX11_text_44 rfl ?_
      obtain ⟨x11, ex11, H⟩ := ok_bind H
      refine r_getR hZ fl_X11_51_10 dX11_text_45 ex11 ?_
      obtain ⟨x12, ex12, H⟩ := ok_bind H
      refine r_getI hZ fl_X11_114_8 dX11_text_48 ex12 ?_
      refine r_if_eq (tgt := 66) hZ dX11_text_51 (by decide) (fun c34 => ?_) (fun c34 => ?_)
      · have H := ok_t H c34
        refine r_aload_n hZ dX11_text_66 rfl ?_
        obtain ⟨x13, ex13, H⟩ := ok_bind H
        refine r_getR hZ fl_X11_16_10 dX11_text_67 ex13 ?_
        refine r_aload_n hZ dX11_text_70 rfl ?_
        obtain ⟨x14, ex14, H⟩ := ok_bind H
        refine r_getR hZ fl_X11_10_10 dX11_text_71 ex14 ?_
        obtain ⟨u15, eu15, H⟩ := ok_bind H
        obtain ⟨r16, er16, H⟩ := ok_bind H
        refine r_callV (As := [.ref x14]) (rest := []) (st1 := []) (N2 := 0) hZ dX11_text_74 cw_X11_121_X3 rfl eu15 (s_X3_takeFrom er16) rfl rfl (by decide) (Nat.le_of_ble_eq_true rfl) (Nat.le_refl 0) (Nat.le_refl _) (Or.inl rfl) rfl ?_
        refine r_aload_n hZ dX11_text_77 rfl ?_
        obtain ⟨x17, ex17, H⟩ := ok_bind H
        refine r_getR hZ fl_X11_51_10 dX11_text_78 ex17 ?_
        refine r_aload_n hZ dX11_text_81 rfl ?_
        obtain ⟨x18, ex18, H⟩ := ok_bind H
        refine r_getR hZ fl_X11_102_7 dX11_text_82 ex18 ?_
        refine r_aload_n hZ dX11_text_85 rfl ?_
        obtain ⟨x19, ex19, H⟩ := ok_bind H
        refine r_getI hZ fl_X11_106_7 dX11_text_86 ex19 ?_
        obtain ⟨u20, eu20, H⟩ := ok_bind H
        obtain ⟨r21, er21, H⟩ := ok_bind H
        refine r_callU (As := [.ref x18, .int x19]) (rest := []) (st1 := []) (N2 := 0) hZ dX11_text_89 cw_X11_125_X9 rfl eu20 (s_X4_startOn_8 er21) rfl rfl (by decide) (Nat.le_of_ble_eq_true rfl) (Nat.le_refl 0) (Nat.le_refl _) (Or.inl rfl) rfl ?_
        refine r_iconst (v := (J 0)) hZ dX11_text_92 (by decide) ?_
        obtain ⟨x22, ex22, H⟩ := ok_bind H
        refine r_topi ex22 ?_
        refine r_istore hZ dX11_text_93 (by decide) (r_pick [0, 4, 5] (ls' := [(0, .ref a0), (4, .int r10.1), (5, .int x22)]) rfl ?_)
        have H := ok_bindK H
        refine r_pick [0, 4, 5] (ls' := [(0, .ref a0), (4, .int r10.1), (5, .int x22)]) rfl (l_X11_text_95 hZ (fun e24 H => ?_) (fun e29 H => ?_) FU _ H)
        · refine r_aload_n hZ dX11_text_141 rfl ?_
          obtain ⟨x25, ex25, H⟩ := ok_bind H
          refine r_getR hZ fl_X11_10_10 dX11_text_142 ex25 ?_
          refine r_aload_n hZ dX11_text_145 rfl ?_
          obtain ⟨x26, ex26, H⟩ := ok_bind H
          refine r_getR hZ fl_X11_16_10 dX11_text_146 ex26 ?_
          obtain ⟨u27, eu27, H⟩ := ok_bind H
          obtain ⟨r28, er28, H⟩ := ok_bind H
          refine r_callV (As := [.ref x26]) (rest := []) (st1 := []) (N2 := 0) hZ dX11_text_149 cw_X11_121_X3 rfl eu27 (s_X3_takeFrom er28) rfl rfl (by decide) (Nat.le_of_ble_eq_true rfl) (Nat.le_refl 0) (Nat.le_refl _) (Or.inl rfl) rfl ?_
          refine r_iload hZ dX11_text_152 rfl ?_
          have H := ok_some H
          subst H
          exact r_iret hZ hF dX11_text_154
        · refine r_sipush (v := (J (-2000))) hZ dX11_text_123 (by decide) ?_
          refine r_aload_n hZ dX11_text_126 rfl ?_
          obtain ⟨x30, ex30, H⟩ := ok_bind H
          refine r_getR hZ fl_X11_51_10 dX11_text_127 ex30 ?_
          obtain ⟨x31, ex31, H⟩ := ok_bind H
          refine r_getI hZ fl_X11_136_8 dX11_text_130 ex31 ?_
          refine r_isub hZ dX11_text_133 ?_
          have H := ok_some H
          subst H
          exact r_iret hZ hF dX11_text_134
      · have H := ok_f H c34
        refine r_sipush (v := (J (-1000))) hZ dX11_text_54 (by decide) ?_
        refine r_aload_n hZ dX11_text_57 rfl ?_
        obtain ⟨x32, ex32, H⟩ := ok_bind H
        refine r_getR hZ fl_X11_51_10 dX11_text_58 ex32 ?_
        obtain ⟨x33, ex33, H⟩ := ok_bind H
        refine r_getI hZ fl_X11_118_8 dX11_text_61 ex33 ?_
        refine r_isub hZ dX11_text_64 ?_
        have H := ok_some H
        subst H
        exact r_iret hZ hF dX11_text_65
    · have H := ok_f H c35
      refine r_iload_n hZ dX11_text_25 rfl ?_
      have H := ok_some H
      subst H
      exact r_iret hZ hF dX11_text_26
  · have H := ok_t H c36
    refine r_iconst (v := (J (-1))) hZ dX11_text_7 (by decide) ?_
    have H := ok_some H
    subst H
    exact r_iret hZ hF dX11_text_8
def f_X11_isGear  (h : Hp) (a0 : Nat) (a1 : Int32) : Option (Int32) :=
  (gR h a0 10 0).bind fun x1 =>
  (gI h x1 3 1).bind fun x2 =>
  (f_X11_isWithin a1 (J 0) (x2 - (J 1))).bind fun r3 =>
  (bz r3).bind fun u4 =>
  some r3
set_option maxRecDepth 100000 in
set_option maxHeartbeats 4000000 in
theorem s_X11_isGear {n : Nat} {h : Hp} {a0 : Nat} {a1 : Int32}  {r : Int32} (hf : f_X11_isGear  h a0 a1 = some r) : Ev 3 yX11_isGear cX11_isGear 2 (some .boolean) [.ref a0, .int a1] n h (some (.int r)) n h := by
  refine Ev_of RX11 rfl (by decide) (Nat.le_of_ble_eq_true rfl) (Nat.le_refl _) (Or.inl rfl) (fun Z hZ hF hN hI => ?_)
  have H : Ok (f_X11_isGear  h a0 a1) (fun y => y = r) := ⟨_, hf, rfl⟩
  unfold f_X11_isGear at H
  refine r_ls (ls' := [(0, .ref a0), (1, .int a1)]) rfl ?_
  refine r_iload_n hZ dX11_isGear_0 rfl ?_
  refine r_iconst (v := (J 0)) hZ dX11_isGear_1 (by decide) ?_
  refine r_aload_n hZ dX11_isGear_2 rfl ?_
  obtain ⟨x1, ex1, H⟩ := ok_bind H
  refine r_getR hZ fl_X11_10_10 dX11_isGear_3 ex1 ?_
  obtain ⟨x2, ex2, H⟩ := ok_bind H
  refine r_getI hZ fl_X11_349_3 dX11_isGear_6 ex2 ?_
  refine r_iconst (v := (J 1)) hZ dX11_isGear_9 (by decide) ?_
  refine r_isub hZ dX11_isGear_10 ?_
  obtain ⟨r3, er3, H⟩ := ok_bind H
  refine r_callS (As := [.int a1, .int (J 0), .int (x2 - (J 1))]) (rest := []) (st1 := [.int r3]) (N2 := 0) hZ dX11_isGear_11 cw_X11_170 (s_X11_isWithin er3) rfl rfl (by decide) (Nat.le_of_ble_eq_true rfl) (Nat.le_refl 0) (Nat.le_refl _) (Or.inl rfl) rfl ?_
  obtain ⟨u4, eu4, H⟩ := ok_bind H
  have H := ok_some H
  subst H
  exact r_zret hZ hF eu4 dX11_isGear_14
def f_X11_gear  (h : Hp) (a0 : Nat) (a1 : Int32) (a2 : Int32) : Option (Int32) :=
  (isO h a0 10).bind fun u1 =>
  (f_X11_isGear h a0 a1).bind fun r2 =>
  (if r2 = 0 then
    some (J (-1))
  else
    (gR h a0 10 0).bind fun x3 =>
    (gR h x3 3 0).bind fun x4 =>
    (aR h x4 3 a1).bind fun x5 =>
    (if a2 = (J 0) then
      (gI h x5 0 1).bind fun x6 =>
      some x6
    else
      (if a2 = (J 1) then
        (gI h x5 0 2).bind fun x8 =>
        some x8
      else
        (if a2 = (J 2) then
          (gI h x5 0 3).bind fun x10 =>
          some x10
        else
          (if a2 = (J 3) then
            (isO h x5 0).bind fun u12 =>
            (f_X0_hard h x5).bind fun r13 =>
            some r13
          else
            (if a2 = (J 4) then
              (isO h x5 0).bind fun u15 =>
              (f_X0_stiff h x5).bind fun r16 =>
              some r16
            else
              (if a2 = (J 5) then
                (isO h x5 0).bind fun u18 =>
                (f_X0_thin h x5).bind fun r19 =>
                some r19
              else
                (if a2 = (J 6) then
                  (isO h x5 0).bind fun u21 =>
                  (f_X0_top h x5).bind fun r22 =>
                  some r22
                else
                  (if a2 = (J 7) then
                    (isO h x5 0).bind fun u24 =>
                    (f_X0_undercut h x5).bind fun r25 =>
                    some r25
                  else
                    some (J (-1)))))))))))
set_option maxRecDepth 100000 in
set_option maxHeartbeats 4000000 in
theorem s_X11_gear {n : Nat} {h : Hp} {a0 : Nat} {a1 : Int32} {a2 : Int32}  {r : Int32} (hf : f_X11_gear  h a0 a1 a2 = some r) : Ev 4 yX11_gear cX11_gear 4 (some .int) [.ref a0, .int a1, .int a2] n h (some (.int r)) n h := by
  refine Ev_of RX11 rfl (by decide) (Nat.le_of_ble_eq_true rfl) (Nat.le_refl _) (Or.inl rfl) (fun Z hZ hF hN hI => ?_)
  have H : Ok (f_X11_gear  h a0 a1 a2) (fun y => y = r) := ⟨_, hf, rfl⟩
  unfold f_X11_gear at H
  refine r_ls (ls' := [(0, .ref a0), (1, .int a1), (2, .int a2)]) rfl ?_
  refine r_aload_n hZ dX11_gear_0 rfl ?_
  refine r_iload_n hZ dX11_gear_1 rfl ?_
  obtain ⟨u1, eu1, H⟩ := ok_bind H
  obtain ⟨r2, er2, H⟩ := ok_bind H
  refine r_callV (As := [.int a1]) (rest := []) (st1 := [.int r2]) (N2 := 0) hZ dX11_gear_2 cw_X11_139_X11 rfl eu1 (s_X11_isGear er2) rfl rfl (by decide) (Nat.le_of_ble_eq_true rfl) (Nat.le_refl 0) (Nat.le_refl _) (Or.inl rfl) rfl ?_
  refine r_if_ne (tgt := 10) hZ dX11_gear_5 (by decide) (fun c27 => ?_) (fun c27 => ?_)
  · have H := ok_f H c27
    refine r_aload_n hZ dX11_gear_10 rfl ?_
    obtain ⟨x3, ex3, H⟩ := ok_bind H
    refine r_getR hZ fl_X11_10_10 dX11_gear_11 ex3 ?_
    obtain ⟨x4, ex4, H⟩ := ok_bind H
    refine r_getR hZ fl_X11_142_3 dX11_gear_14 ex4 ?_
    refine r_iload_n hZ dX11_gear_17 rfl ?_
    obtain ⟨x5, ex5, H⟩ := ok_bind H
    refine r_aR hZ dX11_gear_18 ex5 (fun _ => rfl) (Or.inl ⟨_, rfl⟩) ?_
    refine r_astore_n hZ dX11_gear_19 (by decide) (r_pick [2, 3] (ls' := [(2, .int a2), (3, .ref x5)]) rfl ?_)
    refine r_iload_n hZ dX11_gear_20 rfl ?_
    by_cases c7 : a2 = (J 0)
    · have hs : R Z 68 [(2, .int a2), (3, .ref x5)] [] n h 0 → R Z 21 [(2, .int a2), (3, .ref x5)] [.int a2] n h 0 := by
        exact fun k => r_tableIn hZ dX11_gear_21 (by rw [c7]; decide) (by rw [c7]; decide) (off := 47) (by rw [c7]; rfl) (by decide) k
      refine hs ?_
      clear hs
      have H := ok_t H c7
      refine r_aload_n hZ dX11_gear_68 rfl ?_
      obtain ⟨x6, ex6, H⟩ := ok_bind H
      refine r_getI hZ fl_X11_146_0 dX11_gear_69 ex6 ?_
      have H := ok_some H
      subst H
      exact r_iret hZ hF dX11_gear_72
    · have H := ok_f H c7
      by_cases c9 : a2 = (J 1)
      · have hs : R Z 73 [(2, .int a2), (3, .ref x5)] [] n h 0 → R Z 21 [(2, .int a2), (3, .ref x5)] [.int a2] n h 0 := by
          exact fun k => r_tableIn hZ dX11_gear_21 (by rw [c9]; decide) (by rw [c9]; decide) (off := 52) (by rw [c9]; rfl) (by decide) k
        refine hs ?_
        clear hs
        have H := ok_t H c9
        refine r_aload_n hZ dX11_gear_73 rfl ?_
        obtain ⟨x8, ex8, H⟩ := ok_bind H
        refine r_getI hZ fl_X11_149_0 dX11_gear_74 ex8 ?_
        have H := ok_some H
        subst H
        exact r_iret hZ hF dX11_gear_77
      · have H := ok_f H c9
        by_cases c11 : a2 = (J 2)
        · have hs : R Z 78 [(2, .int a2), (3, .ref x5)] [] n h 0 → R Z 21 [(2, .int a2), (3, .ref x5)] [.int a2] n h 0 := by
            exact fun k => r_tableIn hZ dX11_gear_21 (by rw [c11]; decide) (by rw [c11]; decide) (off := 57) (by rw [c11]; rfl) (by decide) k
          refine hs ?_
          clear hs
          have H := ok_t H c11
          refine r_aload_n hZ dX11_gear_78 rfl ?_
          obtain ⟨x10, ex10, H⟩ := ok_bind H
          refine r_getI hZ fl_X11_152_0 dX11_gear_79 ex10 ?_
          have H := ok_some H
          subst H
          exact r_iret hZ hF dX11_gear_82
        · have H := ok_f H c11
          by_cases c14 : a2 = (J 3)
          · have hs : R Z 83 [(2, .int a2), (3, .ref x5)] [] n h 0 → R Z 21 [(2, .int a2), (3, .ref x5)] [.int a2] n h 0 := by
              exact fun k => r_tableIn hZ dX11_gear_21 (by rw [c14]; decide) (by rw [c14]; decide) (off := 62) (by rw [c14]; rfl) (by decide) k
            refine hs ?_
            clear hs
            have H := ok_t H c14
            refine r_aload_n hZ dX11_gear_83 rfl ?_
            obtain ⟨u12, eu12, H⟩ := ok_bind H
            obtain ⟨r13, er13, H⟩ := ok_bind H
            refine r_callV (As := []) (rest := []) (st1 := [.int r13]) (N2 := 0) hZ dX11_gear_84 cw_X11_155_X0 rfl eu12 (s_X0_hard er13) rfl rfl (by decide) (Nat.le_of_ble_eq_true rfl) (Nat.le_refl 0) (Nat.le_refl _) (Or.inl rfl) rfl ?_
            have H := ok_some H
            subst H
            exact r_iret hZ hF dX11_gear_87
          · have H := ok_f H c14
            by_cases c17 : a2 = (J 4)
            · have hs : R Z 88 [(2, .int a2), (3, .ref x5)] [] n h 0 → R Z 21 [(2, .int a2), (3, .ref x5)] [.int a2] n h 0 := by
                exact fun k => r_tableIn hZ dX11_gear_21 (by rw [c17]; decide) (by rw [c17]; decide) (off := 67) (by rw [c17]; rfl) (by decide) k
              refine hs ?_
              clear hs
              have H := ok_t H c17
              refine r_aload_n hZ dX11_gear_88 rfl ?_
              obtain ⟨u15, eu15, H⟩ := ok_bind H
              obtain ⟨r16, er16, H⟩ := ok_bind H
              refine r_callV (As := []) (rest := []) (st1 := [.int r16]) (N2 := 0) hZ dX11_gear_89 cw_X11_158_X0 rfl eu15 (s_X0_stiff er16) rfl rfl (by decide) (Nat.le_of_ble_eq_true rfl) (Nat.le_refl 0) (Nat.le_refl _) (Or.inl rfl) rfl ?_
              have H := ok_some H
              subst H
              exact r_iret hZ hF dX11_gear_92
            · have H := ok_f H c17
              by_cases c20 : a2 = (J 5)
              · have hs : R Z 93 [(2, .int a2), (3, .ref x5)] [] n h 0 → R Z 21 [(2, .int a2), (3, .ref x5)] [.int a2] n h 0 := by
                  exact fun k => r_tableIn hZ dX11_gear_21 (by rw [c20]; decide) (by rw [c20]; decide) (off := 72) (by rw [c20]; rfl) (by decide) k
                refine hs ?_
                clear hs
                have H := ok_t H c20
                refine r_aload_n hZ dX11_gear_93 rfl ?_
                obtain ⟨u18, eu18, H⟩ := ok_bind H
                obtain ⟨r19, er19, H⟩ := ok_bind H
                refine r_callV (As := []) (rest := []) (st1 := [.int r19]) (N2 := 0) hZ dX11_gear_94 cw_X11_161_X0 rfl eu18 (s_X0_thin er19) rfl rfl (by decide) (Nat.le_of_ble_eq_true rfl) (Nat.le_refl 0) (Nat.le_refl _) (Or.inl rfl) rfl ?_
                have H := ok_some H
                subst H
                exact r_iret hZ hF dX11_gear_97
              · have H := ok_f H c20
                by_cases c23 : a2 = (J 6)
                · have hs : R Z 98 [(2, .int a2), (3, .ref x5)] [] n h 0 → R Z 21 [(2, .int a2), (3, .ref x5)] [.int a2] n h 0 := by
                    exact fun k => r_tableIn hZ dX11_gear_21 (by rw [c23]; decide) (by rw [c23]; decide) (off := 77) (by rw [c23]; rfl) (by decide) k
                  refine hs ?_
                  clear hs
                  have H := ok_t H c23
                  refine r_aload_n hZ dX11_gear_98 rfl ?_
                  obtain ⟨u21, eu21, H⟩ := ok_bind H
                  obtain ⟨r22, er22, H⟩ := ok_bind H
                  refine r_callV (As := []) (rest := []) (st1 := [.int r22]) (N2 := 0) hZ dX11_gear_99 cw_X11_164_X0 rfl eu21 (s_X0_top er22) rfl rfl (by decide) (Nat.le_of_ble_eq_true rfl) (Nat.le_refl 0) (Nat.le_refl _) (Or.inl rfl) rfl ?_
                  have H := ok_some H
                  subst H
                  exact r_iret hZ hF dX11_gear_102
                · have H := ok_f H c23
                  by_cases c26 : a2 = (J 7)
                  · have hs : R Z 103 [(2, .int a2), (3, .ref x5)] [] n h 0 → R Z 21 [(2, .int a2), (3, .ref x5)] [.int a2] n h 0 := by
                      exact fun k => r_tableIn hZ dX11_gear_21 (by rw [c26]; decide) (by rw [c26]; decide) (off := 82) (by rw [c26]; rfl) (by decide) k
                    refine hs ?_
                    clear hs
                    have H := ok_t H c26
                    refine r_aload_n hZ dX11_gear_103 rfl ?_
                    obtain ⟨u24, eu24, H⟩ := ok_bind H
                    obtain ⟨r25, er25, H⟩ := ok_bind H
                    refine r_callV (As := []) (rest := []) (st1 := [.int r25]) (N2 := 0) hZ dX11_gear_104 cw_X11_167_X0 rfl eu24 (s_X0_undercut er25) rfl rfl (by decide) (Nat.le_of_ble_eq_true rfl) (Nat.le_refl 0) (Nat.le_refl _) (Or.inl rfl) rfl ?_
                    have H := ok_some H
                    subst H
                    exact r_iret hZ hF dX11_gear_107
                  · have H := ok_f H c26
                    refine r_tableOut (tgt := 108) hZ dX11_gear_21 (by have := sw_n c7; have := sw_n c9; have := sw_n c11; have := sw_n c14; have := sw_n c17; have := sw_n c20; have := sw_n c23; have := sw_n c26; omega) (by decide) ?_
                    refine r_iconst (v := (J (-1))) hZ dX11_gear_108 (by decide) ?_
                    have H := ok_some H
                    subst H
                    exact r_iret hZ hF dX11_gear_109
  · have H := ok_t H c27
    refine r_iconst (v := (J (-1))) hZ dX11_gear_8 (by decide) ?_
    have H := ok_some H
    subst H
    exact r_iret hZ hF dX11_gear_9
def f_X11_width  (h : Hp) (a0 : Nat) (a1 : Int32) (a2 : Int32) : Option (Int32) :=
  (isO h a0 10).bind fun u1 =>
  (f_X11_isGear h a0 a1).bind fun r2 =>
  (if r2 = 0 then
    some (J (-1))
  else
    (f_X11_isWithin a2 (J 0) (J 15)).bind fun r3 =>
    (if r3 = 0 then
      some (J (-1))
    else
      (gR h a0 10 0).bind fun x4 =>
      (gR h x4 3 0).bind fun x5 =>
      (aR h x5 3 a1).bind fun x6 =>
      (gR h x6 0 4).bind fun x7 =>
      (aI h x7 a2).bind fun x8 =>
      some x8))
set_option maxRecDepth 100000 in
set_option maxHeartbeats 4000000 in
theorem s_X11_width {n : Nat} {h : Hp} {a0 : Nat} {a1 : Int32} {a2 : Int32}  {r : Int32} (hf : f_X11_width  h a0 a1 a2 = some r) : Ev 4 yX11_width cX11_width 3 (some .int) [.ref a0, .int a1, .int a2] n h (some (.int r)) n h := by
  refine Ev_of RX11 rfl (by decide) (Nat.le_of_ble_eq_true rfl) (Nat.le_refl _) (Or.inl rfl) (fun Z hZ hF hN hI => ?_)
  have H : Ok (f_X11_width  h a0 a1 a2) (fun y => y = r) := ⟨_, hf, rfl⟩
  unfold f_X11_width at H
  refine r_ls (ls' := [(0, .ref a0), (1, .int a1), (2, .int a2)]) rfl ?_
  refine r_aload_n hZ dX11_width_0 rfl ?_
  refine r_iload_n hZ dX11_width_1 rfl ?_
  obtain ⟨u1, eu1, H⟩ := ok_bind H
  obtain ⟨r2, er2, H⟩ := ok_bind H
  refine r_callV (As := [.int a1]) (rest := []) (st1 := [.int r2]) (N2 := 0) hZ dX11_width_2 cw_X11_139_X11 rfl eu1 (s_X11_isGear er2) rfl rfl (by decide) (Nat.le_of_ble_eq_true rfl) (Nat.le_refl 0) (Nat.le_refl _) (Or.inl rfl) rfl ?_
  refine r_if_eq (tgt := 18) hZ dX11_width_5 (by decide) (fun c10 => ?_) (fun c10 => ?_)
  · have H := ok_t H c10
    refine r_iconst (v := (J (-1))) hZ dX11_width_18 (by decide) ?_
    have H := ok_some H
    subst H
    exact r_iret hZ hF dX11_width_19
  · have H := ok_f H c10
    refine r_iload_n hZ dX11_width_8 rfl ?_
    refine r_iconst (v := (J 0)) hZ dX11_width_9 (by decide) ?_
    refine r_bipush (v := (J 15)) hZ dX11_width_10 (by decide) ?_
    obtain ⟨r3, er3, H⟩ := ok_bind H
    refine r_callS (As := [.int a2, .int (J 0), .int (J 15)]) (rest := []) (st1 := [.int r3]) (N2 := 0) hZ dX11_width_12 cw_X11_170 (s_X11_isWithin er3) rfl rfl (by decide) (Nat.le_of_ble_eq_true rfl) (Nat.le_refl 0) (Nat.le_refl _) (Or.inl rfl) rfl ?_
    refine r_if_ne (tgt := 20) hZ dX11_width_15 (by decide) (fun c9 => ?_) (fun c9 => ?_)
    · have H := ok_f H c9
      refine r_aload_n hZ dX11_width_20 rfl ?_
      obtain ⟨x4, ex4, H⟩ := ok_bind H
      refine r_getR hZ fl_X11_10_10 dX11_width_21 ex4 ?_
      obtain ⟨x5, ex5, H⟩ := ok_bind H
      refine r_getR hZ fl_X11_142_3 dX11_width_24 ex5 ?_
      refine r_iload_n hZ dX11_width_27 rfl ?_
      obtain ⟨x6, ex6, H⟩ := ok_bind H
      refine r_aR hZ dX11_width_28 ex6 (fun _ => rfl) (Or.inl ⟨_, rfl⟩) ?_
      obtain ⟨x7, ex7, H⟩ := ok_bind H
      refine r_getR hZ fl_X11_174_0 dX11_width_29 ex7 ?_
      refine r_iload_n hZ dX11_width_32 rfl ?_
      obtain ⟨x8, ex8, H⟩ := ok_bind H
      refine r_aI hZ dX11_width_33 ex8 ?_
      have H := ok_some H
      subst H
      exact r_iret hZ hF dX11_width_34
    · have H := ok_t H c9
      refine r_iconst (v := (J (-1))) hZ dX11_width_18 (by decide) ?_
      have H := ok_some H
      subst H
      exact r_iret hZ hF dX11_width_19
def f_X11_isMesh  (h : Hp) (a0 : Nat) (a1 : Int32) : Option (Int32) :=
  (gR h a0 10 0).bind fun x1 =>
  (gI h x1 3 5).bind fun x2 =>
  (f_X11_isWithin a1 (J 0) (x2 - (J 1))).bind fun r3 =>
  (bz r3).bind fun u4 =>
  some r3
set_option maxRecDepth 100000 in
set_option maxHeartbeats 4000000 in
theorem s_X11_isMesh {n : Nat} {h : Hp} {a0 : Nat} {a1 : Int32}  {r : Int32} (hf : f_X11_isMesh  h a0 a1 = some r) : Ev 3 yX11_isMesh cX11_isMesh 2 (some .boolean) [.ref a0, .int a1] n h (some (.int r)) n h := by
  refine Ev_of RX11 rfl (by decide) (Nat.le_of_ble_eq_true rfl) (Nat.le_refl _) (Or.inl rfl) (fun Z hZ hF hN hI => ?_)
  have H : Ok (f_X11_isMesh  h a0 a1) (fun y => y = r) := ⟨_, hf, rfl⟩
  unfold f_X11_isMesh at H
  refine r_ls (ls' := [(0, .ref a0), (1, .int a1)]) rfl ?_
  refine r_iload_n hZ dX11_isMesh_0 rfl ?_
  refine r_iconst (v := (J 0)) hZ dX11_isMesh_1 (by decide) ?_
  refine r_aload_n hZ dX11_isMesh_2 rfl ?_
  obtain ⟨x1, ex1, H⟩ := ok_bind H
  refine r_getR hZ fl_X11_10_10 dX11_isMesh_3 ex1 ?_
  obtain ⟨x2, ex2, H⟩ := ok_bind H
  refine r_getI hZ fl_X11_352_3 dX11_isMesh_6 ex2 ?_
  refine r_iconst (v := (J 1)) hZ dX11_isMesh_9 (by decide) ?_
  refine r_isub hZ dX11_isMesh_10 ?_
  obtain ⟨r3, er3, H⟩ := ok_bind H
  refine r_callS (As := [.int a1, .int (J 0), .int (x2 - (J 1))]) (rest := []) (st1 := [.int r3]) (N2 := 0) hZ dX11_isMesh_11 cw_X11_170 (s_X11_isWithin er3) rfl rfl (by decide) (Nat.le_of_ble_eq_true rfl) (Nat.le_refl 0) (Nat.le_refl _) (Or.inl rfl) rfl ?_
  obtain ⟨u4, eu4, H⟩ := ok_bind H
  have H := ok_some H
  subst H
  exact r_zret hZ hF eu4 dX11_isMesh_14
def f_X11_mesh  (h : Hp) (a0 : Nat) (a1 : Int32) (a2 : Int32) : Option (Int32) :=
  (isO h a0 10).bind fun u1 =>
  (f_X11_isMesh h a0 a1).bind fun r2 =>
  (if r2 = 0 then
    some (J (-1))
  else
    (if a2 = (J 0) then
      (gR h a0 10 0).bind fun x3 =>
      (gR h x3 3 2).bind fun x4 =>
      (aI h x4 a1).bind fun x5 =>
      some x5
    else
      (if a2 = (J 1) then
        (gR h a0 10 0).bind fun x7 =>
        (gR h x7 3 3).bind fun x8 =>
        (aI h x8 a1).bind fun x9 =>
        some x9
      else
        (if a2 = (J 2) then
          (gR h a0 10 0).bind fun x11 =>
          (gR h x11 3 4).bind fun x12 =>
          (aI h x12 a1).bind fun x13 =>
          some x13
        else
          some (J (-1))))))
set_option maxRecDepth 100000 in
set_option maxHeartbeats 4000000 in
theorem s_X11_mesh {n : Nat} {h : Hp} {a0 : Nat} {a1 : Int32} {a2 : Int32}  {r : Int32} (hf : f_X11_mesh  h a0 a1 a2 = some r) : Ev 4 yX11_mesh cX11_mesh 3 (some .int) [.ref a0, .int a1, .int a2] n h (some (.int r)) n h := by
  refine Ev_of RX11 rfl (by decide) (Nat.le_of_ble_eq_true rfl) (Nat.le_refl _) (Or.inl rfl) (fun Z hZ hF hN hI => ?_)
  have H : Ok (f_X11_mesh  h a0 a1 a2) (fun y => y = r) := ⟨_, hf, rfl⟩
  unfold f_X11_mesh at H
  refine r_ls (ls' := [(0, .ref a0), (1, .int a1), (2, .int a2)]) rfl ?_
  refine r_aload_n hZ dX11_mesh_0 rfl ?_
  refine r_iload_n hZ dX11_mesh_1 rfl ?_
  obtain ⟨u1, eu1, H⟩ := ok_bind H
  obtain ⟨r2, er2, H⟩ := ok_bind H
  refine r_callV (As := [.int a1]) (rest := []) (st1 := [.int r2]) (N2 := 0) hZ dX11_mesh_2 cw_X11_177_X11 rfl eu1 (s_X11_isMesh er2) rfl rfl (by decide) (Nat.le_of_ble_eq_true rfl) (Nat.le_refl 0) (Nat.le_refl _) (Or.inl rfl) rfl ?_
  refine r_if_ne (tgt := 10) hZ dX11_mesh_5 (by decide) (fun c15 => ?_) (fun c15 => ?_)
  · have H := ok_f H c15
    refine r_iload_n hZ dX11_mesh_10 rfl ?_
    by_cases c6 : a2 = (J 0)
    · have hs : R Z 36 [(0, .ref a0), (1, .int a1), (2, .int a2)] [] n h 0 → R Z 11 [(0, .ref a0), (1, .int a1), (2, .int a2)] [.int a2] n h 0 := by
        exact fun k => r_tableIn hZ dX11_mesh_11 (by rw [c6]; decide) (by rw [c6]; decide) (off := 25) (by rw [c6]; rfl) (by decide) k
      refine hs ?_
      clear hs
      have H := ok_t H c6
      refine r_aload_n hZ dX11_mesh_36 rfl ?_
      obtain ⟨x3, ex3, H⟩ := ok_bind H
      refine r_getR hZ fl_X11_10_10 dX11_mesh_37 ex3 ?_
      obtain ⟨x4, ex4, H⟩ := ok_bind H
      refine r_getR hZ fl_X11_180_3 dX11_mesh_40 ex4 ?_
      refine r_iload_n hZ dX11_mesh_43 rfl ?_
      obtain ⟨x5, ex5, H⟩ := ok_bind H
      refine r_aI hZ dX11_mesh_44 ex5 ?_
      have H := ok_some H
      subst H
      exact r_iret hZ hF dX11_mesh_45
    · have H := ok_f H c6
      by_cases c10 : a2 = (J 1)
      · have hs : R Z 46 [(0, .ref a0), (1, .int a1), (2, .int a2)] [] n h 0 → R Z 11 [(0, .ref a0), (1, .int a1), (2, .int a2)] [.int a2] n h 0 := by
          exact fun k => r_tableIn hZ dX11_mesh_11 (by rw [c10]; decide) (by rw [c10]; decide) (off := 35) (by rw [c10]; rfl) (by decide) k
        refine hs ?_
        clear hs
        have H := ok_t H c10
        refine r_aload_n hZ dX11_mesh_46 rfl ?_
        obtain ⟨x7, ex7, H⟩ := ok_bind H
        refine r_getR hZ fl_X11_10_10 dX11_mesh_47 ex7 ?_
        obtain ⟨x8, ex8, H⟩ := ok_bind H
        refine r_getR hZ fl_X11_183_3 dX11_mesh_50 ex8 ?_
        refine r_iload_n hZ dX11_mesh_53 rfl ?_
        obtain ⟨x9, ex9, H⟩ := ok_bind H
        refine r_aI hZ dX11_mesh_54 ex9 ?_
        have H := ok_some H
        subst H
        exact r_iret hZ hF dX11_mesh_55
      · have H := ok_f H c10
        by_cases c14 : a2 = (J 2)
        · have hs : R Z 56 [(0, .ref a0), (1, .int a1), (2, .int a2)] [] n h 0 → R Z 11 [(0, .ref a0), (1, .int a1), (2, .int a2)] [.int a2] n h 0 := by
            exact fun k => r_tableIn hZ dX11_mesh_11 (by rw [c14]; decide) (by rw [c14]; decide) (off := 45) (by rw [c14]; rfl) (by decide) k
          refine hs ?_
          clear hs
          have H := ok_t H c14
          refine r_aload_n hZ dX11_mesh_56 rfl ?_
          obtain ⟨x11, ex11, H⟩ := ok_bind H
          refine r_getR hZ fl_X11_10_10 dX11_mesh_57 ex11 ?_
          obtain ⟨x12, ex12, H⟩ := ok_bind H
          refine r_getR hZ fl_X11_186_3 dX11_mesh_60 ex12 ?_
          refine r_iload_n hZ dX11_mesh_63 rfl ?_
          obtain ⟨x13, ex13, H⟩ := ok_bind H
          refine r_aI hZ dX11_mesh_64 ex13 ?_
          have H := ok_some H
          subst H
          exact r_iret hZ hF dX11_mesh_65
        · have H := ok_f H c14
          refine r_tableOut (tgt := 66) hZ dX11_mesh_11 (by have := sw_n c6; have := sw_n c10; have := sw_n c14; omega) (by decide) ?_
          refine r_iconst (v := (J (-1))) hZ dX11_mesh_66 (by decide) ?_
          have H := ok_some H
          subst H
          exact r_iret hZ hF dX11_mesh_67
  · have H := ok_t H c15
    refine r_iconst (v := (J (-1))) hZ dX11_mesh_8 (by decide) ?_
    have H := ok_some H
    subst H
    exact r_iret hZ hF dX11_mesh_9
def f_X11_locked  (h : Hp) (a0 : Nat) : Option (Int32 × Hp) :=
  (gR h a0 10 11).bind fun x1 =>
  (gR h a0 10 0).bind fun x2 =>
  (isO h x1 9).bind fun u3 =>
  (f_X10_solve h x1 x2).bind fun r4 =>
  (gR r4 a0 10 11).bind fun x5 =>
  (isO r4 x5 9).bind fun u6 =>
  (f_X10_isLocked r4 x5).bind fun r7 =>
  ((if r7 = 0 then
    some (J 0)
  else
    some (J 1))).bind fun (j8 : Int32) =>
  some (j8, r4)
set_option maxRecDepth 100000 in
set_option maxHeartbeats 4000000 in
theorem s_X11_locked {n : Nat} {h : Hp} {a0 : Nat}  {r : Int32 × Hp} (hf : f_X11_locked  h a0 = some r) : Ev 7 yX11_locked cX11_locked 1 (some .int) [.ref a0] n h (some (.int r.1)) n r.2 := by
  refine Ev_of RX11 rfl (by decide) (Nat.le_of_ble_eq_true rfl) (Nat.le_refl _) (Or.inl rfl) (fun Z hZ hF hN hI => ?_)
  have H : Ok (f_X11_locked  h a0) (fun y => y = r) := ⟨_, hf, rfl⟩
  unfold f_X11_locked at H
  refine r_ls (ls' := [(0, .ref a0)]) rfl ?_
  refine r_aload_n hZ dX11_locked_0 rfl ?_
  obtain ⟨x1, ex1, H⟩ := ok_bind H
  refine r_getR hZ fl_X11_65_10 dX11_locked_1 ex1 ?_
  refine r_aload_n hZ dX11_locked_4 rfl ?_
  obtain ⟨x2, ex2, H⟩ := ok_bind H
  refine r_getR hZ fl_X11_10_10 dX11_locked_5 ex2 ?_
  obtain ⟨u3, eu3, H⟩ := ok_bind H
  obtain ⟨r4, er4, H⟩ := ok_bind H
  refine r_callV (As := [.ref x2]) (rest := []) (st1 := []) (N2 := 0) hZ dX11_locked_8 cw_X11_189_X10 rfl eu3 (s_X10_solve er4) rfl rfl (by decide) (Nat.le_of_ble_eq_true rfl) (Nat.le_refl 0) (Nat.le_refl _) (Or.inl rfl) rfl ?_
  refine r_aload_n hZ dX11_locked_11 rfl ?_
  obtain ⟨x5, ex5, H⟩ := ok_bind H
  refine r_getR hZ fl_X11_65_10 dX11_locked_12 ex5 ?_
  obtain ⟨u6, eu6, H⟩ := ok_bind H
  obtain ⟨r7, er7, H⟩ := ok_bind H
  refine r_callV (As := []) (rest := []) (st1 := [.int r7]) (N2 := 0) hZ dX11_locked_15 cw_X11_192_X10 rfl eu6 (s_X10_isLocked er7) rfl rfl (by decide) (Nat.le_of_ble_eq_true rfl) (Nat.le_refl 0) (Nat.le_refl _) (Or.inl rfl) rfl ?_
  refine ok_join (Q := fun j8 : Int32 => R Z 26 [] [.int j8] n r4 0) H (fun j8 H => ?_) (fun H => ?_)
  · have H := ok_some H
    subst H
    exact r_iret hZ hF dX11_locked_26
  · refine r_if_eq (tgt := 25) hZ dX11_locked_18 (by decide) (fun c9 => ?_) (fun c9 => ?_)
    · have H := ok_t H c9
      refine r_iconst (v := (J 0)) hZ dX11_locked_25 (by decide) ?_
      have H := ok_some H
      exact r_pick [] (ls' := []) rfl H
    · have H := ok_f H c9
      refine r_iconst (v := (J 1)) hZ dX11_locked_21 (by decide) ?_
      refine r_goto (tgt := 26) hZ dX11_locked_22 (by decide) ?_
      have H := ok_some H
      exact r_pick [] (ls' := []) rfl H
def f_X11_speed  (h : Hp) (a0 : Nat) (a1 : Int32) (a2 : Int32) : Option (Int64 × Hp) :=
  (f_X11_isWithin a1 (J 0) (J 7)).bind fun r1 =>
  (if r1 = 0 then
    some ((K (-1000000001)), h)
  else
    (f_X11_isWithin a2 (J 0) (J 1)).bind fun r2 =>
    (if r2 = 0 then
      some ((K (-1000000001)), h)
    else
      (gR h a0 10 11).bind fun x3 =>
      (gR h a0 10 0).bind fun x4 =>
      (isO h x3 9).bind fun u5 =>
      (f_X10_solve h x3 x4).bind fun r6 =>
      (gR r6 a0 10 11).bind fun x7 =>
      (isO r6 x7 9).bind fun u8 =>
      (f_X10_isLocked r6 x7).bind fun r9 =>
      (if r9 = 0 then
        (gR r6 a0 10 11).bind fun x10 =>
        (isO r6 x10 9).bind fun u11 =>
        (f_X10_isTurned r6 x10 a1).bind fun r12 =>
        (if r12 = 0 then
          some ((K (-1000000004)), r6)
        else
          ((if a2 = 0 then
            (gR r6 a0 10 11).bind fun x17 =>
            (isO r6 x17 9).bind fun u18 =>
            (f_X10_aboveLine r6 x17 a1).bind fun r19 =>
            some r19
          else
            (gR r6 a0 10 11).bind fun x14 =>
            (isO r6 x14 9).bind fun u15 =>
            (f_X10_belowLine r6 x14 a1).bind fun r16 =>
            some r16)).bind fun (j13 : Int64) =>
          some (j13, r6))
      else
        some ((K (-1000000003)), r6))))
set_option maxRecDepth 100000 in
set_option maxHeartbeats 4000000 in
theorem s_X11_speed {n : Nat} {h : Hp} {a0 : Nat} {a1 : Int32} {a2 : Int32}  {r : Int64 × Hp} (hf : f_X11_speed  h a0 a1 a2 = some r) : Ev 7 yX11_speed cX11_speed 3 (some .long) [.ref a0, .int a1, .int a2] n h (some (.long r.1)) n r.2 := by
  refine Ev_of RX11 rfl (by decide) (Nat.le_of_ble_eq_true rfl) (Nat.le_refl _) (Or.inl rfl) (fun Z hZ hF hN hI => ?_)
  have H : Ok (f_X11_speed  h a0 a1 a2) (fun y => y = r) := ⟨_, hf, rfl⟩
  unfold f_X11_speed at H
  refine r_ls (ls' := [(0, .ref a0), (1, .int a1), (2, .int a2)]) rfl ?_
  refine r_iload_n hZ dX11_speed_0 rfl ?_
  refine r_iconst (v := (J 0)) hZ dX11_speed_1 (by decide) ?_
  refine r_bipush (v := (J 7)) hZ dX11_speed_2 (by decide) ?_
  obtain ⟨r1, er1, H⟩ := ok_bind H
  refine r_callS (As := [.int a1, .int (J 0), .int (J 7)]) (rest := []) (st1 := [.int r1]) (N2 := 0) hZ dX11_speed_4 cw_X11_170 (s_X11_isWithin er1) rfl rfl (by decide) (Nat.le_of_ble_eq_true rfl) (Nat.le_refl 0) (Nat.le_refl _) (Or.inl rfl) rfl ?_
  refine r_if_eq (tgt := 19) hZ dX11_speed_7 (by decide) (fun c24 => ?_) (fun c24 => ?_)
  · have H := ok_t H c24
    refine r_ldc2 (v := (K (-1000000001))) hZ wc_X11_196 dX11_speed_19 ?_
    have H := ok_some H
    subst H
    exact r_lret hZ hF dX11_speed_22
  · have H := ok_f H c24
    refine r_iload_n hZ dX11_speed_10 rfl ?_
    refine r_iconst (v := (J 0)) hZ dX11_speed_11 (by decide) ?_
    refine r_iconst (v := (J 1)) hZ dX11_speed_12 (by decide) ?_
    obtain ⟨r2, er2, H⟩ := ok_bind H
    refine r_callS (As := [.int a2, .int (J 0), .int (J 1)]) (rest := []) (st1 := [.int r2]) (N2 := 0) hZ dX11_speed_13 cw_X11_170 (s_X11_isWithin er2) rfl rfl (by decide) (Nat.le_of_ble_eq_true rfl) (Nat.le_refl 0) (Nat.le_refl _) (Or.inl rfl) rfl ?_
    refine r_if_ne (tgt := 23) hZ dX11_speed_16 (by decide) (fun c23 => ?_) (fun c23 => ?_)
    · have H := ok_f H c23
      refine r_aload_n hZ dX11_speed_23 rfl ?_
      obtain ⟨x3, ex3, H⟩ := ok_bind H
      refine r_getR hZ fl_X11_65_10 dX11_speed_24 ex3 ?_
      refine r_aload_n hZ dX11_speed_27 rfl ?_
      obtain ⟨x4, ex4, H⟩ := ok_bind H
      refine r_getR hZ fl_X11_10_10 dX11_speed_28 ex4 ?_
      obtain ⟨u5, eu5, H⟩ := ok_bind H
      obtain ⟨r6, er6, H⟩ := ok_bind H
      refine r_callV (As := [.ref x4]) (rest := []) (st1 := []) (N2 := 0) hZ dX11_speed_31 cw_X11_189_X10 rfl eu5 (s_X10_solve er6) rfl rfl (by decide) (Nat.le_of_ble_eq_true rfl) (Nat.le_refl 0) (Nat.le_refl _) (Or.inl rfl) rfl ?_
      refine r_aload_n hZ dX11_speed_34 rfl ?_
      obtain ⟨x7, ex7, H⟩ := ok_bind H
      refine r_getR hZ fl_X11_65_10 dX11_speed_35 ex7 ?_
      obtain ⟨u8, eu8, H⟩ := ok_bind H
      obtain ⟨r9, er9, H⟩ := ok_bind H
      refine r_callV (As := []) (rest := []) (st1 := [.int r9]) (N2 := 0) hZ dX11_speed_38 cw_X11_192_X10 rfl eu8 (s_X10_isLocked er9) rfl rfl (by decide) (Nat.le_of_ble_eq_true rfl) (Nat.le_refl 0) (Nat.le_refl _) (Or.inl rfl) rfl ?_
      refine r_if_eq (tgt := 48) hZ dX11_speed_41 (by decide) (fun c22 => ?_) (fun c22 => ?_)
      · have H := ok_t H c22
        refine r_aload_n hZ dX11_speed_48 rfl ?_
        obtain ⟨x10, ex10, H⟩ := ok_bind H
        refine r_getR hZ fl_X11_65_10 dX11_speed_49 ex10 ?_
        refine r_iload_n hZ dX11_speed_52 rfl ?_
        obtain ⟨u11, eu11, H⟩ := ok_bind H
        obtain ⟨r12, er12, H⟩ := ok_bind H
        refine r_callV (As := [.int a1]) (rest := []) (st1 := [.int r12]) (N2 := 0) hZ dX11_speed_53 cw_X11_200_X10 rfl eu11 (s_X10_isTurned er12) rfl rfl (by decide) (Nat.le_of_ble_eq_true rfl) (Nat.le_refl 0) (Nat.le_refl _) (Or.inl rfl) rfl ?_
        refine r_if_ne (tgt := 63) hZ dX11_speed_56 (by decide) (fun c21 => ?_) (fun c21 => ?_)
        · have H := ok_f H c21
          refine r_iload_n hZ dX11_speed_63 rfl ?_
          refine ok_join (Q := fun j13 : Int64 => R Z 86 [] [.long j13] n r6 0) H (fun j13 H => ?_) (fun H => ?_)
          · have H := ok_some H
            subst H
            exact r_lret hZ hF dX11_speed_86
          · refine r_if_ne (tgt := 78) hZ dX11_speed_64 (by decide) (fun c20 => ?_) (fun c20 => ?_)
            · have H := ok_f H c20
              refine r_aload_n hZ dX11_speed_78 rfl ?_
              obtain ⟨x14, ex14, H⟩ := ok_bind H
              refine r_getR hZ fl_X11_65_10 dX11_speed_79 ex14 ?_
              refine r_iload_n hZ dX11_speed_82 rfl ?_
              obtain ⟨u15, eu15, H⟩ := ok_bind H
              obtain ⟨r16, er16, H⟩ := ok_bind H
              refine r_callV (As := [.int a1]) (rest := []) (st1 := [.long r16]) (N2 := 0) hZ dX11_speed_83 cw_X11_209_X10 rfl eu15 (s_X10_belowLine er16) rfl rfl (by decide) (Nat.le_of_ble_eq_true rfl) (Nat.le_refl 0) (Nat.le_refl _) (Or.inl rfl) rfl ?_
              have H := ok_some H
              exact r_pick [] (ls' := []) rfl H
            · have H := ok_t H c20
              refine r_aload_n hZ dX11_speed_67 rfl ?_
              obtain ⟨x17, ex17, H⟩ := ok_bind H
              refine r_getR hZ fl_X11_65_10 dX11_speed_68 ex17 ?_
              refine r_iload_n hZ dX11_speed_71 rfl ?_
              obtain ⟨u18, eu18, H⟩ := ok_bind H
              obtain ⟨r19, er19, H⟩ := ok_bind H
              refine r_callV (As := [.int a1]) (rest := []) (st1 := [.long r19]) (N2 := 0) hZ dX11_speed_72 cw_X11_205_X10 rfl eu18 (s_X10_aboveLine er19) rfl rfl (by decide) (Nat.le_of_ble_eq_true rfl) (Nat.le_refl 0) (Nat.le_refl _) (Or.inl rfl) rfl ?_
              refine r_goto (tgt := 86) hZ dX11_speed_75 (by decide) ?_
              have H := ok_some H
              exact r_pick [] (ls' := []) rfl H
        · have H := ok_t H c21
          refine r_ldc2 (v := (K (-1000000004))) hZ wc_X11_203 dX11_speed_59 ?_
          have H := ok_some H
          subst H
          exact r_lret hZ hF dX11_speed_62
      · have H := ok_f H c22
        refine r_ldc2 (v := (K (-1000000003))) hZ wc_X11_198 dX11_speed_44 ?_
        have H := ok_some H
        subst H
        exact r_lret hZ hF dX11_speed_47
    · have H := ok_t H c23
      refine r_ldc2 (v := (K (-1000000001))) hZ wc_X11_196 dX11_speed_19 ?_
      have H := ok_some H
      subst H
      exact r_lret hZ hF dX11_speed_22
def f_X11_hunt  (h : Hp) (a0 : Nat) (a1 : Int32) (a2 : Int32) (a3 : Int32) : Option (Int32) :=
  (isO h a0 10).bind fun u1 =>
  (f_X11_isGear h a0 a1).bind fun r2 =>
  (if r2 = 0 then
    some (J (-1))
  else
    (isO h a0 10).bind fun u3 =>
    (f_X11_isGear h a0 a2).bind fun r4 =>
    (if r4 = 0 then
      some (J (-1))
    else
      (if a1 = a2 then
        some (J (-1))
      else
        (f_X11_isWithin a3 (J 0) (J 1)).bind fun r5 =>
        (if r5 = 0 then
          some (J (-1))
        else
          (gR h a0 10 0).bind fun x6 =>
          (gR h x6 3 0).bind fun x7 =>
          (aR h x7 3 a2).bind fun x8 =>
          (gI h x8 0 2).bind fun x9 =>
          (gR h a0 10 0).bind fun x10 =>
          (gR h x10 3 0).bind fun x11 =>
          (aR h x11 3 a1).bind fun x12 =>
          (gI h x12 0 2).bind fun x13 =>
          (f_X11_greatestDivisor (x13.toInt64) (x9.toInt64)).bind fun r14 =>
          ((if (lg_cmp r14 (K 1)) ≤ 0 then
            some x9
          else
            (nzL r14).bind fun u16 =>
            some (((x9.toInt64) / r14).toInt32))).bind fun (j15 : Int32) =>
          ((if a3 = 0 then
            some j15
          else
            some (x9 - j15))).bind fun (j18 : Int32) =>
          some j18))))
set_option maxRecDepth 100000 in
set_option maxHeartbeats 4000000 in
theorem s_X11_hunt {n : Nat} {h : Hp} {a0 : Nat} {a1 : Int32} {a2 : Int32} {a3 : Int32}  {r : Int32} (hf : f_X11_hunt  h a0 a1 a2 a3 = some r) : Ev 4 yX11_hunt cX11_hunt 8 (some .int) [.ref a0, .int a1, .int a2, .int a3] n h (some (.int r)) n h := by
  refine Ev_of RX11 rfl (by decide) (Nat.le_of_ble_eq_true rfl) (Nat.le_refl _) (Or.inl rfl) (fun Z hZ hF hN hI => ?_)
  have H : Ok (f_X11_hunt  h a0 a1 a2 a3) (fun y => y = r) := ⟨_, hf, rfl⟩
  unfold f_X11_hunt at H
  refine r_ls (ls' := [(0, .ref a0), (1, .int a1), (2, .int a2), (3, .int a3)]) rfl ?_
  refine r_aload_n hZ dX11_hunt_0 rfl ?_
  refine r_iload_n hZ dX11_hunt_1 rfl ?_
  obtain ⟨u1, eu1, H⟩ := ok_bind H
  obtain ⟨r2, er2, H⟩ := ok_bind H
  refine r_callV (As := [.int a1]) (rest := []) (st1 := [.int r2]) (N2 := 0) hZ dX11_hunt_2 cw_X11_139_X11 rfl eu1 (s_X11_isGear er2) rfl rfl (by decide) (Nat.le_of_ble_eq_true rfl) (Nat.le_refl 0) (Nat.le_refl _) (Or.inl rfl) rfl ?_
  refine r_if_eq (tgt := 30) hZ dX11_hunt_5 (by decide) (fun c23 => ?_) (fun c23 => ?_)
  · have H := ok_t H c23
    refine r_iconst (v := (J (-1))) hZ dX11_hunt_30 (by decide) ?_
    have H := ok_some H
    subst H
    exact r_iret hZ hF dX11_hunt_31
  · have H := ok_f H c23
    refine r_aload_n hZ dX11_hunt_8 rfl ?_
    refine r_iload_n hZ dX11_hunt_9 rfl ?_
    obtain ⟨u3, eu3, H⟩ := ok_bind H
    obtain ⟨r4, er4, H⟩ := ok_bind H
    refine r_callV (As := [.int a2]) (rest := []) (st1 := [.int r4]) (N2 := 0) hZ dX11_hunt_10 cw_X11_139_X11 rfl eu3 (s_X11_isGear er4) rfl rfl (by decide) (Nat.le_of_ble_eq_true rfl) (Nat.le_refl 0) (Nat.le_refl _) (Or.inl rfl) rfl ?_
    refine r_if_eq (tgt := 30) hZ dX11_hunt_13 (by decide) (fun c22 => ?_) (fun c22 => ?_)
    · have H := ok_t H c22
      refine r_iconst (v := (J (-1))) hZ dX11_hunt_30 (by decide) ?_
      have H := ok_some H
      subst H
      exact r_iret hZ hF dX11_hunt_31
    · have H := ok_f H c22
      refine r_iload_n hZ dX11_hunt_16 rfl ?_
      refine r_iload_n hZ dX11_hunt_17 rfl ?_
      refine r_icmp_eq (tgt := 30) hZ dX11_hunt_18 (by decide) (fun c21 => ?_) (fun c21 => ?_)
      · have H := ok_t H c21
        refine r_iconst (v := (J (-1))) hZ dX11_hunt_30 (by decide) ?_
        have H := ok_some H
        subst H
        exact r_iret hZ hF dX11_hunt_31
      · have H := ok_f H c21
        refine r_iload_n hZ dX11_hunt_21 rfl ?_
        refine r_iconst (v := (J 0)) hZ dX11_hunt_22 (by decide) ?_
        refine r_iconst (v := (J 1)) hZ dX11_hunt_23 (by decide) ?_
        obtain ⟨r5, er5, H⟩ := ok_bind H
        refine r_callS (As := [.int a3, .int (J 0), .int (J 1)]) (rest := []) (st1 := [.int r5]) (N2 := 0) hZ dX11_hunt_24 cw_X11_170 (s_X11_isWithin er5) rfl rfl (by decide) (Nat.le_of_ble_eq_true rfl) (Nat.le_refl 0) (Nat.le_refl _) (Or.inl rfl) rfl ?_
        refine r_if_ne (tgt := 32) hZ dX11_hunt_27 (by decide) (fun c20 => ?_) (fun c20 => ?_)
        · have H := ok_f H c20
          refine r_aload_n hZ dX11_hunt_32 rfl ?_
          obtain ⟨x6, ex6, H⟩ := ok_bind H
          refine r_getR hZ fl_X11_10_10 dX11_hunt_33 ex6 ?_
          obtain ⟨x7, ex7, H⟩ := ok_bind H
          refine r_getR hZ fl_X11_142_3 dX11_hunt_36 ex7 ?_
          refine r_iload_n hZ dX11_hunt_39 rfl ?_
          obtain ⟨x8, ex8, H⟩ := ok_bind H
          refine r_aR hZ dX11_hunt_40 ex8 (fun _ => rfl) (Or.inl ⟨_, rfl⟩) ?_
          obtain ⟨x9, ex9, H⟩ := ok_bind H
          refine r_getI hZ fl_X11_149_0 dX11_hunt_41 ex9 ?_
          refine r_istore hZ dX11_hunt_44 (by decide) (r_pick [0, 1, 3, 4] (ls' := [(0, .ref a0), (1, .int a1), (3, .int a3), (4, .int x9)]) rfl ?_)
          refine r_aload_n hZ dX11_hunt_46 rfl ?_
          obtain ⟨x10, ex10, H⟩ := ok_bind H
          refine r_getR hZ fl_X11_10_10 dX11_hunt_47 ex10 ?_
          obtain ⟨x11, ex11, H⟩ := ok_bind H
          refine r_getR hZ fl_X11_142_3 dX11_hunt_50 ex11 ?_
          refine r_iload_n hZ dX11_hunt_53 rfl ?_
          obtain ⟨x12, ex12, H⟩ := ok_bind H
          refine r_aR hZ dX11_hunt_54 ex12 (fun _ => rfl) (Or.inl ⟨_, rfl⟩) ?_
          obtain ⟨x13, ex13, H⟩ := ok_bind H
          refine r_getI hZ fl_X11_149_0 dX11_hunt_55 ex13 ?_
          refine r_i2l hZ dX11_hunt_58 ?_
          refine r_iload hZ dX11_hunt_59 rfl ?_
          refine r_i2l hZ dX11_hunt_61 ?_
          obtain ⟨r14, er14, H⟩ := ok_bind H
          refine r_callS (As := [.long (x13.toInt64), .long (x9.toInt64)]) (rest := []) (st1 := [.long r14]) (N2 := 0) hZ dX11_hunt_62 cw_X11_212 (s_X11_greatestDivisor er14) rfl rfl (by decide) (Nat.le_of_ble_eq_true rfl) (Nat.le_refl 0) (Nat.le_refl _) (Or.inl rfl) rfl ?_
          refine r_lstore hZ dX11_hunt_65 (by decide) (r_pick [3, 4, 5] (ls' := [(3, .int a3), (4, .int x9), (5, .long r14)]) rfl ?_)
          refine r_lload hZ dX11_hunt_67 rfl ?_
          refine r_lconst (v := (K 1)) hZ dX11_hunt_69 (by decide) ?_
          refine r_lcmp hZ dX11_hunt_70 ?_
          refine ok_join (Q := fun j15 : Int32 => R Z 86 [(3, .int a3), (4, .int x9)] [.int j15] n h 0) H (fun j15 H => ?_) (fun H => ?_)
          · refine r_istore hZ dX11_hunt_86 (by decide) (r_pick [3, 4, 7] (ls' := [(3, .int a3), (4, .int x9), (7, .int j15)]) rfl ?_)
            refine r_iload_n hZ dX11_hunt_88 rfl ?_
            refine ok_join (Q := fun j18 : Int32 => R Z 102 [] [.int j18] n h 0) H (fun j18 H => ?_) (fun H => ?_)
            · have H := ok_some H
              subst H
              exact r_iret hZ hF dX11_hunt_102
            · refine r_if_ne (tgt := 97) hZ dX11_hunt_89 (by decide) (fun c19 => ?_) (fun c19 => ?_)
              · have H := ok_f H c19
                refine r_iload hZ dX11_hunt_97 rfl ?_
                refine r_iload hZ dX11_hunt_99 rfl ?_
                refine r_isub hZ dX11_hunt_101 ?_
                have H := ok_some H
                exact r_pick [] (ls' := []) rfl H
              · have H := ok_t H c19
                refine r_iload hZ dX11_hunt_92 rfl ?_
                refine r_goto (tgt := 102) hZ dX11_hunt_94 (by decide) ?_
                have H := ok_some H
                exact r_pick [] (ls' := []) rfl H
          · refine r_if_le (tgt := 84) hZ dX11_hunt_71 (by decide) (fun c17 => ?_) (fun c17 => ?_)
            · have H := ok_t H c17
              refine r_iload hZ dX11_hunt_84 rfl ?_
              have H := ok_some H
              exact r_pick [3, 4] (ls' := [(3, .int a3), (4, .int x9)]) rfl H
            · have H := ok_f H c17
              refine r_iload hZ dX11_hunt_74 rfl ?_
              refine r_i2l hZ dX11_hunt_76 ?_
              refine r_lload hZ dX11_hunt_77 rfl ?_
              obtain ⟨u16, eu16, H⟩ := ok_bind H
              refine r_ldiv hZ dX11_hunt_79 (nzL_ne eu16) ?_
              refine r_l2i hZ dX11_hunt_80 ?_
              refine r_goto (tgt := 86) hZ dX11_hunt_81 (by decide) ?_
              have H := ok_some H
              exact r_pick [3, 4] (ls' := [(3, .int a3), (4, .int x9)]) rfl H
        · have H := ok_t H c20
          refine r_iconst (v := (J (-1))) hZ dX11_hunt_30 (by decide) ?_
          have H := ok_some H
          subst H
          exact r_iret hZ hF dX11_hunt_31
def f_X11_areSunAndRing  (a0 : Int32) (a1 : Int32) : Option (Int32) :=
  (f_X11_isWithin a0 (J 4) (J 99)).bind fun r1 =>
  ((if r1 = 0 then
    some (J 0)
  else
    (f_X11_isWithin a1 (J 4) (J 99)).bind fun r3 =>
    (if r3 = 0 then
      some (J 0)
    else
      some (J 1)))).bind fun (j2 : Int32) =>
  (bz j2).bind fun u6 =>
  some j2
set_option maxRecDepth 100000 in
set_option maxHeartbeats 4000000 in
theorem s_X11_areSunAndRing {n : Nat} {h : Hp} {a0 : Int32} {a1 : Int32}  {r : Int32} (hf : f_X11_areSunAndRing  a0 a1 = some r) : Ev 3 yX11_areSunAndRing cX11_areSunAndRing 2 (some .boolean) [.int a0, .int a1] n h (some (.int r)) n h := by
  refine Ev_of RX11 rfl (by decide) (Nat.le_of_ble_eq_true rfl) (Nat.le_refl _) (Or.inl rfl) (fun Z hZ hF hN hI => ?_)
  have H : Ok (f_X11_areSunAndRing  a0 a1) (fun y => y = r) := ⟨_, hf, rfl⟩
  unfold f_X11_areSunAndRing at H
  refine r_ls (ls' := [(0, .int a0), (1, .int a1)]) rfl ?_
  refine r_iload_n hZ dX11_areSunAndRing_0 rfl ?_
  refine r_iconst (v := (J 4)) hZ dX11_areSunAndRing_1 (by decide) ?_
  refine r_bipush (v := (J 99)) hZ dX11_areSunAndRing_2 (by decide) ?_
  obtain ⟨r1, er1, H⟩ := ok_bind H
  refine r_callS (As := [.int a0, .int (J 4), .int (J 99)]) (rest := []) (st1 := [.int r1]) (N2 := 0) hZ dX11_areSunAndRing_4 cw_X11_170 (s_X11_isWithin er1) rfl rfl (by decide) (Nat.le_of_ble_eq_true rfl) (Nat.le_refl 0) (Nat.le_refl _) (Or.inl rfl) rfl ?_
  refine ok_join (Q := fun j2 : Int32 => R Z 25 [] [.int j2] n h 0) H (fun j2 H => ?_) (fun H => ?_)
  · obtain ⟨u6, eu6, H⟩ := ok_bind H
    have H := ok_some H
    subst H
    exact r_zret hZ hF eu6 dX11_areSunAndRing_25
  · refine r_if_eq (tgt := 24) hZ dX11_areSunAndRing_7 (by decide) (fun c5 => ?_) (fun c5 => ?_)
    · have H := ok_t H c5
      refine r_iconst (v := (J 0)) hZ dX11_areSunAndRing_24 (by decide) ?_
      have H := ok_some H
      exact r_pick [] (ls' := []) rfl H
    · have H := ok_f H c5
      refine r_iload_n hZ dX11_areSunAndRing_10 rfl ?_
      refine r_iconst (v := (J 4)) hZ dX11_areSunAndRing_11 (by decide) ?_
      refine r_bipush (v := (J 99)) hZ dX11_areSunAndRing_12 (by decide) ?_
      obtain ⟨r3, er3, H⟩ := ok_bind H
      refine r_callS (As := [.int a1, .int (J 4), .int (J 99)]) (rest := []) (st1 := [.int r3]) (N2 := 0) hZ dX11_areSunAndRing_14 cw_X11_170 (s_X11_isWithin er3) rfl rfl (by decide) (Nat.le_of_ble_eq_true rfl) (Nat.le_refl 0) (Nat.le_refl _) (Or.inl rfl) rfl ?_
      refine r_if_eq (tgt := 24) hZ dX11_areSunAndRing_17 (by decide) (fun c4 => ?_) (fun c4 => ?_)
      · have H := ok_t H c4
        refine r_iconst (v := (J 0)) hZ dX11_areSunAndRing_24 (by decide) ?_
        have H := ok_some H
        exact r_pick [] (ls' := []) rfl H
      · have H := ok_f H c4
        refine r_iconst (v := (J 1)) hZ dX11_areSunAndRing_20 (by decide) ?_
        refine r_goto (tgt := 25) hZ dX11_areSunAndRing_21 (by decide) ?_
        have H := ok_some H
        exact r_pick [] (ls' := []) rfl H
def f_X11_mayBeBuilt  (a0 : Int32) (a1 : Int32) (a2 : Int32) : Option (Int32) :=
  (if a2 < (J 1) then
    some (J 0)
  else
    (if (a1 - a0) < (J 8) then
      some (J 0)
    else
      (nz (J 2)).bind fun u1 =>
      (if ((a1 - a0) - (a1 - a0) / (J 2) * (J 2)) = 0 then
        (nz a2).bind fun u2 =>
        (if ((a0 + a1) - (a0 + a1) / a2 * a2) = 0 then
          (nz (J 2)).bind fun u3 =>
          (some ((a1 - a0) / (J 2))).bind fun x4 =>
          ((if ((J 3) * (a0 + x4)) < (a2 * (x4 + (J 2))) then
            some (J 0)
          else
            some (J 1))).bind fun (j5 : Int32) =>
          (bz j5).bind fun u7 =>
          some j5
        else
          some (J 0))
      else
        some (J 0))))
set_option maxRecDepth 100000 in
set_option maxHeartbeats 4000000 in
theorem s_X11_mayBeBuilt {n : Nat} {h : Hp} {a0 : Int32} {a1 : Int32} {a2 : Int32}  {r : Int32} (hf : f_X11_mayBeBuilt  a0 a1 a2 = some r) : Ev 2 yX11_mayBeBuilt cX11_mayBeBuilt 4 (some .boolean) [.int a0, .int a1, .int a2] n h (some (.int r)) n h := by
  refine Ev_of RX11 rfl (by decide) (Nat.le_of_ble_eq_true rfl) (Nat.le_refl _) (Or.inl rfl) (fun Z hZ hF hN hI => ?_)
  have H : Ok (f_X11_mayBeBuilt  a0 a1 a2) (fun y => y = r) := ⟨_, hf, rfl⟩
  unfold f_X11_mayBeBuilt at H
  refine r_ls (ls' := [(0, .int a0), (1, .int a1), (2, .int a2)]) rfl ?_
  refine r_iload_n hZ dX11_mayBeBuilt_0 rfl ?_
  refine r_iconst (v := (J 1)) hZ dX11_mayBeBuilt_1 (by decide) ?_
  refine r_icmp_lt (tgt := 29) hZ dX11_mayBeBuilt_2 (by decide) (fun c11 => ?_) (fun c11 => ?_)
  · have H := ok_t H c11
    refine r_iconst (v := (J 0)) hZ dX11_mayBeBuilt_29 (by decide) ?_
    have H := ok_some H
    subst H
    exact r_zret hZ hF (by decide) dX11_mayBeBuilt_30
  · have H := ok_f H c11
    refine r_iload_n hZ dX11_mayBeBuilt_5 rfl ?_
    refine r_iload_n hZ dX11_mayBeBuilt_6 rfl ?_
    refine r_isub hZ dX11_mayBeBuilt_7 ?_
    refine r_bipush (v := (J 8)) hZ dX11_mayBeBuilt_8 (by decide) ?_
    refine r_icmp_lt (tgt := 29) hZ dX11_mayBeBuilt_10 (by decide) (fun c10 => ?_) (fun c10 => ?_)
    · have H := ok_t H c10
      refine r_iconst (v := (J 0)) hZ dX11_mayBeBuilt_29 (by decide) ?_
      have H := ok_some H
      subst H
      exact r_zret hZ hF (by decide) dX11_mayBeBuilt_30
    · have H := ok_f H c10
      refine r_iload_n hZ dX11_mayBeBuilt_13 rfl ?_
      refine r_iload_n hZ dX11_mayBeBuilt_14 rfl ?_
      refine r_isub hZ dX11_mayBeBuilt_15 ?_
      refine r_iconst (v := (J 2)) hZ dX11_mayBeBuilt_16 (by decide) ?_
      obtain ⟨u1, eu1, H⟩ := ok_bind H
      refine r_irem hZ dX11_mayBeBuilt_17 (nz_ne eu1) ?_
      refine r_if_ne (tgt := 29) hZ dX11_mayBeBuilt_18 (by decide) (fun c9 => ?_) (fun c9 => ?_)
      · have H := ok_f H c9
        refine r_iconst (v := (J 0)) hZ dX11_mayBeBuilt_29 (by decide) ?_
        have H := ok_some H
        subst H
        exact r_zret hZ hF (by decide) dX11_mayBeBuilt_30
      · have H := ok_t H c9
        refine r_iload_n hZ dX11_mayBeBuilt_21 rfl ?_
        refine r_iload_n hZ dX11_mayBeBuilt_22 rfl ?_
        refine r_iadd hZ dX11_mayBeBuilt_23 ?_
        refine r_iload_n hZ dX11_mayBeBuilt_24 rfl ?_
        obtain ⟨u2, eu2, H⟩ := ok_bind H
        refine r_irem hZ dX11_mayBeBuilt_25 (nz_ne eu2) ?_
        refine r_if_eq (tgt := 31) hZ dX11_mayBeBuilt_26 (by decide) (fun c8 => ?_) (fun c8 => ?_)
        · have H := ok_t H c8
          refine r_iload_n hZ dX11_mayBeBuilt_31 rfl ?_
          refine r_iload_n hZ dX11_mayBeBuilt_32 rfl ?_
          refine r_isub hZ dX11_mayBeBuilt_33 ?_
          refine r_iconst (v := (J 2)) hZ dX11_mayBeBuilt_34 (by decide) ?_
          obtain ⟨u3, eu3, H⟩ := ok_bind H
          refine r_idiv hZ dX11_mayBeBuilt_35 (nz_ne eu3) ?_
          obtain ⟨x4, ex4, H⟩ := ok_bind H
          refine r_topi ex4 ?_
          refine r_istore_n hZ dX11_mayBeBuilt_36 (by decide) (r_pick [0, 2, 3] (ls' := [(0, .int a0), (2, .int a2), (3, .int x4)]) rfl ?_)
          refine r_iload_n hZ dX11_mayBeBuilt_37 rfl ?_
          refine r_iload_n hZ dX11_mayBeBuilt_38 rfl ?_
          refine r_iconst (v := (J 2)) hZ dX11_mayBeBuilt_39 (by decide) ?_
          refine r_iadd hZ dX11_mayBeBuilt_40 ?_
          refine r_imul hZ dX11_mayBeBuilt_41 ?_
          refine r_iconst (v := (J 3)) hZ dX11_mayBeBuilt_42 (by decide) ?_
          refine r_iload_n hZ dX11_mayBeBuilt_43 rfl ?_
          refine r_iload_n hZ dX11_mayBeBuilt_44 rfl ?_
          refine r_iadd hZ dX11_mayBeBuilt_45 ?_
          refine r_imul hZ dX11_mayBeBuilt_46 ?_
          refine ok_join (Q := fun j5 : Int32 => R Z 55 [] [.int j5] n h 0) H (fun j5 H => ?_) (fun H => ?_)
          · obtain ⟨u7, eu7, H⟩ := ok_bind H
            have H := ok_some H
            subst H
            exact r_zret hZ hF eu7 dX11_mayBeBuilt_55
          · refine r_icmp_gt (tgt := 54) hZ dX11_mayBeBuilt_47 (by decide) (fun c6 => ?_) (fun c6 => ?_)
            · have H := ok_t H c6
              refine r_iconst (v := (J 0)) hZ dX11_mayBeBuilt_54 (by decide) ?_
              have H := ok_some H
              exact r_pick [] (ls' := []) rfl H
            · have H := ok_f H c6
              refine r_iconst (v := (J 1)) hZ dX11_mayBeBuilt_50 (by decide) ?_
              refine r_goto (tgt := 55) hZ dX11_mayBeBuilt_51 (by decide) ?_
              have H := ok_some H
              exact r_pick [] (ls' := []) rfl H
        · have H := ok_f H c8
          refine r_iconst (v := (J 0)) hZ dX11_mayBeBuilt_29 (by decide) ?_
          have H := ok_some H
          subst H
          exact r_zret hZ hF (by decide) dX11_mayBeBuilt_30
def f_X11_planets  (a0 : Nat) (a1 : Int32) (a2 : Int32) (a3 : Int32) : Option (Int32) :=
  (f_X11_areSunAndRing a1 a2).bind fun r1 =>
  (if r1 = 0 then
    some (J (-1))
  else
    (f_X11_isWithin a3 (J 1) (J 12)).bind fun r2 =>
    (if r2 = 0 then
      some (J (-1))
    else
      (f_X11_mayBeBuilt a1 a2 a3).bind fun r3 =>
      ((if r3 = 0 then
        some (J (-4))
      else
        (nz (J 2)).bind fun u5 =>
        some ((a2 - a1) / (J 2)))).bind fun (j4 : Int32) =>
      some j4))
set_option maxRecDepth 100000 in
set_option maxHeartbeats 4000000 in
theorem s_X11_planets {n : Nat} {h : Hp} {a0 : Nat} {a1 : Int32} {a2 : Int32} {a3 : Int32}  {r : Int32} (hf : f_X11_planets  a0 a1 a2 a3 = some r) : Ev 4 yX11_planets cX11_planets 4 (some .int) [.ref a0, .int a1, .int a2, .int a3] n h (some (.int r)) n h := by
  refine Ev_of RX11 rfl (by decide) (Nat.le_of_ble_eq_true rfl) (Nat.le_refl _) (Or.inl rfl) (fun Z hZ hF hN hI => ?_)
  have H : Ok (f_X11_planets  a0 a1 a2 a3) (fun y => y = r) := ⟨_, hf, rfl⟩
  unfold f_X11_planets at H
  refine r_ls (ls' := [(0, .ref a0), (1, .int a1), (2, .int a2), (3, .int a3)]) rfl ?_
  refine r_iload_n hZ dX11_planets_0 rfl ?_
  refine r_iload_n hZ dX11_planets_1 rfl ?_
  obtain ⟨r1, er1, H⟩ := ok_bind H
  refine r_callS (As := [.int a1, .int a2]) (rest := []) (st1 := [.int r1]) (N2 := 0) hZ dX11_planets_2 cw_X11_216 (s_X11_areSunAndRing er1) rfl rfl (by decide) (Nat.le_of_ble_eq_true rfl) (Nat.le_refl 0) (Nat.le_refl _) (Or.inl rfl) rfl ?_
  refine r_if_eq (tgt := 18) hZ dX11_planets_5 (by decide) (fun c8 => ?_) (fun c8 => ?_)
  · have H := ok_t H c8
    refine r_iconst (v := (J (-1))) hZ dX11_planets_18 (by decide) ?_
    have H := ok_some H
    subst H
    exact r_iret hZ hF dX11_planets_19
  · have H := ok_f H c8
    refine r_iload_n hZ dX11_planets_8 rfl ?_
    refine r_iconst (v := (J 1)) hZ dX11_planets_9 (by decide) ?_
    refine r_bipush (v := (J 12)) hZ dX11_planets_10 (by decide) ?_
    obtain ⟨r2, er2, H⟩ := ok_bind H
    refine r_callS (As := [.int a3, .int (J 1), .int (J 12)]) (rest := []) (st1 := [.int r2]) (N2 := 0) hZ dX11_planets_12 cw_X11_170 (s_X11_isWithin er2) rfl rfl (by decide) (Nat.le_of_ble_eq_true rfl) (Nat.le_refl 0) (Nat.le_refl _) (Or.inl rfl) rfl ?_
    refine r_if_ne (tgt := 20) hZ dX11_planets_15 (by decide) (fun c7 => ?_) (fun c7 => ?_)
    · have H := ok_f H c7
      refine r_iload_n hZ dX11_planets_20 rfl ?_
      refine r_iload_n hZ dX11_planets_21 rfl ?_
      refine r_iload_n hZ dX11_planets_22 rfl ?_
      obtain ⟨r3, er3, H⟩ := ok_bind H
      refine r_callS (As := [.int a1, .int a2, .int a3]) (rest := []) (st1 := [.int r3]) (N2 := 0) hZ dX11_planets_23 cw_X11_220 (s_X11_mayBeBuilt er3) rfl rfl (by decide) (Nat.le_of_ble_eq_true rfl) (Nat.le_refl 0) (Nat.le_refl _) (Or.inl rfl) rfl ?_
      refine ok_join (Q := fun j4 : Int32 => R Z 39 [] [.int j4] n h 0) H (fun j4 H => ?_) (fun H => ?_)
      · have H := ok_some H
        subst H
        exact r_iret hZ hF dX11_planets_39
      · refine r_if_eq (tgt := 37) hZ dX11_planets_26 (by decide) (fun c6 => ?_) (fun c6 => ?_)
        · have H := ok_t H c6
          refine r_bipush (v := (J (-4))) hZ dX11_planets_37 (by decide) ?_
          have H := ok_some H
          exact r_pick [] (ls' := []) rfl H
        · have H := ok_f H c6
          refine r_iload_n hZ dX11_planets_29 rfl ?_
          refine r_iload_n hZ dX11_planets_30 rfl ?_
          refine r_isub hZ dX11_planets_31 ?_
          refine r_iconst (v := (J 2)) hZ dX11_planets_32 (by decide) ?_
          obtain ⟨u5, eu5, H⟩ := ok_bind H
          refine r_idiv hZ dX11_planets_33 (nz_ne eu5) ?_
          refine r_goto (tgt := 39) hZ dX11_planets_34 (by decide) ?_
          have H := ok_some H
          exact r_pick [] (ls' := []) rfl H
    · have H := ok_t H c7
      refine r_iconst (v := (J (-1))) hZ dX11_planets_18 (by decide) ?_
      have H := ok_some H
      subst H
      exact r_iret hZ hF dX11_planets_19
def b_X11_most_13 (p1 : Int32) (p2 : Int32) (s : Int32) : Option ((Int32) ⊕ ((Unit) ⊕ (Int32))) :=
  (if s < (J 1) then
    some (.inr (.inl ()))
  else
    (f_X11_mayBeBuilt p1 p2 s).bind fun r1 =>
    (if r1 = 0 then
      (some (s + (J (-1)))).bind fun x2 =>
      some (.inl x2)
    else
      some (.inr (.inr s))))
set_option maxRecDepth 100000 in
set_option maxHeartbeats 4000000 in
theorem l_X11_most_13 {Z : Zc} (hZ : Fx cX11_most RX11 4 4 0 Z) {n : Nat} {h : Hp} {p1 : Int32} {p2 : Int32} {P : ((Unit) ⊕ (Int32)) → Prop} (hx0 : ∀ e : Unit, P (.inl e) → R Z 35 [] [] n h 0) (hx1 : ∀ e : Int32, P (.inr e) → R Z 27 [(3, .int e)] [] n h 0) : ∀ (m : Nat) (s : Int32), Ok (iter (b_X11_most_13 p1 p2) m s) P → R Z 13 [(1, .int p1), (2, .int p2), (3, .int s)] [] n h 0 := by
  intro m
  induction m with
  | zero => exact fun s H => ok_iter0 H
  | succ m ih =>
    intro s H
    have H := ok_iter H
    unfold b_X11_most_13 at H
    refine r_iload_n hZ dX11_most_13 rfl ?_
    refine r_iconst (v := (J 1)) hZ dX11_most_14 (by decide) ?_
    refine r_icmp_lt (tgt := 35) hZ dX11_most_15 (by decide) (fun c4 => ?_) (fun c4 => ?_)
    · have H := ok_t H c4
      exact r_pick [] (ls' := []) rfl (hx0 _ (ki_r H))
    · have H := ok_f H c4
      refine r_iload_n hZ dX11_most_18 rfl ?_
      refine r_iload_n hZ dX11_most_19 rfl ?_
      refine r_iload_n hZ dX11_most_20 rfl ?_
      obtain ⟨r1, er1, H⟩ := ok_bind H
      refine r_callS (As := [.int p1, .int p2, .int s]) (rest := []) (st1 := [.int r1]) (N2 := 0) hZ dX11_most_21 cw_X11_220 (s_X11_mayBeBuilt er1) rfl rfl (by decide) (Nat.le_of_ble_eq_true rfl) (Nat.le_refl 0) (Nat.le_refl _) (Or.inl rfl) rfl ?_
      refine r_if_eq (tgt := 29) hZ dX11_most_24 (by decide) (fun c3 => ?_) (fun c3 => ?_)
      · have H := ok_t H c3
        obtain ⟨x2, ex2, H⟩ := ok_bind H
        refine r_iincE (w := (J (-1))) hZ dX11_most_29 (by decide) rfl (by decide) ex2 (r_pick [1, 2, 3] (ls' := [(1, .int p1), (2, .int p2), (3, .int x2)]) rfl ?_)
        refine r_goto (tgt := 13) hZ dX11_most_32 (by decide) ?_
        exact r_pick [1, 2, 3] (ls' := [(1, .int p1), (2, .int p2), (3, .int x2)]) rfl (ih _ (ki_l H))
      · have H := ok_f H c3
        exact r_pick [3] (ls' := [(3, .int s)]) rfl (hx1 _ (ki_r H))
def f_X11_most  (a0 : Nat) (a1 : Int32) (a2 : Int32) : Option (Int32) :=
  (f_X11_areSunAndRing a1 a2).bind fun r1 =>
  (if r1 = 0 then
    some (J (-1))
  else
    (some (J 12)).bind fun x2 =>
    (iter (b_X11_most_13 a1 a2) FU x2).bind fun e3 =>
    (match e3 with
    | .inl e4 =>
      some (J (-4))
    | .inr e5 =>
      some e5))
set_option maxRecDepth 100000 in
set_option maxHeartbeats 4000000 in
theorem s_X11_most {n : Nat} {h : Hp} {a0 : Nat} {a1 : Int32} {a2 : Int32}  {r : Int32} (hf : f_X11_most  a0 a1 a2 = some r) : Ev 4 yX11_most cX11_most 4 (some .int) [.ref a0, .int a1, .int a2] n h (some (.int r)) n h := by
  refine Ev_of RX11 rfl (by decide) (Nat.le_of_ble_eq_true rfl) (Nat.le_refl _) (Or.inl rfl) (fun Z hZ hF hN hI => ?_)
  have H : Ok (f_X11_most  a0 a1 a2) (fun y => y = r) := ⟨_, hf, rfl⟩
  unfold f_X11_most at H
  refine r_ls (ls' := [(0, .ref a0), (1, .int a1), (2, .int a2)]) rfl ?_
  refine r_iload_n hZ dX11_most_0 rfl ?_
  refine r_iload_n hZ dX11_most_1 rfl ?_
  obtain ⟨r1, er1, H⟩ := ok_bind H
  refine r_callS (As := [.int a1, .int a2]) (rest := []) (st1 := [.int r1]) (N2 := 0) hZ dX11_most_2 cw_X11_216 (s_X11_areSunAndRing er1) rfl rfl (by decide) (Nat.le_of_ble_eq_true rfl) (Nat.le_refl 0) (Nat.le_refl _) (Or.inl rfl) rfl ?_
  refine r_if_ne (tgt := 10) hZ dX11_most_5 (by decide) (fun c6 => ?_) (fun c6 => ?_)
  · have H := ok_f H c6
    refine r_bipush (v := (J 12)) hZ dX11_most_10 (by decide) ?_
    obtain ⟨x2, ex2, H⟩ := ok_bind H
    refine r_topi ex2 ?_
    refine r_istore_n hZ dX11_most_12 (by decide) (r_pick [1, 2, 3] (ls' := [(1, .int a1), (2, .int a2), (3, .int x2)]) rfl ?_)
    have H := ok_bindK H
    refine r_pick [1, 2, 3] (ls' := [(1, .int a1), (2, .int a2), (3, .int x2)]) rfl (l_X11_most_13 hZ (fun e4 H => ?_) (fun e5 H => ?_) FU _ H)
    · refine r_bipush (v := (J (-4))) hZ dX11_most_35 (by decide) ?_
      have H := ok_some H
      subst H
      exact r_iret hZ hF dX11_most_37
    · refine r_iload_n hZ dX11_most_27 rfl ?_
      have H := ok_some H
      subst H
      exact r_iret hZ hF dX11_most_28
  · have H := ok_t H c6
    refine r_iconst (v := (J (-1))) hZ dX11_most_8 (by decide) ?_
    have H := ok_some H
    subst H
    exact r_iret hZ hF dX11_most_9
def f_X11_isSteps  (a0 : Int32) : Option (Int32) :=
  (f_X11_isWithin a0 (J 1) (J 32)).bind fun r1 =>
  (bz r1).bind fun u2 =>
  some r1
set_option maxRecDepth 100000 in
set_option maxHeartbeats 4000000 in
theorem s_X11_isSteps {n : Nat} {h : Hp} {a0 : Int32}  {r : Int32} (hf : f_X11_isSteps  a0 = some r) : Ev 3 yX11_isSteps cX11_isSteps 1 (some .boolean) [.int a0] n h (some (.int r)) n h := by
  refine Ev_of RX11 rfl (by decide) (Nat.le_of_ble_eq_true rfl) (Nat.le_refl _) (Or.inl rfl) (fun Z hZ hF hN hI => ?_)
  have H : Ok (f_X11_isSteps  a0) (fun y => y = r) := ⟨_, hf, rfl⟩
  unfold f_X11_isSteps at H
  refine r_ls (ls' := [(0, .int a0)]) rfl ?_
  refine r_iload_n hZ dX11_isSteps_0 rfl ?_
  refine r_iconst (v := (J 1)) hZ dX11_isSteps_1 (by decide) ?_
  refine r_bipush (v := (J 32)) hZ dX11_isSteps_2 (by decide) ?_
  obtain ⟨r1, er1, H⟩ := ok_bind H
  refine r_callS (As := [.int a0, .int (J 1), .int (J 32)]) (rest := []) (st1 := [.int r1]) (N2 := 0) hZ dX11_isSteps_4 cw_X11_170 (s_X11_isWithin er1) rfl rfl (by decide) (Nat.le_of_ble_eq_true rfl) (Nat.le_refl 0) (Nat.le_refl _) (Or.inl rfl) rfl ?_
  obtain ⟨u2, eu2, H⟩ := ok_bind H
  have H := ok_some H
  subst H
  exact r_zret hZ hF eu2 dX11_isSteps_7
def f_X11_cut  (h : Hp) (a0 : Nat) (a1 : Int32) (a2 : Int32) (a3 : Int32) : Option (Int32 × Hp) :=
  (nz (J 100)).bind fun u1 =>
  (some (a3 / (J 100))).bind fun x2 =>
  (nz (J 100)).bind fun u3 =>
  (some ((a3 - a3 / (J 100) * (J 100)) - (J 8))).bind fun x4 =>
  (isO h a0 10).bind fun u5 =>
  (f_X11_isGear h a0 a1).bind fun r6 =>
  (if r6 = 0 then
    some ((J (-1)), h)
  else
    (f_X11_isShelf a2).bind fun r7 =>
    (if r7 = 0 then
      some ((J (-1)), h)
    else
      (f_X11_isSteps x2).bind fun r8 =>
      (if r8 = 0 then
        some ((J (-1)), h)
      else
        (f_X11_isWithin x4 (J (-8)) (J 8)).bind fun r9 =>
        (if r9 = 0 then
          some ((J (-1)), h)
        else
          (gR h a0 10 8).bind fun x10 =>
          (aR h x10 4 a2).bind fun x11 =>
          (isO h x11 7).bind fun u12 =>
          (f_X8_cutterRefusal h x11).bind fun r13 =>
          (if r13 = 0 then
            (gR h a0 10 0).bind fun x14 =>
            (gR h x14 3 0).bind fun x15 =>
            (aR h x15 3 a1).bind fun x16 =>
            (gR h a0 10 8).bind fun x17 =>
            (aR h x17 4 a2).bind fun x18 =>
            (gR h x18 7 4).bind fun x19 =>
            (isO h x16 0).bind fun u20 =>
            (f_X0_cutBy h x16 x19 x4 x2).bind fun r21 =>
            (gR r21 a0 10 0).bind fun x22 =>
            (gR r21 x22 3 0).bind fun x23 =>
            (aR r21 x23 3 a1).bind fun x24 =>
            (isO r21 x24 0).bind fun u25 =>
            (f_X0_thin r21 x24).bind fun r26 =>
            some (r26, r21)
          else
            some (r13, h))))))
set_option maxRecDepth 100000 in
set_option maxHeartbeats 4000000 in
theorem s_X11_cut {n : Nat} {h : Hp} {a0 : Nat} {a1 : Int32} {a2 : Int32} {a3 : Int32}  {r : Int32 × Hp} (hf : f_X11_cut  h a0 a1 a2 a3 = some r) : Ev 6 yX11_cut cX11_cut 7 (some .int) [.ref a0, .int a1, .int a2, .int a3] n h (some (.int r.1)) n r.2 := by
  refine Ev_of RX11 rfl (by decide) (Nat.le_of_ble_eq_true rfl) (Nat.le_refl _) (Or.inl rfl) (fun Z hZ hF hN hI => ?_)
  have H : Ok (f_X11_cut  h a0 a1 a2 a3) (fun y => y = r) := ⟨_, hf, rfl⟩
  unfold f_X11_cut at H
  refine r_ls (ls' := [(0, .ref a0), (1, .int a1), (2, .int a2), (3, .int a3)]) rfl ?_
  refine r_iload_n hZ dX11_cut_0 rfl ?_
  refine r_bipush (v := (J 100)) hZ dX11_cut_1 (by decide) ?_
  obtain ⟨u1, eu1, H⟩ := ok_bind H
  refine r_idiv hZ dX11_cut_3 (nz_ne eu1) ?_
  obtain ⟨x2, ex2, H⟩ := ok_bind H
  refine r_topi ex2 ?_
  refine r_istore hZ dX11_cut_4 (by decide) (r_pick [0, 1, 2, 3, 4] (ls' := [(0, .ref a0), (1, .int a1), (2, .int a2), (3, .int a3), (4, .int x2)]) rfl ?_)
  refine r_iload_n hZ dX11_cut_6 rfl ?_
  refine r_bipush (v := (J 100)) hZ dX11_cut_7 (by decide) ?_
  obtain ⟨u3, eu3, H⟩ := ok_bind H
  refine r_irem hZ dX11_cut_9 (nz_ne eu3) ?_
  refine r_bipush (v := (J 8)) hZ dX11_cut_10 (by decide) ?_
  refine r_isub hZ dX11_cut_12 ?_
  obtain ⟨x4, ex4, H⟩ := ok_bind H
  refine r_topi ex4 ?_
  refine r_istore hZ dX11_cut_13 (by decide) (r_pick [0, 1, 2, 4, 5] (ls' := [(0, .ref a0), (1, .int a1), (2, .int a2), (4, .int x2), (5, .int x4)]) rfl ?_)
  refine r_aload_n hZ dX11_cut_15 rfl ?_
  refine r_iload_n hZ dX11_cut_16 rfl ?_
  obtain ⟨u5, eu5, H⟩ := ok_bind H
  obtain ⟨r6, er6, H⟩ := ok_bind H
  refine r_callV (As := [.int a1]) (rest := []) (st1 := [.int r6]) (N2 := 0) hZ dX11_cut_17 cw_X11_139_X11 rfl eu5 (s_X11_isGear er6) rfl rfl (by decide) (Nat.le_of_ble_eq_true rfl) (Nat.le_refl 0) (Nat.le_refl _) (Or.inl rfl) rfl ?_
  refine r_if_eq (tgt := 50) hZ dX11_cut_20 (by decide) (fun c31 => ?_) (fun c31 => ?_)
  · have H := ok_t H c31
    refine r_iconst (v := (J (-1))) hZ dX11_cut_50 (by decide) ?_
    have H := ok_some H
    subst H
    exact r_iret hZ hF dX11_cut_51
  · have H := ok_f H c31
    refine r_iload_n hZ dX11_cut_23 rfl ?_
    obtain ⟨r7, er7, H⟩ := ok_bind H
    refine r_callS (As := [.int a2]) (rest := []) (st1 := [.int r7]) (N2 := 0) hZ dX11_cut_24 cw_X11_94 (s_X11_isShelf er7) rfl rfl (by decide) (Nat.le_of_ble_eq_true rfl) (Nat.le_refl 0) (Nat.le_refl _) (Or.inl rfl) rfl ?_
    refine r_if_eq (tgt := 50) hZ dX11_cut_27 (by decide) (fun c30 => ?_) (fun c30 => ?_)
    · have H := ok_t H c30
      refine r_iconst (v := (J (-1))) hZ dX11_cut_50 (by decide) ?_
      have H := ok_some H
      subst H
      exact r_iret hZ hF dX11_cut_51
    · have H := ok_f H c30
      refine r_iload hZ dX11_cut_30 rfl ?_
      obtain ⟨r8, er8, H⟩ := ok_bind H
      refine r_callS (As := [.int x2]) (rest := []) (st1 := [.int r8]) (N2 := 0) hZ dX11_cut_32 cw_X11_223 (s_X11_isSteps er8) rfl rfl (by decide) (Nat.le_of_ble_eq_true rfl) (Nat.le_refl 0) (Nat.le_refl _) (Or.inl rfl) rfl ?_
      refine r_if_eq (tgt := 50) hZ dX11_cut_35 (by decide) (fun c29 => ?_) (fun c29 => ?_)
      · have H := ok_t H c29
        refine r_iconst (v := (J (-1))) hZ dX11_cut_50 (by decide) ?_
        have H := ok_some H
        subst H
        exact r_iret hZ hF dX11_cut_51
      · have H := ok_f H c29
        refine r_iload hZ dX11_cut_38 rfl ?_
        refine r_bipush (v := (J (-8))) hZ dX11_cut_40 (by decide) ?_
        refine r_bipush (v := (J 8)) hZ dX11_cut_42 (by decide) ?_
        obtain ⟨r9, er9, H⟩ := ok_bind H
        refine r_callS (As := [.int x4, .int (J (-8)), .int (J 8)]) (rest := []) (st1 := [.int r9]) (N2 := 0) hZ dX11_cut_44 cw_X11_170 (s_X11_isWithin er9) rfl rfl (by decide) (Nat.le_of_ble_eq_true rfl) (Nat.le_refl 0) (Nat.le_refl _) (Or.inl rfl) rfl ?_
        refine r_if_ne (tgt := 52) hZ dX11_cut_47 (by decide) (fun c28 => ?_) (fun c28 => ?_)
        · have H := ok_f H c28
          refine r_aload_n hZ dX11_cut_52 rfl ?_
          obtain ⟨x10, ex10, H⟩ := ok_bind H
          refine r_getR hZ fl_X11_44_10 dX11_cut_53 ex10 ?_
          refine r_iload_n hZ dX11_cut_56 rfl ?_
          obtain ⟨x11, ex11, H⟩ := ok_bind H
          refine r_aR hZ dX11_cut_57 ex11 (fun _ => rfl) (Or.inl ⟨_, rfl⟩) ?_
          obtain ⟨u12, eu12, H⟩ := ok_bind H
          obtain ⟨r13, er13, H⟩ := ok_bind H
          refine r_callV (As := []) (rest := []) (st1 := [.int r13]) (N2 := 0) hZ dX11_cut_58 cw_X11_226_X8 rfl eu12 (s_X8_cutterRefusal er13) rfl rfl (by decide) (Nat.le_of_ble_eq_true rfl) (Nat.le_refl 0) (Nat.le_refl _) (Or.inl rfl) rfl ?_
          refine r_istore hZ dX11_cut_61 (by decide) (r_pick [0, 1, 2, 4, 5, 6] (ls' := [(0, .ref a0), (1, .int a1), (2, .int a2), (4, .int x2), (5, .int x4), (6, .int r13)]) rfl ?_)
          refine r_iload hZ dX11_cut_63 rfl ?_
          refine r_if_eq (tgt := 71) hZ dX11_cut_65 (by decide) (fun c27 => ?_) (fun c27 => ?_)
          · have H := ok_t H c27
            refine r_aload_n hZ dX11_cut_71 rfl ?_
            obtain ⟨x14, ex14, H⟩ := ok_bind H
            refine r_getR hZ fl_X11_10_10 dX11_cut_72 ex14 ?_
            obtain ⟨x15, ex15, H⟩ := ok_bind H
            refine r_getR hZ fl_X11_142_3 dX11_cut_75 ex15 ?_
            refine r_iload_n hZ dX11_cut_78 rfl ?_
            obtain ⟨x16, ex16, H⟩ := ok_bind H
            refine r_aR hZ dX11_cut_79 ex16 (fun _ => rfl) (Or.inl ⟨_, rfl⟩) ?_
            refine r_aload_n hZ dX11_cut_80 rfl ?_
            obtain ⟨x17, ex17, H⟩ := ok_bind H
            refine r_getR hZ fl_X11_44_10 dX11_cut_81 ex17 ?_
            refine r_iload_n hZ dX11_cut_84 rfl ?_
            obtain ⟨x18, ex18, H⟩ := ok_bind H
            refine r_aR hZ dX11_cut_85 ex18 (fun _ => rfl) (Or.inl ⟨_, rfl⟩) ?_
            obtain ⟨x19, ex19, H⟩ := ok_bind H
            refine r_getR hZ fl_X11_102_7 dX11_cut_86 ex19 ?_
            refine r_iload hZ dX11_cut_89 rfl ?_
            refine r_iload hZ dX11_cut_91 rfl ?_
            obtain ⟨u20, eu20, H⟩ := ok_bind H
            obtain ⟨r21, er21, H⟩ := ok_bind H
            refine r_callV (As := [.ref x19, .int x4, .int x2]) (rest := []) (st1 := []) (N2 := 0) hZ dX11_cut_93 cw_X11_229_X0 rfl eu20 (s_X0_cutBy er21) rfl rfl (by decide) (Nat.le_of_ble_eq_true rfl) (Nat.le_refl 0) (Nat.le_refl _) (Or.inl rfl) rfl ?_
            refine r_aload_n hZ dX11_cut_96 rfl ?_
            obtain ⟨x22, ex22, H⟩ := ok_bind H
            refine r_getR hZ fl_X11_10_10 dX11_cut_97 ex22 ?_
            obtain ⟨x23, ex23, H⟩ := ok_bind H
            refine r_getR hZ fl_X11_142_3 dX11_cut_100 ex23 ?_
            refine r_iload_n hZ dX11_cut_103 rfl ?_
            obtain ⟨x24, ex24, H⟩ := ok_bind H
            refine r_aR hZ dX11_cut_104 ex24 (fun _ => rfl) (Or.inl ⟨_, rfl⟩) ?_
            obtain ⟨u25, eu25, H⟩ := ok_bind H
            obtain ⟨r26, er26, H⟩ := ok_bind H
            refine r_callV (As := []) (rest := []) (st1 := [.int r26]) (N2 := 0) hZ dX11_cut_105 cw_X11_161_X0 rfl eu25 (s_X0_thin er26) rfl rfl (by decide) (Nat.le_of_ble_eq_true rfl) (Nat.le_refl 0) (Nat.le_refl _) (Or.inl rfl) rfl ?_
            have H := ok_some H
            subst H
            exact r_iret hZ hF dX11_cut_108
          · have H := ok_f H c27
            refine r_iload hZ dX11_cut_68 rfl ?_
            have H := ok_some H
            subst H
            exact r_iret hZ hF dX11_cut_70
        · have H := ok_t H c28
          refine r_iconst (v := (J (-1))) hZ dX11_cut_50 (by decide) ?_
          have H := ok_some H
          subst H
          exact r_iret hZ hF dX11_cut_51
def f_X11_rollAsItIs  (h : Hp) (a0 : Nat) (a1 : Int32) : Option (Hp) :=
  (gR h a0 10 14).bind fun x1 =>
  (gR h a0 10 0).bind fun x2 =>
  (gR h x2 3 0).bind fun x3 =>
  (gR h a0 10 0).bind fun x4 =>
  (gR h x4 3 2).bind fun x5 =>
  (aI h x5 a1).bind fun x6 =>
  (aR h x3 3 x6).bind fun x7 =>
  (gR h a0 10 0).bind fun x8 =>
  (gR h x8 3 0).bind fun x9 =>
  (gR h a0 10 0).bind fun x10 =>
  (gR h x10 3 3).bind fun x11 =>
  (aI h x11 a1).bind fun x12 =>
  (aR h x9 3 x12).bind fun x13 =>
  (gR h a0 10 0).bind fun x14 =>
  (gR h x14 3 4).bind fun x15 =>
  (aI h x15 a1).bind fun x16 =>
  (isO h x1 4).bind fun u17 =>
  (f_X5_roll h x1 x7 x13 x16).bind fun r18 =>
  some r18
set_option maxRecDepth 100000 in
set_option maxHeartbeats 4000000 in
theorem s_X11_rollAsItIs {n : Nat} {h : Hp} {a0 : Nat} {a1 : Int32}  {r : Hp} (hf : f_X11_rollAsItIs  h a0 a1 = some r) : Ev 7 yX11_rollAsItIs cX11_rollAsItIs 2 none [.ref a0, .int a1] n h none n r := by
  refine Ev_of RX11 rfl (by decide) (Nat.le_of_ble_eq_true rfl) (Nat.le_refl _) (Or.inl rfl) (fun Z hZ hF hN hI => ?_)
  have H : Ok (f_X11_rollAsItIs  h a0 a1) (fun y => y = r) := ⟨_, hf, rfl⟩
  unfold f_X11_rollAsItIs at H
  refine r_ls (ls' := [(0, .ref a0), (1, .int a1)]) rfl ?_
  refine r_aload_n hZ dX11_rollAsItIs_0 rfl ?_
  obtain ⟨x1, ex1, H⟩ := ok_bind H
  refine r_getR hZ fl_X11_82_10 dX11_rollAsItIs_1 ex1 ?_
  refine r_aload_n hZ dX11_rollAsItIs_4 rfl ?_
  obtain ⟨x2, ex2, H⟩ := ok_bind H
  refine r_getR hZ fl_X11_10_10 dX11_rollAsItIs_5 ex2 ?_
  obtain ⟨x3, ex3, H⟩ := ok_bind H
  refine r_getR hZ fl_X11_142_3 dX11_rollAsItIs_8 ex3 ?_
  refine r_aload_n hZ dX11_rollAsItIs_11 rfl ?_
  obtain ⟨x4, ex4, H⟩ := ok_bind H
  refine r_getR hZ fl_X11_10_10 dX11_rollAsItIs_12 ex4 ?_
  obtain ⟨x5, ex5, H⟩ := ok_bind H
  refine r_getR hZ fl_X11_180_3 dX11_rollAsItIs_15 ex5 ?_
  refine r_iload_n hZ dX11_rollAsItIs_18 rfl ?_
  obtain ⟨x6, ex6, H⟩ := ok_bind H
  refine r_aI hZ dX11_rollAsItIs_19 ex6 ?_
  obtain ⟨x7, ex7, H⟩ := ok_bind H
  refine r_aR hZ dX11_rollAsItIs_20 ex7 (fun _ => rfl) (Or.inl ⟨_, rfl⟩) ?_
  refine r_aload_n hZ dX11_rollAsItIs_21 rfl ?_
  obtain ⟨x8, ex8, H⟩ := ok_bind H
  refine r_getR hZ fl_X11_10_10 dX11_rollAsItIs_22 ex8 ?_
  obtain ⟨x9, ex9, H⟩ := ok_bind H
  refine r_getR hZ fl_X11_142_3 dX11_rollAsItIs_25 ex9 ?_
  refine r_aload_n hZ dX11_rollAsItIs_28 rfl ?_
  obtain ⟨x10, ex10, H⟩ := ok_bind H
  refine r_getR hZ fl_X11_10_10 dX11_rollAsItIs_29 ex10 ?_
  obtain ⟨x11, ex11, H⟩ := ok_bind H
  refine r_getR hZ fl_X11_183_3 dX11_rollAsItIs_32 ex11 ?_
  refine r_iload_n hZ dX11_rollAsItIs_35 rfl ?_
  obtain ⟨x12, ex12, H⟩ := ok_bind H
  refine r_aI hZ dX11_rollAsItIs_36 ex12 ?_
  obtain ⟨x13, ex13, H⟩ := ok_bind H
  refine r_aR hZ dX11_rollAsItIs_37 ex13 (fun _ => rfl) (Or.inl ⟨_, rfl⟩) ?_
  refine r_aload_n hZ dX11_rollAsItIs_38 rfl ?_
  obtain ⟨x14, ex14, H⟩ := ok_bind H
  refine r_getR hZ fl_X11_10_10 dX11_rollAsItIs_39 ex14 ?_
  obtain ⟨x15, ex15, H⟩ := ok_bind H
  refine r_getR hZ fl_X11_186_3 dX11_rollAsItIs_42 ex15 ?_
  refine r_iload_n hZ dX11_rollAsItIs_45 rfl ?_
  obtain ⟨x16, ex16, H⟩ := ok_bind H
  refine r_aI hZ dX11_rollAsItIs_46 ex16 ?_
  obtain ⟨u17, eu17, H⟩ := ok_bind H
  obtain ⟨r18, er18, H⟩ := ok_bind H
  refine r_callV (As := [.ref x7, .ref x13, .int x16]) (rest := []) (st1 := []) (N2 := 0) hZ dX11_rollAsItIs_47 cw_X11_428_X5 rfl eu17 (s_X5_roll er18) rfl rfl (by decide) (Nat.le_of_ble_eq_true rfl) (Nat.le_refl 0) (Nat.le_refl _) (Or.inl rfl) rfl ?_
  have H := ok_some H
  subst H
  exact r_ret hZ hF dX11_rollAsItIs_50
def f_X11_off  (h : Hp) (a0 : Nat) (a1 : Int32) (a2 : Int32) : Option (Int32 × Hp) :=
  (isO h a0 10).bind fun u1 =>
  (f_X11_isMesh h a0 a1).bind fun r2 =>
  (if r2 = 0 then
    some ((J (-1000000001)), h)
  else
    (f_X11_isWithin a2 (J 0) (J 15)).bind fun r3 =>
    (if r3 = 0 then
      some ((J (-1000000001)), h)
    else
      (isO h a0 10).bind fun u4 =>
      (f_X11_rollAsItIs h a0 a1).bind fun r5 =>
      (gR r5 a0 10 14).bind fun x6 =>
      (gR r5 x6 4 3).bind fun x7 =>
      (aI r5 x7 a2).bind fun x8 =>
      some (x8, r5)))
set_option maxRecDepth 100000 in
set_option maxHeartbeats 4000000 in
theorem s_X11_off {n : Nat} {h : Hp} {a0 : Nat} {a1 : Int32} {a2 : Int32}  {r : Int32 × Hp} (hf : f_X11_off  h a0 a1 a2 = some r) : Ev 8 yX11_off cX11_off 3 (some .int) [.ref a0, .int a1, .int a2] n h (some (.int r.1)) n r.2 := by
  refine Ev_of RX11 rfl (by decide) (Nat.le_of_ble_eq_true rfl) (Nat.le_refl _) (Or.inl rfl) (fun Z hZ hF hN hI => ?_)
  have H : Ok (f_X11_off  h a0 a1 a2) (fun y => y = r) := ⟨_, hf, rfl⟩
  unfold f_X11_off at H
  refine r_ls (ls' := [(0, .ref a0), (1, .int a1), (2, .int a2)]) rfl ?_
  refine r_aload_n hZ dX11_off_0 rfl ?_
  refine r_iload_n hZ dX11_off_1 rfl ?_
  obtain ⟨u1, eu1, H⟩ := ok_bind H
  obtain ⟨r2, er2, H⟩ := ok_bind H
  refine r_callV (As := [.int a1]) (rest := []) (st1 := [.int r2]) (N2 := 0) hZ dX11_off_2 cw_X11_177_X11 rfl eu1 (s_X11_isMesh er2) rfl rfl (by decide) (Nat.le_of_ble_eq_true rfl) (Nat.le_refl 0) (Nat.le_refl _) (Or.inl rfl) rfl ?_
  refine r_if_eq (tgt := 18) hZ dX11_off_5 (by decide) (fun c10 => ?_) (fun c10 => ?_)
  · have H := ok_t H c10
    refine r_ldc (v := (J (-1000000001))) hZ wc_X11_233 dX11_off_18 ?_
    have H := ok_some H
    subst H
    exact r_iret hZ hF dX11_off_20
  · have H := ok_f H c10
    refine r_iload_n hZ dX11_off_8 rfl ?_
    refine r_iconst (v := (J 0)) hZ dX11_off_9 (by decide) ?_
    refine r_bipush (v := (J 15)) hZ dX11_off_10 (by decide) ?_
    obtain ⟨r3, er3, H⟩ := ok_bind H
    refine r_callS (As := [.int a2, .int (J 0), .int (J 15)]) (rest := []) (st1 := [.int r3]) (N2 := 0) hZ dX11_off_12 cw_X11_170 (s_X11_isWithin er3) rfl rfl (by decide) (Nat.le_of_ble_eq_true rfl) (Nat.le_refl 0) (Nat.le_refl _) (Or.inl rfl) rfl ?_
    refine r_if_ne (tgt := 21) hZ dX11_off_15 (by decide) (fun c9 => ?_) (fun c9 => ?_)
    · have H := ok_f H c9
      refine r_aload_n hZ dX11_off_21 rfl ?_
      refine r_iload_n hZ dX11_off_22 rfl ?_
      obtain ⟨u4, eu4, H⟩ := ok_bind H
      obtain ⟨r5, er5, H⟩ := ok_bind H
      refine r_callV (As := [.int a1]) (rest := []) (st1 := []) (N2 := 0) hZ dX11_off_23 cw_X11_234_X11 rfl eu4 (s_X11_rollAsItIs er5) rfl rfl (by decide) (Nat.le_of_ble_eq_true rfl) (Nat.le_refl 0) (Nat.le_refl _) (Or.inl rfl) rfl ?_
      refine r_aload_n hZ dX11_off_26 rfl ?_
      obtain ⟨x6, ex6, H⟩ := ok_bind H
      refine r_getR hZ fl_X11_82_10 dX11_off_27 ex6 ?_
      obtain ⟨x7, ex7, H⟩ := ok_bind H
      refine r_getR hZ fl_X11_238_4 dX11_off_30 ex7 ?_
      refine r_iload_n hZ dX11_off_33 rfl ?_
      obtain ⟨x8, ex8, H⟩ := ok_bind H
      refine r_aI hZ dX11_off_34 ex8 ?_
      have H := ok_some H
      subst H
      exact r_iret hZ hF dX11_off_35
    · have H := ok_t H c9
      refine r_ldc (v := (J (-1000000001))) hZ wc_X11_233 dX11_off_18 ?_
      have H := ok_some H
      subst H
      exact r_iret hZ hF dX11_off_20
def f_X11_touch  (h : Hp) (a0 : Nat) (a1 : Int32) (a2 : Int32) : Option (Int32 × Hp) :=
  (isO h a0 10).bind fun u1 =>
  (f_X11_isMesh h a0 a1).bind fun r2 =>
  (if r2 = 0 then
    some ((J (-1)), h)
  else
    (f_X11_isWithin a2 (J 0) (J 15)).bind fun r3 =>
    (if r3 = 0 then
      some ((J (-1)), h)
    else
      (isO h a0 10).bind fun u4 =>
      (f_X11_rollAsItIs h a0 a1).bind fun r5 =>
      (gR r5 a0 10 14).bind fun x6 =>
      (isO r5 x6 4).bind fun u7 =>
      (f_X5_touchAt r5 x6 a2).bind fun r8 =>
      some (r8, r5)))
set_option maxRecDepth 100000 in
set_option maxHeartbeats 4000000 in
theorem s_X11_touch {n : Nat} {h : Hp} {a0 : Nat} {a1 : Int32} {a2 : Int32}  {r : Int32 × Hp} (hf : f_X11_touch  h a0 a1 a2 = some r) : Ev 8 yX11_touch cX11_touch 3 (some .int) [.ref a0, .int a1, .int a2] n h (some (.int r.1)) n r.2 := by
  refine Ev_of RX11 rfl (by decide) (Nat.le_of_ble_eq_true rfl) (Nat.le_refl _) (Or.inl rfl) (fun Z hZ hF hN hI => ?_)
  have H : Ok (f_X11_touch  h a0 a1 a2) (fun y => y = r) := ⟨_, hf, rfl⟩
  unfold f_X11_touch at H
  refine r_ls (ls' := [(0, .ref a0), (1, .int a1), (2, .int a2)]) rfl ?_
  refine r_aload_n hZ dX11_touch_0 rfl ?_
  refine r_iload_n hZ dX11_touch_1 rfl ?_
  obtain ⟨u1, eu1, H⟩ := ok_bind H
  obtain ⟨r2, er2, H⟩ := ok_bind H
  refine r_callV (As := [.int a1]) (rest := []) (st1 := [.int r2]) (N2 := 0) hZ dX11_touch_2 cw_X11_177_X11 rfl eu1 (s_X11_isMesh er2) rfl rfl (by decide) (Nat.le_of_ble_eq_true rfl) (Nat.le_refl 0) (Nat.le_refl _) (Or.inl rfl) rfl ?_
  refine r_if_eq (tgt := 18) hZ dX11_touch_5 (by decide) (fun c10 => ?_) (fun c10 => ?_)
  · have H := ok_t H c10
    refine r_iconst (v := (J (-1))) hZ dX11_touch_18 (by decide) ?_
    have H := ok_some H
    subst H
    exact r_iret hZ hF dX11_touch_19
  · have H := ok_f H c10
    refine r_iload_n hZ dX11_touch_8 rfl ?_
    refine r_iconst (v := (J 0)) hZ dX11_touch_9 (by decide) ?_
    refine r_bipush (v := (J 15)) hZ dX11_touch_10 (by decide) ?_
    obtain ⟨r3, er3, H⟩ := ok_bind H
    refine r_callS (As := [.int a2, .int (J 0), .int (J 15)]) (rest := []) (st1 := [.int r3]) (N2 := 0) hZ dX11_touch_12 cw_X11_170 (s_X11_isWithin er3) rfl rfl (by decide) (Nat.le_of_ble_eq_true rfl) (Nat.le_refl 0) (Nat.le_refl _) (Or.inl rfl) rfl ?_
    refine r_if_ne (tgt := 20) hZ dX11_touch_15 (by decide) (fun c9 => ?_) (fun c9 => ?_)
    · have H := ok_f H c9
      refine r_aload_n hZ dX11_touch_20 rfl ?_
      refine r_iload_n hZ dX11_touch_21 rfl ?_
      obtain ⟨u4, eu4, H⟩ := ok_bind H
      obtain ⟨r5, er5, H⟩ := ok_bind H
      refine r_callV (As := [.int a1]) (rest := []) (st1 := []) (N2 := 0) hZ dX11_touch_22 cw_X11_234_X11 rfl eu4 (s_X11_rollAsItIs er5) rfl rfl (by decide) (Nat.le_of_ble_eq_true rfl) (Nat.le_refl 0) (Nat.le_refl _) (Or.inl rfl) rfl ?_
      refine r_aload_n hZ dX11_touch_25 rfl ?_
      obtain ⟨x6, ex6, H⟩ := ok_bind H
      refine r_getR hZ fl_X11_82_10 dX11_touch_26 ex6 ?_
      refine r_iload_n hZ dX11_touch_29 rfl ?_
      obtain ⟨u7, eu7, H⟩ := ok_bind H
      obtain ⟨r8, er8, H⟩ := ok_bind H
      refine r_callV (As := [.int a2]) (rest := []) (st1 := [.int r8]) (N2 := 0) hZ dX11_touch_30 cw_X11_241_X5 rfl eu7 (s_X5_touchAt er8) rfl rfl (by decide) (Nat.le_of_ble_eq_true rfl) (Nat.le_refl 0) (Nat.le_refl _) (Or.inl rfl) rfl ?_
      have H := ok_some H
      subst H
      exact r_iret hZ hF dX11_touch_33
    · have H := ok_t H c9
      refine r_iconst (v := (J (-1))) hZ dX11_touch_18 (by decide) ?_
      have H := ok_some H
      subst H
      exact r_iret hZ hF dX11_touch_19
def f_X11_jam  (h : Hp) (a0 : Nat) (a1 : Int32) : Option (Int32 × Hp) :=
  (isO h a0 10).bind fun u1 =>
  (f_X11_isMesh h a0 a1).bind fun r2 =>
  (if r2 = 0 then
    some ((J (-1)), h)
  else
    (isO h a0 10).bind fun u3 =>
    (f_X11_rollAsItIs h a0 a1).bind fun r4 =>
    (gR r4 a0 10 14).bind fun x5 =>
    (isO r4 x5 4).bind fun u6 =>
    (f_X5_firstJam r4 x5).bind fun r7 =>
    some (r7, r4))
set_option maxRecDepth 100000 in
set_option maxHeartbeats 4000000 in
theorem s_X11_jam {n : Nat} {h : Hp} {a0 : Nat} {a1 : Int32}  {r : Int32 × Hp} (hf : f_X11_jam  h a0 a1 = some r) : Ev 8 yX11_jam cX11_jam 2 (some .int) [.ref a0, .int a1] n h (some (.int r.1)) n r.2 := by
  refine Ev_of RX11 rfl (by decide) (Nat.le_of_ble_eq_true rfl) (Nat.le_refl _) (Or.inl rfl) (fun Z hZ hF hN hI => ?_)
  have H : Ok (f_X11_jam  h a0 a1) (fun y => y = r) := ⟨_, hf, rfl⟩
  unfold f_X11_jam at H
  refine r_ls (ls' := [(0, .ref a0), (1, .int a1)]) rfl ?_
  refine r_aload_n hZ dX11_jam_0 rfl ?_
  refine r_iload_n hZ dX11_jam_1 rfl ?_
  obtain ⟨u1, eu1, H⟩ := ok_bind H
  obtain ⟨r2, er2, H⟩ := ok_bind H
  refine r_callV (As := [.int a1]) (rest := []) (st1 := [.int r2]) (N2 := 0) hZ dX11_jam_2 cw_X11_177_X11 rfl eu1 (s_X11_isMesh er2) rfl rfl (by decide) (Nat.le_of_ble_eq_true rfl) (Nat.le_refl 0) (Nat.le_refl _) (Or.inl rfl) rfl ?_
  refine r_if_ne (tgt := 10) hZ dX11_jam_5 (by decide) (fun c8 => ?_) (fun c8 => ?_)
  · have H := ok_f H c8
    refine r_aload_n hZ dX11_jam_10 rfl ?_
    refine r_iload_n hZ dX11_jam_11 rfl ?_
    obtain ⟨u3, eu3, H⟩ := ok_bind H
    obtain ⟨r4, er4, H⟩ := ok_bind H
    refine r_callV (As := [.int a1]) (rest := []) (st1 := []) (N2 := 0) hZ dX11_jam_12 cw_X11_234_X11 rfl eu3 (s_X11_rollAsItIs er4) rfl rfl (by decide) (Nat.le_of_ble_eq_true rfl) (Nat.le_refl 0) (Nat.le_refl _) (Or.inl rfl) rfl ?_
    refine r_aload_n hZ dX11_jam_15 rfl ?_
    obtain ⟨x5, ex5, H⟩ := ok_bind H
    refine r_getR hZ fl_X11_82_10 dX11_jam_16 ex5 ?_
    obtain ⟨u6, eu6, H⟩ := ok_bind H
    obtain ⟨r7, er7, H⟩ := ok_bind H
    refine r_callV (As := []) (rest := []) (st1 := [.int r7]) (N2 := 0) hZ dX11_jam_19 cw_X11_245_X5 rfl eu6 (s_X5_firstJam er7) rfl rfl (by decide) (Nat.le_of_ble_eq_true rfl) (Nat.le_refl 0) (Nat.le_refl _) (Or.inl rfl) rfl ?_
    have H := ok_some H
    subst H
    exact r_iret hZ hF dX11_jam_22
  · have H := ok_t H c8
    refine r_iconst (v := (J (-1))) hZ dX11_jam_8 (by decide) ?_
    have H := ok_some H
    subst H
    exact r_iret hZ hF dX11_jam_9
def f_X11_gap  (h : Hp) (a0 : Nat) (a1 : Int32) : Option (Int32 × Hp) :=
  (isO h a0 10).bind fun u1 =>
  (f_X11_isMesh h a0 a1).bind fun r2 =>
  (if r2 = 0 then
    some ((J (-1000000001)), h)
  else
    (isO h a0 10).bind fun u3 =>
    (f_X11_rollAsItIs h a0 a1).bind fun r4 =>
    (gR r4 a0 10 14).bind fun x5 =>
    (isO r4 x5 4).bind fun u6 =>
    (f_X5_leastOff r4 x5).bind fun r7 =>
    some (r7, r4))
set_option maxRecDepth 100000 in
set_option maxHeartbeats 4000000 in
theorem s_X11_gap {n : Nat} {h : Hp} {a0 : Nat} {a1 : Int32}  {r : Int32 × Hp} (hf : f_X11_gap  h a0 a1 = some r) : Ev 8 yX11_gap cX11_gap 2 (some .int) [.ref a0, .int a1] n h (some (.int r.1)) n r.2 := by
  refine Ev_of RX11 rfl (by decide) (Nat.le_of_ble_eq_true rfl) (Nat.le_refl _) (Or.inl rfl) (fun Z hZ hF hN hI => ?_)
  have H : Ok (f_X11_gap  h a0 a1) (fun y => y = r) := ⟨_, hf, rfl⟩
  unfold f_X11_gap at H
  refine r_ls (ls' := [(0, .ref a0), (1, .int a1)]) rfl ?_
  refine r_aload_n hZ dX11_gap_0 rfl ?_
  refine r_iload_n hZ dX11_gap_1 rfl ?_
  obtain ⟨u1, eu1, H⟩ := ok_bind H
  obtain ⟨r2, er2, H⟩ := ok_bind H
  refine r_callV (As := [.int a1]) (rest := []) (st1 := [.int r2]) (N2 := 0) hZ dX11_gap_2 cw_X11_177_X11 rfl eu1 (s_X11_isMesh er2) rfl rfl (by decide) (Nat.le_of_ble_eq_true rfl) (Nat.le_refl 0) (Nat.le_refl _) (Or.inl rfl) rfl ?_
  refine r_if_ne (tgt := 11) hZ dX11_gap_5 (by decide) (fun c8 => ?_) (fun c8 => ?_)
  · have H := ok_f H c8
    refine r_aload_n hZ dX11_gap_11 rfl ?_
    refine r_iload_n hZ dX11_gap_12 rfl ?_
    obtain ⟨u3, eu3, H⟩ := ok_bind H
    obtain ⟨r4, er4, H⟩ := ok_bind H
    refine r_callV (As := [.int a1]) (rest := []) (st1 := []) (N2 := 0) hZ dX11_gap_13 cw_X11_234_X11 rfl eu3 (s_X11_rollAsItIs er4) rfl rfl (by decide) (Nat.le_of_ble_eq_true rfl) (Nat.le_refl 0) (Nat.le_refl _) (Or.inl rfl) rfl ?_
    refine r_aload_n hZ dX11_gap_16 rfl ?_
    obtain ⟨x5, ex5, H⟩ := ok_bind H
    refine r_getR hZ fl_X11_82_10 dX11_gap_17 ex5 ?_
    obtain ⟨u6, eu6, H⟩ := ok_bind H
    obtain ⟨r7, er7, H⟩ := ok_bind H
    refine r_callV (As := []) (rest := []) (st1 := [.int r7]) (N2 := 0) hZ dX11_gap_20 cw_X11_248_X5 rfl eu6 (s_X5_leastOff er7) rfl rfl (by decide) (Nat.le_of_ble_eq_true rfl) (Nat.le_refl 0) (Nat.le_refl _) (Or.inl rfl) rfl ?_
    have H := ok_some H
    subst H
    exact r_iret hZ hF dX11_gap_23
  · have H := ok_t H c8
    refine r_ldc (v := (J (-1000000001))) hZ wc_X11_233 dX11_gap_8 ?_
    have H := ok_some H
    subst H
    exact r_iret hZ hF dX11_gap_10
def f_X11_even  (h : Hp) (a0 : Nat) (a1 : Int32) : Option (Int32 × Hp) :=
  (isO h a0 10).bind fun u1 =>
  (f_X11_isMesh h a0 a1).bind fun r2 =>
  (if r2 = 0 then
    some ((J (-1)), h)
  else
    (isO h a0 10).bind fun u3 =>
    (f_X11_rollAsItIs h a0 a1).bind fun r4 =>
    (gR r4 a0 10 14).bind fun x5 =>
    (isO r4 x5 4).bind fun u6 =>
    (f_X5_spread r4 x5).bind fun r7 =>
    some (r7, r4))
set_option maxRecDepth 100000 in
set_option maxHeartbeats 4000000 in
theorem s_X11_even {n : Nat} {h : Hp} {a0 : Nat} {a1 : Int32}  {r : Int32 × Hp} (hf : f_X11_even  h a0 a1 = some r) : Ev 8 yX11_even cX11_even 2 (some .int) [.ref a0, .int a1] n h (some (.int r.1)) n r.2 := by
  refine Ev_of RX11 rfl (by decide) (Nat.le_of_ble_eq_true rfl) (Nat.le_refl _) (Or.inl rfl) (fun Z hZ hF hN hI => ?_)
  have H : Ok (f_X11_even  h a0 a1) (fun y => y = r) := ⟨_, hf, rfl⟩
  unfold f_X11_even at H
  refine r_ls (ls' := [(0, .ref a0), (1, .int a1)]) rfl ?_
  refine r_aload_n hZ dX11_even_0 rfl ?_
  refine r_iload_n hZ dX11_even_1 rfl ?_
  obtain ⟨u1, eu1, H⟩ := ok_bind H
  obtain ⟨r2, er2, H⟩ := ok_bind H
  refine r_callV (As := [.int a1]) (rest := []) (st1 := [.int r2]) (N2 := 0) hZ dX11_even_2 cw_X11_177_X11 rfl eu1 (s_X11_isMesh er2) rfl rfl (by decide) (Nat.le_of_ble_eq_true rfl) (Nat.le_refl 0) (Nat.le_refl _) (Or.inl rfl) rfl ?_
  refine r_if_ne (tgt := 10) hZ dX11_even_5 (by decide) (fun c8 => ?_) (fun c8 => ?_)
  · have H := ok_f H c8
    refine r_aload_n hZ dX11_even_10 rfl ?_
    refine r_iload_n hZ dX11_even_11 rfl ?_
    obtain ⟨u3, eu3, H⟩ := ok_bind H
    obtain ⟨r4, er4, H⟩ := ok_bind H
    refine r_callV (As := [.int a1]) (rest := []) (st1 := []) (N2 := 0) hZ dX11_even_12 cw_X11_234_X11 rfl eu3 (s_X11_rollAsItIs er4) rfl rfl (by decide) (Nat.le_of_ble_eq_true rfl) (Nat.le_refl 0) (Nat.le_refl _) (Or.inl rfl) rfl ?_
    refine r_aload_n hZ dX11_even_15 rfl ?_
    obtain ⟨x5, ex5, H⟩ := ok_bind H
    refine r_getR hZ fl_X11_82_10 dX11_even_16 ex5 ?_
    obtain ⟨u6, eu6, H⟩ := ok_bind H
    obtain ⟨r7, er7, H⟩ := ok_bind H
    refine r_callV (As := []) (rest := []) (st1 := [.int r7]) (N2 := 0) hZ dX11_even_19 cw_X11_251_X5 rfl eu6 (s_X5_spread er7) rfl rfl (by decide) (Nat.le_of_ble_eq_true rfl) (Nat.le_refl 0) (Nat.le_refl _) (Or.inl rfl) rfl ?_
    have H := ok_some H
    subst H
    exact r_iret hZ hF dX11_even_22
  · have H := ok_t H c8
    refine r_iconst (v := (J (-1))) hZ dX11_even_8 (by decide) ?_
    have H := ok_some H
    subst H
    exact r_iret hZ hF dX11_even_9
def f_X11_room  (h : Hp) (a0 : Nat) (a1 : Int32) (a2 : Int32) : Option (Int32 × Hp) :=
  (isO h a0 10).bind fun u1 =>
  (f_X11_isMesh h a0 a1).bind fun r2 =>
  (if r2 = 0 then
    some ((J (-1)), h)
  else
    (f_X11_isWithin a2 (J 0) (J 62)).bind fun r3 =>
    (if r3 = 0 then
      some ((J (-1)), h)
    else
      (gR h a0 10 0).bind fun x4 =>
      (gR h x4 3 4).bind fun x5 =>
      (aI h x5 a1).bind fun x6 =>
      (gR h a0 10 0).bind fun x7 =>
      (gR h x7 3 4).bind fun x8 =>
      (sI h x8 a1 a2).bind fun h9 =>
      some (x6, h9)))
set_option maxRecDepth 100000 in
set_option maxHeartbeats 4000000 in
theorem s_X11_room {n : Nat} {h : Hp} {a0 : Nat} {a1 : Int32} {a2 : Int32}  {r : Int32 × Hp} (hf : f_X11_room  h a0 a1 a2 = some r) : Ev 4 yX11_room cX11_room 4 (some .int) [.ref a0, .int a1, .int a2] n h (some (.int r.1)) n r.2 := by
  refine Ev_of RX11 rfl (by decide) (Nat.le_of_ble_eq_true rfl) (Nat.le_refl _) (Or.inl rfl) (fun Z hZ hF hN hI => ?_)
  have H : Ok (f_X11_room  h a0 a1 a2) (fun y => y = r) := ⟨_, hf, rfl⟩
  unfold f_X11_room at H
  refine r_ls (ls' := [(0, .ref a0), (1, .int a1), (2, .int a2)]) rfl ?_
  refine r_aload_n hZ dX11_room_0 rfl ?_
  refine r_iload_n hZ dX11_room_1 rfl ?_
  obtain ⟨u1, eu1, H⟩ := ok_bind H
  obtain ⟨r2, er2, H⟩ := ok_bind H
  refine r_callV (As := [.int a1]) (rest := []) (st1 := [.int r2]) (N2 := 0) hZ dX11_room_2 cw_X11_177_X11 rfl eu1 (s_X11_isMesh er2) rfl rfl (by decide) (Nat.le_of_ble_eq_true rfl) (Nat.le_refl 0) (Nat.le_refl _) (Or.inl rfl) rfl ?_
  refine r_if_eq (tgt := 18) hZ dX11_room_5 (by decide) (fun c11 => ?_) (fun c11 => ?_)
  · have H := ok_t H c11
    refine r_iconst (v := (J (-1))) hZ dX11_room_18 (by decide) ?_
    have H := ok_some H
    subst H
    exact r_iret hZ hF dX11_room_19
  · have H := ok_f H c11
    refine r_iload_n hZ dX11_room_8 rfl ?_
    refine r_iconst (v := (J 0)) hZ dX11_room_9 (by decide) ?_
    refine r_bipush (v := (J 62)) hZ dX11_room_10 (by decide) ?_
    obtain ⟨r3, er3, H⟩ := ok_bind H
    refine r_callS (As := [.int a2, .int (J 0), .int (J 62)]) (rest := []) (st1 := [.int r3]) (N2 := 0) hZ dX11_room_12 cw_X11_170 (s_X11_isWithin er3) rfl rfl (by decide) (Nat.le_of_ble_eq_true rfl) (Nat.le_refl 0) (Nat.le_refl _) (Or.inl rfl) rfl ?_
    refine r_if_ne (tgt := 20) hZ dX11_room_15 (by decide) (fun c10 => ?_) (fun c10 => ?_)
    · have H := ok_f H c10
      refine r_aload_n hZ dX11_room_20 rfl ?_
      obtain ⟨x4, ex4, H⟩ := ok_bind H
      refine r_getR hZ fl_X11_10_10 dX11_room_21 ex4 ?_
      obtain ⟨x5, ex5, H⟩ := ok_bind H
      refine r_getR hZ fl_X11_186_3 dX11_room_24 ex5 ?_
      refine r_iload_n hZ dX11_room_27 rfl ?_
      obtain ⟨x6, ex6, H⟩ := ok_bind H
      refine r_aI hZ dX11_room_28 ex6 ?_
      refine r_istore_n hZ dX11_room_29 (by decide) (r_pick [0, 1, 2, 3] (ls' := [(0, .ref a0), (1, .int a1), (2, .int a2), (3, .int x6)]) rfl ?_)
      refine r_aload_n hZ dX11_room_30 rfl ?_
      obtain ⟨x7, ex7, H⟩ := ok_bind H
      refine r_getR hZ fl_X11_10_10 dX11_room_31 ex7 ?_
      obtain ⟨x8, ex8, H⟩ := ok_bind H
      refine r_getR hZ fl_X11_186_3 dX11_room_34 ex8 ?_
      refine r_iload_n hZ dX11_room_37 rfl ?_
      refine r_iload_n hZ dX11_room_38 rfl ?_
      obtain ⟨h9, eh9, H⟩ := ok_bind H
      refine r_sI hZ dX11_room_39 eh9 ?_
      refine r_iload_n hZ dX11_room_40 rfl ?_
      have H := ok_some H
      subst H
      exact r_iret hZ hF dX11_room_41
    · have H := ok_t H c10
      refine r_iconst (v := (J (-1))) hZ dX11_room_18 (by decide) ?_
      have H := ok_some H
      subst H
      exact r_iret hZ hF dX11_room_19
def f_X11_isWearLoad  (a0 : Int32) : Option (Int32) :=
  (f_X11_isWithin a0 (J 1) (J 999)).bind fun r1 =>
  (bz r1).bind fun u2 =>
  some r1
set_option maxRecDepth 100000 in
set_option maxHeartbeats 4000000 in
theorem s_X11_isWearLoad {n : Nat} {h : Hp} {a0 : Int32}  {r : Int32} (hf : f_X11_isWearLoad  a0 = some r) : Ev 3 yX11_isWearLoad cX11_isWearLoad 1 (some .boolean) [.int a0] n h (some (.int r)) n h := by
  refine Ev_of RX11 rfl (by decide) (Nat.le_of_ble_eq_true rfl) (Nat.le_refl _) (Or.inl rfl) (fun Z hZ hF hN hI => ?_)
  have H : Ok (f_X11_isWearLoad  a0) (fun y => y = r) := ⟨_, hf, rfl⟩
  unfold f_X11_isWearLoad at H
  refine r_ls (ls' := [(0, .int a0)]) rfl ?_
  refine r_iload_n hZ dX11_isWearLoad_0 rfl ?_
  refine r_iconst (v := (J 1)) hZ dX11_isWearLoad_1 (by decide) ?_
  refine r_sipush (v := (J 999)) hZ dX11_isWearLoad_2 (by decide) ?_
  obtain ⟨r1, er1, H⟩ := ok_bind H
  refine r_callS (As := [.int a0, .int (J 1), .int (J 999)]) (rest := []) (st1 := [.int r1]) (N2 := 0) hZ dX11_isWearLoad_5 cw_X11_170 (s_X11_isWithin er1) rfl rfl (by decide) (Nat.le_of_ble_eq_true rfl) (Nat.le_refl 0) (Nat.le_refl _) (Or.inl rfl) rfl ?_
  obtain ⟨u2, eu2, H⟩ := ok_bind H
  have H := ok_some H
  subst H
  exact r_zret hZ hF eu2 dX11_isWearLoad_8
def b_X11_wear_35 (p0 : Nat) (p2 : Int32) (p3 : Int32) (s : Int32 × Hp) : Option ((Int32 × Hp) ⊕ ((Hp))) :=
  (if p3 ≤ s.1 then
    some (.inr (s.2))
  else
    (gR s.2 p0 10 14).bind fun x1 =>
    (isO s.2 x1 4).bind fun u2 =>
    (f_X5_wearRound s.2 x1 p2).bind fun r3 =>
    (some (s.1 + (J 1))).bind fun x4 =>
    some (.inl (x4, r3)))
set_option maxRecDepth 100000 in
set_option maxHeartbeats 4000000 in
theorem l_X11_wear_35 {Z : Zc} (hZ : Fx cX11_wear RX11 5 8 0 Z) {n : Nat} {p0 : Nat} {p2 : Int32} {p3 : Int32} {P : ((Hp)) → Prop} (hx0 : ∀ e : Hp, P (e) → R Z 55 [(0, .ref p0)] [] n e 0) : ∀ (m : Nat) (s : Int32 × Hp), Ok (iter (b_X11_wear_35 p0 p2 p3) m s) P → R Z 35 [(0, .ref p0), (2, .int p2), (3, .int p3), (4, .int s.1)] [] n s.2 0 := by
  intro m
  induction m with
  | zero => exact fun s H => ok_iter0 H
  | succ m ih =>
    intro s H
    have H := ok_iter H
    unfold b_X11_wear_35 at H
    refine r_iload hZ dX11_wear_35 rfl ?_
    refine r_iload_n hZ dX11_wear_37 rfl ?_
    refine r_icmp_ge (tgt := 55) hZ dX11_wear_38 (by decide) (fun c5 => ?_) (fun c5 => ?_)
    · have H := ok_t H c5
      exact r_pick [0] (ls' := [(0, .ref p0)]) rfl (hx0 _ (ki_r H))
    · have H := ok_f H c5
      refine r_aload_n hZ dX11_wear_41 rfl ?_
      obtain ⟨x1, ex1, H⟩ := ok_bind H
      refine r_getR hZ fl_X11_82_10 dX11_wear_42 ex1 ?_
      refine r_iload_n hZ dX11_wear_45 rfl ?_
      obtain ⟨u2, eu2, H⟩ := ok_bind H
      obtain ⟨r3, er3, H⟩ := ok_bind H
      refine r_callV (As := [.int p2]) (rest := []) (st1 := []) (N2 := 0) hZ dX11_wear_46 cw_X11_257_X5 rfl eu2 (s_X5_wearRound er3) rfl rfl (by decide) (Nat.le_of_ble_eq_true rfl) (Nat.le_refl 0) (Nat.le_refl _) (Or.inl rfl) rfl ?_
      obtain ⟨x4, ex4, H⟩ := ok_bind H
      refine r_iincE (w := (J 1)) hZ dX11_wear_49 (by decide) rfl (by decide) ex4 (r_pick [0, 2, 3, 4] (ls' := [(0, .ref p0), (2, .int p2), (3, .int p3), (4, .int x4)]) rfl ?_)
      refine r_goto (tgt := 35) hZ dX11_wear_52 (by decide) ?_
      exact r_pick [0, 2, 3, 4] (ls' := [(0, .ref p0), (2, .int p2), (3, .int p3), (4, .int x4)]) rfl (ih _ (ki_l H))
def f_X11_wear  (h : Hp) (a0 : Nat) (a1 : Int32) (a2 : Int32) (a3 : Int32) : Option (Int32 × Hp) :=
  (isO h a0 10).bind fun u1 =>
  (f_X11_isMesh h a0 a1).bind fun r2 =>
  (if r2 = 0 then
    some ((J (-1)), h)
  else
    (f_X11_isWearLoad a2).bind fun r3 =>
    (if r3 = 0 then
      some ((J (-1)), h)
    else
      (f_X11_isWithin a3 (J 1) (J 100)).bind fun r4 =>
      (if r4 = 0 then
        some ((J (-1)), h)
      else
        (isO h a0 10).bind fun u5 =>
        (f_X11_rollAsItIs h a0 a1).bind fun r6 =>
        (some (J 0)).bind fun x7 =>
        (iter (b_X11_wear_35 a0 a2 a3) FU (x7, r6)).bind fun e8 =>
        (gR e8 a0 10 14).bind fun x9 =>
        (isO e8 x9 4).bind fun u10 =>
        (f_X5_measure e8 x9).bind fun r11 =>
        (gR r11 a0 10 14).bind fun x12 =>
        (isO r11 x12 4).bind fun u13 =>
        (f_X5_spread r11 x12).bind fun r14 =>
        some (r14, r11))))
set_option maxRecDepth 100000 in
set_option maxHeartbeats 4000000 in
theorem s_X11_wear {n : Nat} {h : Hp} {a0 : Nat} {a1 : Int32} {a2 : Int32} {a3 : Int32}  {r : Int32 × Hp} (hf : f_X11_wear  h a0 a1 a2 a3 = some r) : Ev 8 yX11_wear cX11_wear 5 (some .int) [.ref a0, .int a1, .int a2, .int a3] n h (some (.int r.1)) n r.2 := by
  refine Ev_of RX11 rfl (by decide) (Nat.le_of_ble_eq_true rfl) (Nat.le_refl _) (Or.inl rfl) (fun Z hZ hF hN hI => ?_)
  have H : Ok (f_X11_wear  h a0 a1 a2 a3) (fun y => y = r) := ⟨_, hf, rfl⟩
  unfold f_X11_wear at H
  refine r_ls (ls' := [(0, .ref a0), (1, .int a1), (2, .int a2), (3, .int a3)]) rfl ?_
  refine r_aload_n hZ dX11_wear_0 rfl ?_
  refine r_iload_n hZ dX11_wear_1 rfl ?_
  obtain ⟨u1, eu1, H⟩ := ok_bind H
  obtain ⟨r2, er2, H⟩ := ok_bind H
  refine r_callV (As := [.int a1]) (rest := []) (st1 := [.int r2]) (N2 := 0) hZ dX11_wear_2 cw_X11_177_X11 rfl eu1 (s_X11_isMesh er2) rfl rfl (by decide) (Nat.le_of_ble_eq_true rfl) (Nat.le_refl 0) (Nat.le_refl _) (Or.inl rfl) rfl ?_
  refine r_if_eq (tgt := 25) hZ dX11_wear_5 (by decide) (fun c17 => ?_) (fun c17 => ?_)
  · have H := ok_t H c17
    refine r_iconst (v := (J (-1))) hZ dX11_wear_25 (by decide) ?_
    have H := ok_some H
    subst H
    exact r_iret hZ hF dX11_wear_26
  · have H := ok_f H c17
    refine r_iload_n hZ dX11_wear_8 rfl ?_
    obtain ⟨r3, er3, H⟩ := ok_bind H
    refine r_callS (As := [.int a2]) (rest := []) (st1 := [.int r3]) (N2 := 0) hZ dX11_wear_9 cw_X11_254 (s_X11_isWearLoad er3) rfl rfl (by decide) (Nat.le_of_ble_eq_true rfl) (Nat.le_refl 0) (Nat.le_refl _) (Or.inl rfl) rfl ?_
    refine r_if_eq (tgt := 25) hZ dX11_wear_12 (by decide) (fun c16 => ?_) (fun c16 => ?_)
    · have H := ok_t H c16
      refine r_iconst (v := (J (-1))) hZ dX11_wear_25 (by decide) ?_
      have H := ok_some H
      subst H
      exact r_iret hZ hF dX11_wear_26
    · have H := ok_f H c16
      refine r_iload_n hZ dX11_wear_15 rfl ?_
      refine r_iconst (v := (J 1)) hZ dX11_wear_16 (by decide) ?_
      refine r_bipush (v := (J 100)) hZ dX11_wear_17 (by decide) ?_
      obtain ⟨r4, er4, H⟩ := ok_bind H
      refine r_callS (As := [.int a3, .int (J 1), .int (J 100)]) (rest := []) (st1 := [.int r4]) (N2 := 0) hZ dX11_wear_19 cw_X11_170 (s_X11_isWithin er4) rfl rfl (by decide) (Nat.le_of_ble_eq_true rfl) (Nat.le_refl 0) (Nat.le_refl _) (Or.inl rfl) rfl ?_
      refine r_if_ne (tgt := 27) hZ dX11_wear_22 (by decide) (fun c15 => ?_) (fun c15 => ?_)
      · have H := ok_f H c15
        refine r_aload_n hZ dX11_wear_27 rfl ?_
        refine r_iload_n hZ dX11_wear_28 rfl ?_
        obtain ⟨u5, eu5, H⟩ := ok_bind H
        obtain ⟨r6, er6, H⟩ := ok_bind H
        refine r_callV (As := [.int a1]) (rest := []) (st1 := []) (N2 := 0) hZ dX11_wear_29 cw_X11_234_X11 rfl eu5 (s_X11_rollAsItIs er6) rfl rfl (by decide) (Nat.le_of_ble_eq_true rfl) (Nat.le_refl 0) (Nat.le_refl _) (Or.inl rfl) rfl ?_
        refine r_iconst (v := (J 0)) hZ dX11_wear_32 (by decide) ?_
        obtain ⟨x7, ex7, H⟩ := ok_bind H
        refine r_topi ex7 ?_
        refine r_istore hZ dX11_wear_33 (by decide) (r_pick [0, 2, 3, 4] (ls' := [(0, .ref a0), (2, .int a2), (3, .int a3), (4, .int x7)]) rfl ?_)
        have H := ok_bindK H
        refine r_pick [0, 2, 3, 4] (ls' := [(0, .ref a0), (2, .int a2), (3, .int a3), (4, .int x7)]) rfl (l_X11_wear_35 hZ (fun e8 H => ?_) FU _ H)
        · refine r_aload_n hZ dX11_wear_55 rfl ?_
          obtain ⟨x9, ex9, H⟩ := ok_bind H
          refine r_getR hZ fl_X11_82_10 dX11_wear_56 ex9 ?_
          obtain ⟨u10, eu10, H⟩ := ok_bind H
          obtain ⟨r11, er11, H⟩ := ok_bind H
          refine r_callV (As := []) (rest := []) (st1 := []) (N2 := 0) hZ dX11_wear_59 cw_X11_260_X5 rfl eu10 (s_X5_measure er11) rfl rfl (by decide) (Nat.le_of_ble_eq_true rfl) (Nat.le_refl 0) (Nat.le_refl _) (Or.inl rfl) rfl ?_
          refine r_aload_n hZ dX11_wear_62 rfl ?_
          obtain ⟨x12, ex12, H⟩ := ok_bind H
          refine r_getR hZ fl_X11_82_10 dX11_wear_63 ex12 ?_
          obtain ⟨u13, eu13, H⟩ := ok_bind H
          obtain ⟨r14, er14, H⟩ := ok_bind H
          refine r_callV (As := []) (rest := []) (st1 := [.int r14]) (N2 := 0) hZ dX11_wear_66 cw_X11_251_X5 rfl eu13 (s_X5_spread er14) rfl rfl (by decide) (Nat.le_of_ble_eq_true rfl) (Nat.le_refl 0) (Nat.le_refl _) (Or.inl rfl) rfl ?_
          have H := ok_some H
          subst H
          exact r_iret hZ hF dX11_wear_69
      · have H := ok_t H c15
        refine r_iconst (v := (J (-1))) hZ dX11_wear_25 (by decide) ?_
        have H := ok_some H
        subst H
        exact r_iret hZ hF dX11_wear_26
def f_X11_rollSpares  (h : Hp) (a0 : Nat) (a1 : Int32) : Option (Hp) :=
  (gR h a0 10 12).bind fun x1 =>
  (gR h a0 10 0).bind fun x2 =>
  (gR h x2 3 0).bind fun x3 =>
  (gR h a0 10 0).bind fun x4 =>
  (gR h x4 3 2).bind fun x5 =>
  (aI h x5 a1).bind fun x6 =>
  (aR h x3 3 x6).bind fun x7 =>
  (isO h x1 0).bind fun u8 =>
  (f_X0_takeFrom h x1 x7).bind fun r9 =>
  (gR r9 a0 10 13).bind fun x10 =>
  (gR r9 a0 10 0).bind fun x11 =>
  (gR r9 x11 3 0).bind fun x12 =>
  (gR r9 a0 10 0).bind fun x13 =>
  (gR r9 x13 3 3).bind fun x14 =>
  (aI r9 x14 a1).bind fun x15 =>
  (aR r9 x12 3 x15).bind fun x16 =>
  (isO r9 x10 0).bind fun u17 =>
  (f_X0_takeFrom r9 x10 x16).bind fun r18 =>
  (gR r18 a0 10 14).bind fun x19 =>
  (gR r18 a0 10 12).bind fun x20 =>
  (gR r18 a0 10 13).bind fun x21 =>
  (gR r18 a0 10 0).bind fun x22 =>
  (gR r18 x22 3 4).bind fun x23 =>
  (aI r18 x23 a1).bind fun x24 =>
  (isO r18 x19 4).bind fun u25 =>
  (f_X5_roll r18 x19 x20 x21 x24).bind fun r26 =>
  some r26
set_option maxRecDepth 100000 in
set_option maxHeartbeats 4000000 in
theorem s_X11_rollSpares {n : Nat} {h : Hp} {a0 : Nat} {a1 : Int32}  {r : Hp} (hf : f_X11_rollSpares  h a0 a1 = some r) : Ev 7 yX11_rollSpares cX11_rollSpares 2 none [.ref a0, .int a1] n h none n r := by
  refine Ev_of RX11 rfl (by decide) (Nat.le_of_ble_eq_true rfl) (Nat.le_refl _) (Or.inl rfl) (fun Z hZ hF hN hI => ?_)
  have H : Ok (f_X11_rollSpares  h a0 a1) (fun y => y = r) := ⟨_, hf, rfl⟩
  unfold f_X11_rollSpares at H
  refine r_ls (ls' := [(0, .ref a0), (1, .int a1)]) rfl ?_
  refine r_aload_n hZ dX11_rollSpares_0 rfl ?_
  obtain ⟨x1, ex1, H⟩ := ok_bind H
  refine r_getR hZ fl_X11_72_10 dX11_rollSpares_1 ex1 ?_
  refine r_aload_n hZ dX11_rollSpares_4 rfl ?_
  obtain ⟨x2, ex2, H⟩ := ok_bind H
  refine r_getR hZ fl_X11_10_10 dX11_rollSpares_5 ex2 ?_
  obtain ⟨x3, ex3, H⟩ := ok_bind H
  refine r_getR hZ fl_X11_142_3 dX11_rollSpares_8 ex3 ?_
  refine r_aload_n hZ dX11_rollSpares_11 rfl ?_
  obtain ⟨x4, ex4, H⟩ := ok_bind H
  refine r_getR hZ fl_X11_10_10 dX11_rollSpares_12 ex4 ?_
  obtain ⟨x5, ex5, H⟩ := ok_bind H
  refine r_getR hZ fl_X11_180_3 dX11_rollSpares_15 ex5 ?_
  refine r_iload_n hZ dX11_rollSpares_18 rfl ?_
  obtain ⟨x6, ex6, H⟩ := ok_bind H
  refine r_aI hZ dX11_rollSpares_19 ex6 ?_
  obtain ⟨x7, ex7, H⟩ := ok_bind H
  refine r_aR hZ dX11_rollSpares_20 ex7 (fun _ => rfl) (Or.inl ⟨_, rfl⟩) ?_
  obtain ⟨u8, eu8, H⟩ := ok_bind H
  obtain ⟨r9, er9, H⟩ := ok_bind H
  refine r_callV (As := [.ref x7]) (rest := []) (st1 := []) (N2 := 0) hZ dX11_rollSpares_21 cw_X11_432_X0 rfl eu8 (s_X0_takeFrom er9) rfl rfl (by decide) (Nat.le_of_ble_eq_true rfl) (Nat.le_refl 0) (Nat.le_refl _) (Or.inl rfl) rfl ?_
  refine r_aload_n hZ dX11_rollSpares_24 rfl ?_
  obtain ⟨x10, ex10, H⟩ := ok_bind H
  refine r_getR hZ fl_X11_76_10 dX11_rollSpares_25 ex10 ?_
  refine r_aload_n hZ dX11_rollSpares_28 rfl ?_
  obtain ⟨x11, ex11, H⟩ := ok_bind H
  refine r_getR hZ fl_X11_10_10 dX11_rollSpares_29 ex11 ?_
  obtain ⟨x12, ex12, H⟩ := ok_bind H
  refine r_getR hZ fl_X11_142_3 dX11_rollSpares_32 ex12 ?_
  refine r_aload_n hZ dX11_rollSpares_35 rfl ?_
  obtain ⟨x13, ex13, H⟩ := ok_bind H
  refine r_getR hZ fl_X11_10_10 dX11_rollSpares_36 ex13 ?_
  obtain ⟨x14, ex14, H⟩ := ok_bind H
  refine r_getR hZ fl_X11_183_3 dX11_rollSpares_39 ex14 ?_
  refine r_iload_n hZ dX11_rollSpares_42 rfl ?_
  obtain ⟨x15, ex15, H⟩ := ok_bind H
  refine r_aI hZ dX11_rollSpares_43 ex15 ?_
  obtain ⟨x16, ex16, H⟩ := ok_bind H
  refine r_aR hZ dX11_rollSpares_44 ex16 (fun _ => rfl) (Or.inl ⟨_, rfl⟩) ?_
  obtain ⟨u17, eu17, H⟩ := ok_bind H
  obtain ⟨r18, er18, H⟩ := ok_bind H
  refine r_callV (As := [.ref x16]) (rest := []) (st1 := []) (N2 := 0) hZ dX11_rollSpares_45 cw_X11_432_X0 rfl eu17 (s_X0_takeFrom er18) rfl rfl (by decide) (Nat.le_of_ble_eq_true rfl) (Nat.le_refl 0) (Nat.le_refl _) (Or.inl rfl) rfl ?_
  refine r_aload_n hZ dX11_rollSpares_48 rfl ?_
  obtain ⟨x19, ex19, H⟩ := ok_bind H
  refine r_getR hZ fl_X11_82_10 dX11_rollSpares_49 ex19 ?_
  refine r_aload_n hZ dX11_rollSpares_52 rfl ?_
  obtain ⟨x20, ex20, H⟩ := ok_bind H
  refine r_getR hZ fl_X11_72_10 dX11_rollSpares_53 ex20 ?_
  refine r_aload_n hZ dX11_rollSpares_56 rfl ?_
  obtain ⟨x21, ex21, H⟩ := ok_bind H
  refine r_getR hZ fl_X11_76_10 dX11_rollSpares_57 ex21 ?_
  refine r_aload_n hZ dX11_rollSpares_60 rfl ?_
  obtain ⟨x22, ex22, H⟩ := ok_bind H
  refine r_getR hZ fl_X11_10_10 dX11_rollSpares_61 ex22 ?_
  obtain ⟨x23, ex23, H⟩ := ok_bind H
  refine r_getR hZ fl_X11_186_3 dX11_rollSpares_64 ex23 ?_
  refine r_iload_n hZ dX11_rollSpares_67 rfl ?_
  obtain ⟨x24, ex24, H⟩ := ok_bind H
  refine r_aI hZ dX11_rollSpares_68 ex24 ?_
  obtain ⟨u25, eu25, H⟩ := ok_bind H
  obtain ⟨r26, er26, H⟩ := ok_bind H
  refine r_callV (As := [.ref x20, .ref x21, .int x24]) (rest := []) (st1 := []) (N2 := 0) hZ dX11_rollSpares_69 cw_X11_428_X5 rfl eu25 (s_X5_roll er26) rfl rfl (by decide) (Nat.le_of_ble_eq_true rfl) (Nat.le_refl 0) (Nat.le_refl _) (Or.inl rfl) rfl ?_
  have H := ok_some H
  subst H
  exact r_ret hZ hF dX11_rollSpares_72
def b_X11_until_35 (p0 : Nat) (p2 : Int32) (p3 : Int32) (s : Int32 × Hp) : Option ((Int32 × Hp) ⊕ ((Hp) ⊕ (Int32 × Hp))) :=
  (if (J 200) < s.1 then
    some (.inr (.inl s.2))
  else
    (gR s.2 p0 10 14).bind fun x1 =>
    (isO s.2 x1 4).bind fun u2 =>
    (f_X5_wearRound s.2 x1 p2).bind fun r3 =>
    (gR r3 p0 10 14).bind fun x4 =>
    (isO r3 x4 4).bind fun u5 =>
    (f_X5_measure r3 x4).bind fun r6 =>
    (gR r6 p0 10 14).bind fun x7 =>
    (isO r6 x7 4).bind fun u8 =>
    (f_X5_spread r6 x7).bind fun r9 =>
    (if r9 < p3 then
      (some (s.1 + (J 1))).bind fun x10 =>
      some (.inl (x10, r6))
    else
      some (.inr (.inr (s.1, r6)))))
set_option maxRecDepth 100000 in
set_option maxHeartbeats 4000000 in
theorem l_X11_until_35 {Z : Zc} (hZ : Fx cX11_until RX11 5 8 0 Z) {n : Nat} {p0 : Nat} {p2 : Int32} {p3 : Int32} {P : ((Hp) ⊕ (Int32 × Hp)) → Prop} (hx0 : ∀ e : Hp, P (.inl e) → R Z 78 [] [] n e 0) (hx1 : ∀ e : Int32 × Hp, P (.inr e) → R Z 69 [(4, .int e.1)] [] n e.2 0) : ∀ (m : Nat) (s : Int32 × Hp), Ok (iter (b_X11_until_35 p0 p2 p3) m s) P → R Z 35 [(0, .ref p0), (2, .int p2), (3, .int p3), (4, .int s.1)] [] n s.2 0 := by
  intro m
  induction m with
  | zero => exact fun s H => ok_iter0 H
  | succ m ih =>
    intro s H
    have H := ok_iter H
    unfold b_X11_until_35 at H
    refine r_iload hZ dX11_until_35 rfl ?_
    refine r_sipush (v := (J 200)) hZ dX11_until_37 (by decide) ?_
    refine r_icmp_gt (tgt := 78) hZ dX11_until_40 (by decide) (fun c12 => ?_) (fun c12 => ?_)
    · have H := ok_t H c12
      exact r_pick [] (ls' := []) rfl (hx0 _ (ki_r H))
    · have H := ok_f H c12
      refine r_aload_n hZ dX11_until_43 rfl ?_
      obtain ⟨x1, ex1, H⟩ := ok_bind H
      refine r_getR hZ fl_X11_82_10 dX11_until_44 ex1 ?_
      refine r_iload_n hZ dX11_until_47 rfl ?_
      obtain ⟨u2, eu2, H⟩ := ok_bind H
      obtain ⟨r3, er3, H⟩ := ok_bind H
      refine r_callV (As := [.int p2]) (rest := []) (st1 := []) (N2 := 0) hZ dX11_until_48 cw_X11_257_X5 rfl eu2 (s_X5_wearRound er3) rfl rfl (by decide) (Nat.le_of_ble_eq_true rfl) (Nat.le_refl 0) (Nat.le_refl _) (Or.inl rfl) rfl ?_
      refine r_aload_n hZ dX11_until_51 rfl ?_
      obtain ⟨x4, ex4, H⟩ := ok_bind H
      refine r_getR hZ fl_X11_82_10 dX11_until_52 ex4 ?_
      obtain ⟨u5, eu5, H⟩ := ok_bind H
      obtain ⟨r6, er6, H⟩ := ok_bind H
      refine r_callV (As := []) (rest := []) (st1 := []) (N2 := 0) hZ dX11_until_55 cw_X11_260_X5 rfl eu5 (s_X5_measure er6) rfl rfl (by decide) (Nat.le_of_ble_eq_true rfl) (Nat.le_refl 0) (Nat.le_refl _) (Or.inl rfl) rfl ?_
      refine r_aload_n hZ dX11_until_58 rfl ?_
      obtain ⟨x7, ex7, H⟩ := ok_bind H
      refine r_getR hZ fl_X11_82_10 dX11_until_59 ex7 ?_
      obtain ⟨u8, eu8, H⟩ := ok_bind H
      obtain ⟨r9, er9, H⟩ := ok_bind H
      refine r_callV (As := []) (rest := []) (st1 := [.int r9]) (N2 := 0) hZ dX11_until_62 cw_X11_251_X5 rfl eu8 (s_X5_spread er9) rfl rfl (by decide) (Nat.le_of_ble_eq_true rfl) (Nat.le_refl 0) (Nat.le_refl _) (Or.inl rfl) rfl ?_
      refine r_iload_n hZ dX11_until_65 rfl ?_
      refine r_icmp_lt (tgt := 72) hZ dX11_until_66 (by decide) (fun c11 => ?_) (fun c11 => ?_)
      · have H := ok_t H c11
        obtain ⟨x10, ex10, H⟩ := ok_bind H
        refine r_iincE (w := (J 1)) hZ dX11_until_72 (by decide) rfl (by decide) ex10 (r_pick [0, 2, 3, 4] (ls' := [(0, .ref p0), (2, .int p2), (3, .int p3), (4, .int x10)]) rfl ?_)
        refine r_goto (tgt := 35) hZ dX11_until_75 (by decide) ?_
        exact r_pick [0, 2, 3, 4] (ls' := [(0, .ref p0), (2, .int p2), (3, .int p3), (4, .int x10)]) rfl (ih _ (ki_l H))
      · have H := ok_f H c11
        exact r_pick [4] (ls' := [(4, .int s.1)]) rfl (hx1 _ (ki_r H))
def f_X11_until  (h : Hp) (a0 : Nat) (a1 : Int32) (a2 : Int32) (a3 : Int32) : Option (Int32 × Hp) :=
  (isO h a0 10).bind fun u1 =>
  (f_X11_isMesh h a0 a1).bind fun r2 =>
  (if r2 = 0 then
    some ((J (-1)), h)
  else
    (f_X11_isWearLoad a2).bind fun r3 =>
    (if r3 = 0 then
      some ((J (-1)), h)
    else
      (f_X11_isWithin a3 (J 1) (J 62)).bind fun r4 =>
      (if r4 = 0 then
        some ((J (-1)), h)
      else
        (isO h a0 10).bind fun u5 =>
        (f_X11_rollSpares h a0 a1).bind fun r6 =>
        (some (J 1)).bind fun x7 =>
        (iter (b_X11_until_35 a0 a2 a3) FU (x7, r6)).bind fun e8 =>
        (match e8 with
        | .inl e9 =>
          some ((J (-4)), e9)
        | .inr e10 =>
          some (e10.1, e10.2)))))
set_option maxRecDepth 100000 in
set_option maxHeartbeats 4000000 in
theorem s_X11_until {n : Nat} {h : Hp} {a0 : Nat} {a1 : Int32} {a2 : Int32} {a3 : Int32}  {r : Int32 × Hp} (hf : f_X11_until  h a0 a1 a2 a3 = some r) : Ev 8 yX11_until cX11_until 5 (some .int) [.ref a0, .int a1, .int a2, .int a3] n h (some (.int r.1)) n r.2 := by
  refine Ev_of RX11 rfl (by decide) (Nat.le_of_ble_eq_true rfl) (Nat.le_refl _) (Or.inl rfl) (fun Z hZ hF hN hI => ?_)
  have H : Ok (f_X11_until  h a0 a1 a2 a3) (fun y => y = r) := ⟨_, hf, rfl⟩
  unfold f_X11_until at H
  refine r_ls (ls' := [(0, .ref a0), (1, .int a1), (2, .int a2), (3, .int a3)]) rfl ?_
  refine r_aload_n hZ dX11_until_0 rfl ?_
  refine r_iload_n hZ dX11_until_1 rfl ?_
  obtain ⟨u1, eu1, H⟩ := ok_bind H
  obtain ⟨r2, er2, H⟩ := ok_bind H
  refine r_callV (As := [.int a1]) (rest := []) (st1 := [.int r2]) (N2 := 0) hZ dX11_until_2 cw_X11_177_X11 rfl eu1 (s_X11_isMesh er2) rfl rfl (by decide) (Nat.le_of_ble_eq_true rfl) (Nat.le_refl 0) (Nat.le_refl _) (Or.inl rfl) rfl ?_
  refine r_if_eq (tgt := 25) hZ dX11_until_5 (by decide) (fun c13 => ?_) (fun c13 => ?_)
  · have H := ok_t H c13
    refine r_iconst (v := (J (-1))) hZ dX11_until_25 (by decide) ?_
    have H := ok_some H
    subst H
    exact r_iret hZ hF dX11_until_26
  · have H := ok_f H c13
    refine r_iload_n hZ dX11_until_8 rfl ?_
    obtain ⟨r3, er3, H⟩ := ok_bind H
    refine r_callS (As := [.int a2]) (rest := []) (st1 := [.int r3]) (N2 := 0) hZ dX11_until_9 cw_X11_254 (s_X11_isWearLoad er3) rfl rfl (by decide) (Nat.le_of_ble_eq_true rfl) (Nat.le_refl 0) (Nat.le_refl _) (Or.inl rfl) rfl ?_
    refine r_if_eq (tgt := 25) hZ dX11_until_12 (by decide) (fun c12 => ?_) (fun c12 => ?_)
    · have H := ok_t H c12
      refine r_iconst (v := (J (-1))) hZ dX11_until_25 (by decide) ?_
      have H := ok_some H
      subst H
      exact r_iret hZ hF dX11_until_26
    · have H := ok_f H c12
      refine r_iload_n hZ dX11_until_15 rfl ?_
      refine r_iconst (v := (J 1)) hZ dX11_until_16 (by decide) ?_
      refine r_bipush (v := (J 62)) hZ dX11_until_17 (by decide) ?_
      obtain ⟨r4, er4, H⟩ := ok_bind H
      refine r_callS (As := [.int a3, .int (J 1), .int (J 62)]) (rest := []) (st1 := [.int r4]) (N2 := 0) hZ dX11_until_19 cw_X11_170 (s_X11_isWithin er4) rfl rfl (by decide) (Nat.le_of_ble_eq_true rfl) (Nat.le_refl 0) (Nat.le_refl _) (Or.inl rfl) rfl ?_
      refine r_if_ne (tgt := 27) hZ dX11_until_22 (by decide) (fun c11 => ?_) (fun c11 => ?_)
      · have H := ok_f H c11
        refine r_aload_n hZ dX11_until_27 rfl ?_
        refine r_iload_n hZ dX11_until_28 rfl ?_
        obtain ⟨u5, eu5, H⟩ := ok_bind H
        obtain ⟨r6, er6, H⟩ := ok_bind H
        refine r_callV (As := [.int a1]) (rest := []) (st1 := []) (N2 := 0) hZ dX11_until_29 cw_X11_263_X11 rfl eu5 (s_X11_rollSpares er6) rfl rfl (by decide) (Nat.le_of_ble_eq_true rfl) (Nat.le_refl 0) (Nat.le_refl _) (Or.inl rfl) rfl ?_
        refine r_iconst (v := (J 1)) hZ dX11_until_32 (by decide) ?_
        obtain ⟨x7, ex7, H⟩ := ok_bind H
        refine r_topi ex7 ?_
        refine r_istore hZ dX11_until_33 (by decide) (r_pick [0, 2, 3, 4] (ls' := [(0, .ref a0), (2, .int a2), (3, .int a3), (4, .int x7)]) rfl ?_)
        have H := ok_bindK H
        refine r_pick [0, 2, 3, 4] (ls' := [(0, .ref a0), (2, .int a2), (3, .int a3), (4, .int x7)]) rfl (l_X11_until_35 hZ (fun e9 H => ?_) (fun e10 H => ?_) FU _ H)
        · refine r_bipush (v := (J (-4))) hZ dX11_until_78 (by decide) ?_
          have H := ok_some H
          subst H
          exact r_iret hZ hF dX11_until_80
        · refine r_iload hZ dX11_until_69 rfl ?_
          have H := ok_some H
          subst H
          exact r_iret hZ hF dX11_until_71
      · have H := ok_t H c11
        refine r_iconst (v := (J (-1))) hZ dX11_until_25 (by decide) ?_
        have H := ok_some H
        subst H
        exact r_iret hZ hF dX11_until_26
def f_X11_loud  (h : Hp) (a0 : Nat) (a1 : Int32) (a2 : Int32) : Option (Int64 × Hp) :=
  (isO h a0 10).bind fun u1 =>
  (f_X11_isMesh h a0 a1).bind fun r2 =>
  (if r2 = 0 then
    some ((K (-1)), h)
  else
    (f_X11_isWithin a2 (J 0) (J 8)).bind fun r3 =>
    (if r3 = 0 then
      some ((K (-1)), h)
    else
      (isO h a0 10).bind fun u4 =>
      (f_X11_rollAsItIs h a0 a1).bind fun r5 =>
      (gR r5 a0 10 14).bind fun x6 =>
      (isO r5 x6 4).bind fun u7 =>
      (f_X5_loudness r5 x6 a2).bind fun r8 =>
      some (r8, r5)))
set_option maxRecDepth 100000 in
set_option maxHeartbeats 4000000 in
theorem s_X11_loud {n : Nat} {h : Hp} {a0 : Nat} {a1 : Int32} {a2 : Int32}  {r : Int64 × Hp} (hf : f_X11_loud  h a0 a1 a2 = some r) : Ev 8 yX11_loud cX11_loud 3 (some .long) [.ref a0, .int a1, .int a2] n h (some (.long r.1)) n r.2 := by
  refine Ev_of RX11 rfl (by decide) (Nat.le_of_ble_eq_true rfl) (Nat.le_refl _) (Or.inl rfl) (fun Z hZ hF hN hI => ?_)
  have H : Ok (f_X11_loud  h a0 a1 a2) (fun y => y = r) := ⟨_, hf, rfl⟩
  unfold f_X11_loud at H
  refine r_ls (ls' := [(0, .ref a0), (1, .int a1), (2, .int a2)]) rfl ?_
  refine r_aload_n hZ dX11_loud_0 rfl ?_
  refine r_iload_n hZ dX11_loud_1 rfl ?_
  obtain ⟨u1, eu1, H⟩ := ok_bind H
  obtain ⟨r2, er2, H⟩ := ok_bind H
  refine r_callV (As := [.int a1]) (rest := []) (st1 := [.int r2]) (N2 := 0) hZ dX11_loud_2 cw_X11_177_X11 rfl eu1 (s_X11_isMesh er2) rfl rfl (by decide) (Nat.le_of_ble_eq_true rfl) (Nat.le_refl 0) (Nat.le_refl _) (Or.inl rfl) rfl ?_
  refine r_if_eq (tgt := 18) hZ dX11_loud_5 (by decide) (fun c10 => ?_) (fun c10 => ?_)
  · have H := ok_t H c10
    refine r_ldc2 (v := (K (-1))) hZ wc_X11_266 dX11_loud_18 ?_
    have H := ok_some H
    subst H
    exact r_lret hZ hF dX11_loud_21
  · have H := ok_f H c10
    refine r_iload_n hZ dX11_loud_8 rfl ?_
    refine r_iconst (v := (J 0)) hZ dX11_loud_9 (by decide) ?_
    refine r_bipush (v := (J 8)) hZ dX11_loud_10 (by decide) ?_
    obtain ⟨r3, er3, H⟩ := ok_bind H
    refine r_callS (As := [.int a2, .int (J 0), .int (J 8)]) (rest := []) (st1 := [.int r3]) (N2 := 0) hZ dX11_loud_12 cw_X11_170 (s_X11_isWithin er3) rfl rfl (by decide) (Nat.le_of_ble_eq_true rfl) (Nat.le_refl 0) (Nat.le_refl _) (Or.inl rfl) rfl ?_
    refine r_if_ne (tgt := 22) hZ dX11_loud_15 (by decide) (fun c9 => ?_) (fun c9 => ?_)
    · have H := ok_f H c9
      refine r_aload_n hZ dX11_loud_22 rfl ?_
      refine r_iload_n hZ dX11_loud_23 rfl ?_
      obtain ⟨u4, eu4, H⟩ := ok_bind H
      obtain ⟨r5, er5, H⟩ := ok_bind H
      refine r_callV (As := [.int a1]) (rest := []) (st1 := []) (N2 := 0) hZ dX11_loud_24 cw_X11_234_X11 rfl eu4 (s_X11_rollAsItIs er5) rfl rfl (by decide) (Nat.le_of_ble_eq_true rfl) (Nat.le_refl 0) (Nat.le_refl _) (Or.inl rfl) rfl ?_
      refine r_aload_n hZ dX11_loud_27 rfl ?_
      obtain ⟨x6, ex6, H⟩ := ok_bind H
      refine r_getR hZ fl_X11_82_10 dX11_loud_28 ex6 ?_
      refine r_iload_n hZ dX11_loud_31 rfl ?_
      obtain ⟨u7, eu7, H⟩ := ok_bind H
      obtain ⟨r8, er8, H⟩ := ok_bind H
      refine r_callV (As := [.int a2]) (rest := []) (st1 := [.long r8]) (N2 := 0) hZ dX11_loud_32 cw_X11_268_X5 rfl eu7 (s_X5_loudness er8) rfl rfl (by decide) (Nat.le_of_ble_eq_true rfl) (Nat.le_refl 0) (Nat.le_refl _) (Or.inl rfl) rfl ?_
      have H := ok_some H
      subst H
      exact r_lret hZ hF dX11_loud_35
    · have H := ok_t H c9
      refine r_ldc2 (v := (K (-1))) hZ wc_X11_266 dX11_loud_18 ?_
      have H := ok_some H
      subst H
      exact r_lret hZ hF dX11_loud_21
def f_X11_whine  (h : Hp) (a0 : Nat) (a1 : Int32) : Option (Int32 × Hp) :=
  (isO h a0 10).bind fun u1 =>
  (f_X11_isMesh h a0 a1).bind fun r2 =>
  (if r2 = 0 then
    some ((J (-1)), h)
  else
    (isO h a0 10).bind fun u3 =>
    (f_X11_rollAsItIs h a0 a1).bind fun r4 =>
    (gR r4 a0 10 14).bind fun x5 =>
    (isO r4 x5 4).bind fun u6 =>
    (f_X5_loudestTone r4 x5).bind fun r7 =>
    some (r7, r4))
set_option maxRecDepth 100000 in
set_option maxHeartbeats 4000000 in
theorem s_X11_whine {n : Nat} {h : Hp} {a0 : Nat} {a1 : Int32}  {r : Int32 × Hp} (hf : f_X11_whine  h a0 a1 = some r) : Ev 8 yX11_whine cX11_whine 2 (some .int) [.ref a0, .int a1] n h (some (.int r.1)) n r.2 := by
  refine Ev_of RX11 rfl (by decide) (Nat.le_of_ble_eq_true rfl) (Nat.le_refl _) (Or.inl rfl) (fun Z hZ hF hN hI => ?_)
  have H : Ok (f_X11_whine  h a0 a1) (fun y => y = r) := ⟨_, hf, rfl⟩
  unfold f_X11_whine at H
  refine r_ls (ls' := [(0, .ref a0), (1, .int a1)]) rfl ?_
  refine r_aload_n hZ dX11_whine_0 rfl ?_
  refine r_iload_n hZ dX11_whine_1 rfl ?_
  obtain ⟨u1, eu1, H⟩ := ok_bind H
  obtain ⟨r2, er2, H⟩ := ok_bind H
  refine r_callV (As := [.int a1]) (rest := []) (st1 := [.int r2]) (N2 := 0) hZ dX11_whine_2 cw_X11_177_X11 rfl eu1 (s_X11_isMesh er2) rfl rfl (by decide) (Nat.le_of_ble_eq_true rfl) (Nat.le_refl 0) (Nat.le_refl _) (Or.inl rfl) rfl ?_
  refine r_if_ne (tgt := 10) hZ dX11_whine_5 (by decide) (fun c8 => ?_) (fun c8 => ?_)
  · have H := ok_f H c8
    refine r_aload_n hZ dX11_whine_10 rfl ?_
    refine r_iload_n hZ dX11_whine_11 rfl ?_
    obtain ⟨u3, eu3, H⟩ := ok_bind H
    obtain ⟨r4, er4, H⟩ := ok_bind H
    refine r_callV (As := [.int a1]) (rest := []) (st1 := []) (N2 := 0) hZ dX11_whine_12 cw_X11_234_X11 rfl eu3 (s_X11_rollAsItIs er4) rfl rfl (by decide) (Nat.le_of_ble_eq_true rfl) (Nat.le_refl 0) (Nat.le_refl _) (Or.inl rfl) rfl ?_
    refine r_aload_n hZ dX11_whine_15 rfl ?_
    obtain ⟨x5, ex5, H⟩ := ok_bind H
    refine r_getR hZ fl_X11_82_10 dX11_whine_16 ex5 ?_
    obtain ⟨u6, eu6, H⟩ := ok_bind H
    obtain ⟨r7, er7, H⟩ := ok_bind H
    refine r_callV (As := []) (rest := []) (st1 := [.int r7]) (N2 := 0) hZ dX11_whine_19 cw_X11_271_X5 rfl eu6 (s_X5_loudestTone er7) rfl rfl (by decide) (Nat.le_of_ble_eq_true rfl) (Nat.le_refl 0) (Nat.le_refl _) (Or.inl rfl) rfl ?_
    have H := ok_some H
    subst H
    exact r_iret hZ hF dX11_whine_22
  · have H := ok_t H c8
    refine r_iconst (v := (J (-1))) hZ dX11_whine_8 (by decide) ?_
    have H := ok_some H
    subst H
    exact r_iret hZ hF dX11_whine_9
def f_X11_pair  (h : Hp) (a0 : Nat) (a1 : Int32) (a2 : Int32) : Option (Int32 × Hp) :=
  (f_X11_isWithin a1 (J 0) (J 99)).bind fun r1 =>
  (if r1 = 0 then
    some ((J (-1)), h)
  else
    (f_X11_isWithin a2 (J 1) (J 99)).bind fun r2 =>
    (if r2 = 0 then
      some ((J (-1)), h)
    else
      (gR h a0 10 2).bind fun x3 =>
      (gI h x3 2 2).bind fun x4 =>
      (if x4 < (J 6) then
        (gR h a0 10 2).bind fun x5 =>
        (isO h x5 2).bind fun u6 =>
        (f_X2_addPair h x5 a1 a2).bind fun r7 =>
        (gR r7 a0 10 2).bind fun x8 =>
        (gI r7 x8 2 2).bind fun x9 =>
        some (x9, r7)
      else
        some ((J (-2)), h))))
set_option maxRecDepth 100000 in
set_option maxHeartbeats 4000000 in
theorem s_X11_pair {n : Nat} {h : Hp} {a0 : Nat} {a1 : Int32} {a2 : Int32}  {r : Int32 × Hp} (hf : f_X11_pair  h a0 a1 a2 = some r) : Ev 3 yX11_pair cX11_pair 3 (some .int) [.ref a0, .int a1, .int a2] n h (some (.int r.1)) n r.2 := by
  refine Ev_of RX11 rfl (by decide) (Nat.le_of_ble_eq_true rfl) (Nat.le_refl _) (Or.inl rfl) (fun Z hZ hF hN hI => ?_)
  have H : Ok (f_X11_pair  h a0 a1 a2) (fun y => y = r) := ⟨_, hf, rfl⟩
  unfold f_X11_pair at H
  refine r_ls (ls' := [(0, .ref a0), (1, .int a1), (2, .int a2)]) rfl ?_
  refine r_iload_n hZ dX11_pair_0 rfl ?_
  refine r_iconst (v := (J 0)) hZ dX11_pair_1 (by decide) ?_
  refine r_bipush (v := (J 99)) hZ dX11_pair_2 (by decide) ?_
  obtain ⟨r1, er1, H⟩ := ok_bind H
  refine r_callS (As := [.int a1, .int (J 0), .int (J 99)]) (rest := []) (st1 := [.int r1]) (N2 := 0) hZ dX11_pair_4 cw_X11_170 (s_X11_isWithin er1) rfl rfl (by decide) (Nat.le_of_ble_eq_true rfl) (Nat.le_refl 0) (Nat.le_refl _) (Or.inl rfl) rfl ?_
  refine r_if_eq (tgt := 20) hZ dX11_pair_7 (by decide) (fun c12 => ?_) (fun c12 => ?_)
  · have H := ok_t H c12
    refine r_iconst (v := (J (-1))) hZ dX11_pair_20 (by decide) ?_
    have H := ok_some H
    subst H
    exact r_iret hZ hF dX11_pair_21
  · have H := ok_f H c12
    refine r_iload_n hZ dX11_pair_10 rfl ?_
    refine r_iconst (v := (J 1)) hZ dX11_pair_11 (by decide) ?_
    refine r_bipush (v := (J 99)) hZ dX11_pair_12 (by decide) ?_
    obtain ⟨r2, er2, H⟩ := ok_bind H
    refine r_callS (As := [.int a2, .int (J 1), .int (J 99)]) (rest := []) (st1 := [.int r2]) (N2 := 0) hZ dX11_pair_14 cw_X11_170 (s_X11_isWithin er2) rfl rfl (by decide) (Nat.le_of_ble_eq_true rfl) (Nat.le_refl 0) (Nat.le_refl _) (Or.inl rfl) rfl ?_
    refine r_if_ne (tgt := 22) hZ dX11_pair_17 (by decide) (fun c11 => ?_) (fun c11 => ?_)
    · have H := ok_f H c11
      refine r_aload_n hZ dX11_pair_22 rfl ?_
      obtain ⟨x3, ex3, H⟩ := ok_bind H
      refine r_getR hZ fl_X11_22_10 dX11_pair_23 ex3 ?_
      obtain ⟨x4, ex4, H⟩ := ok_bind H
      refine r_getI hZ fl_X11_274_2 dX11_pair_26 ex4 ?_
      refine r_bipush (v := (J 6)) hZ dX11_pair_29 (by decide) ?_
      refine r_icmp_lt (tgt := 37) hZ dX11_pair_31 (by decide) (fun c10 => ?_) (fun c10 => ?_)
      · have H := ok_t H c10
        refine r_aload_n hZ dX11_pair_37 rfl ?_
        obtain ⟨x5, ex5, H⟩ := ok_bind H
        refine r_getR hZ fl_X11_22_10 dX11_pair_38 ex5 ?_
        refine r_iload_n hZ dX11_pair_41 rfl ?_
        refine r_iload_n hZ dX11_pair_42 rfl ?_
        obtain ⟨u6, eu6, H⟩ := ok_bind H
        obtain ⟨r7, er7, H⟩ := ok_bind H
        refine r_callV (As := [.int a1, .int a2]) (rest := []) (st1 := []) (N2 := 0) hZ dX11_pair_43 cw_X11_275_X2 rfl eu6 (s_X2_addPair er7) rfl rfl (by decide) (Nat.le_of_ble_eq_true rfl) (Nat.le_refl 0) (Nat.le_refl _) (Or.inl rfl) rfl ?_
        refine r_aload_n hZ dX11_pair_46 rfl ?_
        obtain ⟨x8, ex8, H⟩ := ok_bind H
        refine r_getR hZ fl_X11_22_10 dX11_pair_47 ex8 ?_
        obtain ⟨x9, ex9, H⟩ := ok_bind H
        refine r_getI hZ fl_X11_274_2 dX11_pair_50 ex9 ?_
        have H := ok_some H
        subst H
        exact r_iret hZ hF dX11_pair_53
      · have H := ok_f H c10
        refine r_bipush (v := (J (-2))) hZ dX11_pair_34 (by decide) ?_
        have H := ok_some H
        subst H
        exact r_iret hZ hF dX11_pair_36
    · have H := ok_t H c11
      refine r_iconst (v := (J (-1))) hZ dX11_pair_20 (by decide) ?_
      have H := ok_some H
      subst H
      exact r_iret hZ hF dX11_pair_21
def f_X11_clear  (h : Hp) (a0 : Nat) : Option (Int32 × Hp) :=
  (gR h a0 10 2).bind fun x1 =>
  (gI h x1 2 2).bind fun x2 =>
  (gR h a0 10 2).bind fun x3 =>
  (pF h x3 2 2 (.int (J 0))).bind fun h4 =>
  some (x2, h4)
set_option maxRecDepth 100000 in
set_option maxHeartbeats 4000000 in
theorem s_X11_clear {n : Nat} {h : Hp} {a0 : Nat}  {r : Int32 × Hp} (hf : f_X11_clear  h a0 = some r) : Ev 2 yX11_clear cX11_clear 2 (some .int) [.ref a0] n h (some (.int r.1)) n r.2 := by
  refine Ev_of RX11 rfl (by decide) (Nat.le_of_ble_eq_true rfl) (Nat.le_refl _) (Or.inl rfl) (fun Z hZ hF hN hI => ?_)
  have H : Ok (f_X11_clear  h a0) (fun y => y = r) := ⟨_, hf, rfl⟩
  unfold f_X11_clear at H
  refine r_ls (ls' := [(0, .ref a0)]) rfl ?_
  refine r_aload_n hZ dX11_clear_0 rfl ?_
  obtain ⟨x1, ex1, H⟩ := ok_bind H
  refine r_getR hZ fl_X11_22_10 dX11_clear_1 ex1 ?_
  obtain ⟨x2, ex2, H⟩ := ok_bind H
  refine r_getI hZ fl_X11_274_2 dX11_clear_4 ex2 ?_
  refine r_istore_n hZ dX11_clear_7 (by decide) (r_pick [0, 1] (ls' := [(0, .ref a0), (1, .int x2)]) rfl ?_)
  refine r_aload_n hZ dX11_clear_8 rfl ?_
  obtain ⟨x3, ex3, H⟩ := ok_bind H
  refine r_getR hZ fl_X11_22_10 dX11_clear_9 ex3 ?_
  refine r_iconst (v := (J 0)) hZ dX11_clear_12 (by decide) ?_
  obtain ⟨h4, eh4, H⟩ := ok_bind H
  refine r_putf hZ fl_X11_274_2 dX11_clear_13 eh4 rfl rfl ?_
  refine r_iload_n hZ dX11_clear_16 rfl ?_
  have H := ok_some H
  subst H
  exact r_iret hZ hF dX11_clear_17
def f_X11_isLoad  (a0 : Int32) : Option (Int32) :=
  (f_X11_isWithin a0 (J 0) (J 9999)).bind fun r1 =>
  (bz r1).bind fun u2 =>
  some r1
set_option maxRecDepth 100000 in
set_option maxHeartbeats 4000000 in
theorem s_X11_isLoad {n : Nat} {h : Hp} {a0 : Int32}  {r : Int32} (hf : f_X11_isLoad  a0 = some r) : Ev 3 yX11_isLoad cX11_isLoad 1 (some .boolean) [.int a0] n h (some (.int r)) n h := by
  refine Ev_of RX11 rfl (by decide) (Nat.le_of_ble_eq_true rfl) (Nat.le_refl _) (Or.inl rfl) (fun Z hZ hF hN hI => ?_)
  have H : Ok (f_X11_isLoad  a0) (fun y => y = r) := ⟨_, hf, rfl⟩
  unfold f_X11_isLoad at H
  refine r_ls (ls' := [(0, .int a0)]) rfl ?_
  refine r_iload_n hZ dX11_isLoad_0 rfl ?_
  refine r_iconst (v := (J 0)) hZ dX11_isLoad_1 (by decide) ?_
  refine r_sipush (v := (J 9999)) hZ dX11_isLoad_2 (by decide) ?_
  obtain ⟨r1, er1, H⟩ := ok_bind H
  refine r_callS (As := [.int a0, .int (J 0), .int (J 9999)]) (rest := []) (st1 := [.int r1]) (N2 := 0) hZ dX11_isLoad_5 cw_X11_170 (s_X11_isWithin er1) rfl rfl (by decide) (Nat.le_of_ble_eq_true rfl) (Nat.le_refl 0) (Nat.le_refl _) (Or.inl rfl) rfl ?_
  obtain ⟨u2, eu2, H⟩ := ok_bind H
  have H := ok_some H
  subst H
  exact r_zret hZ hF eu2 dX11_isLoad_8
def f_X11_pushed  (h : Hp) (a0 : Nat) (a1 : Int32) : Option (Int32) :=
  (f_X11_isLoad a1).bind fun r1 =>
  (if r1 = 0 then
    some (J (-1))
  else
    (gR h a0 10 2).bind fun x2 =>
    (isO h x2 2).bind fun u3 =>
    (f_X2_leastPush h x2 a1).bind fun r4 =>
    some r4)
set_option maxRecDepth 100000 in
set_option maxHeartbeats 4000000 in
theorem s_X11_pushed {n : Nat} {h : Hp} {a0 : Nat} {a1 : Int32}  {r : Int32} (hf : f_X11_pushed  h a0 a1 = some r) : Ev 5 yX11_pushed cX11_pushed 2 (some .int) [.ref a0, .int a1] n h (some (.int r)) n h := by
  refine Ev_of RX11 rfl (by decide) (Nat.le_of_ble_eq_true rfl) (Nat.le_refl _) (Or.inl rfl) (fun Z hZ hF hN hI => ?_)
  have H : Ok (f_X11_pushed  h a0 a1) (fun y => y = r) := ⟨_, hf, rfl⟩
  unfold f_X11_pushed at H
  refine r_ls (ls' := [(0, .ref a0), (1, .int a1)]) rfl ?_
  refine r_iload_n hZ dX11_pushed_0 rfl ?_
  obtain ⟨r1, er1, H⟩ := ok_bind H
  refine r_callS (As := [.int a1]) (rest := []) (st1 := [.int r1]) (N2 := 0) hZ dX11_pushed_1 cw_X11_279 (s_X11_isLoad er1) rfl rfl (by decide) (Nat.le_of_ble_eq_true rfl) (Nat.le_refl 0) (Nat.le_refl _) (Or.inl rfl) rfl ?_
  refine r_if_ne (tgt := 9) hZ dX11_pushed_4 (by decide) (fun c5 => ?_) (fun c5 => ?_)
  · have H := ok_f H c5
    refine r_aload_n hZ dX11_pushed_9 rfl ?_
    obtain ⟨x2, ex2, H⟩ := ok_bind H
    refine r_getR hZ fl_X11_22_10 dX11_pushed_10 ex2 ?_
    refine r_iload_n hZ dX11_pushed_13 rfl ?_
    obtain ⟨u3, eu3, H⟩ := ok_bind H
    obtain ⟨r4, er4, H⟩ := ok_bind H
    refine r_callV (As := [.int a1]) (rest := []) (st1 := [.int r4]) (N2 := 0) hZ dX11_pushed_14 cw_X11_282_X2 rfl eu3 (s_X2_leastPush er4) rfl rfl (by decide) (Nat.le_of_ble_eq_true rfl) (Nat.le_refl 0) (Nat.le_refl _) (Or.inl rfl) rfl ?_
    have H := ok_some H
    subst H
    exact r_iret hZ hF dX11_pushed_17
  · have H := ok_t H c5
    refine r_iconst (v := (J (-1))) hZ dX11_pushed_7 (by decide) ?_
    have H := ok_some H
    subst H
    exact r_iret hZ hF dX11_pushed_8
def f_X11_share  (h : Hp) (a0 : Nat) (a1 : Int32) (a2 : Int32) : Option (Int32) :=
  (gR h a0 10 2).bind fun x1 =>
  (gI h x1 2 2).bind fun x2 =>
  (f_X11_isWithin a1 (J 0) (x2 - (J 1))).bind fun r3 =>
  (if r3 = 0 then
    some (J (-1))
  else
    (f_X11_isLoad a2).bind fun r4 =>
    (if r4 = 0 then
      some (J (-1))
    else
      (gR h a0 10 2).bind fun x5 =>
      (isO h x5 2).bind fun u6 =>
      (f_X2_leastPush h x5 a2).bind fun r7 =>
      ((if r7 = (J (-4)) then
        some (J (-3))
      else
        (gR h a0 10 2).bind fun x9 =>
        (isO h x9 2).bind fun u10 =>
        (f_X2_shareAt h x9 a1 r7).bind fun r11 =>
        some r11)).bind fun (j8 : Int32) =>
      some j8))
set_option maxRecDepth 100000 in
set_option maxHeartbeats 4000000 in
theorem s_X11_share {n : Nat} {h : Hp} {a0 : Nat} {a1 : Int32} {a2 : Int32}  {r : Int32} (hf : f_X11_share  h a0 a1 a2 = some r) : Ev 5 yX11_share cX11_share 4 (some .int) [.ref a0, .int a1, .int a2] n h (some (.int r)) n h := by
  refine Ev_of RX11 rfl (by decide) (Nat.le_of_ble_eq_true rfl) (Nat.le_refl _) (Or.inl rfl) (fun Z hZ hF hN hI => ?_)
  have H : Ok (f_X11_share  h a0 a1 a2) (fun y => y = r) := ⟨_, hf, rfl⟩
  unfold f_X11_share at H
  refine r_ls (ls' := [(0, .ref a0), (1, .int a1), (2, .int a2)]) rfl ?_
  refine r_iload_n hZ dX11_share_0 rfl ?_
  refine r_iconst (v := (J 0)) hZ dX11_share_1 (by decide) ?_
  refine r_aload_n hZ dX11_share_2 rfl ?_
  obtain ⟨x1, ex1, H⟩ := ok_bind H
  refine r_getR hZ fl_X11_22_10 dX11_share_3 ex1 ?_
  obtain ⟨x2, ex2, H⟩ := ok_bind H
  refine r_getI hZ fl_X11_274_2 dX11_share_6 ex2 ?_
  refine r_iconst (v := (J 1)) hZ dX11_share_9 (by decide) ?_
  refine r_isub hZ dX11_share_10 ?_
  obtain ⟨r3, er3, H⟩ := ok_bind H
  refine r_callS (As := [.int a1, .int (J 0), .int (x2 - (J 1))]) (rest := []) (st1 := [.int r3]) (N2 := 0) hZ dX11_share_11 cw_X11_170 (s_X11_isWithin er3) rfl rfl (by decide) (Nat.le_of_ble_eq_true rfl) (Nat.le_refl 0) (Nat.le_refl _) (Or.inl rfl) rfl ?_
  refine r_if_eq (tgt := 24) hZ dX11_share_14 (by decide) (fun c14 => ?_) (fun c14 => ?_)
  · have H := ok_t H c14
    refine r_iconst (v := (J (-1))) hZ dX11_share_24 (by decide) ?_
    have H := ok_some H
    subst H
    exact r_iret hZ hF dX11_share_25
  · have H := ok_f H c14
    refine r_iload_n hZ dX11_share_17 rfl ?_
    obtain ⟨r4, er4, H⟩ := ok_bind H
    refine r_callS (As := [.int a2]) (rest := []) (st1 := [.int r4]) (N2 := 0) hZ dX11_share_18 cw_X11_279 (s_X11_isLoad er4) rfl rfl (by decide) (Nat.le_of_ble_eq_true rfl) (Nat.le_refl 0) (Nat.le_refl _) (Or.inl rfl) rfl ?_
    refine r_if_ne (tgt := 26) hZ dX11_share_21 (by decide) (fun c13 => ?_) (fun c13 => ?_)
    · have H := ok_f H c13
      refine r_aload_n hZ dX11_share_26 rfl ?_
      obtain ⟨x5, ex5, H⟩ := ok_bind H
      refine r_getR hZ fl_X11_22_10 dX11_share_27 ex5 ?_
      refine r_iload_n hZ dX11_share_30 rfl ?_
      obtain ⟨u6, eu6, H⟩ := ok_bind H
      obtain ⟨r7, er7, H⟩ := ok_bind H
      refine r_callV (As := [.int a2]) (rest := []) (st1 := [.int r7]) (N2 := 0) hZ dX11_share_31 cw_X11_282_X2 rfl eu6 (s_X2_leastPush er7) rfl rfl (by decide) (Nat.le_of_ble_eq_true rfl) (Nat.le_refl 0) (Nat.le_refl _) (Or.inl rfl) rfl ?_
      refine r_istore_n hZ dX11_share_34 (by decide) (r_pick [0, 1, 3] (ls' := [(0, .ref a0), (1, .int a1), (3, .int r7)]) rfl ?_)
      refine r_iload_n hZ dX11_share_35 rfl ?_
      refine r_bipush (v := (J (-4))) hZ dX11_share_36 (by decide) ?_
      refine ok_join (Q := fun j8 : Int32 => R Z 55 [] [.int j8] n h 0) H (fun j8 H => ?_) (fun H => ?_)
      · have H := ok_some H
        subst H
        exact r_iret hZ hF dX11_share_55
      · refine r_icmp_ne (tgt := 46) hZ dX11_share_38 (by decide) (fun c12 => ?_) (fun c12 => ?_)
        · have H := ok_f H c12
          refine r_aload_n hZ dX11_share_46 rfl ?_
          obtain ⟨x9, ex9, H⟩ := ok_bind H
          refine r_getR hZ fl_X11_22_10 dX11_share_47 ex9 ?_
          refine r_iload_n hZ dX11_share_50 rfl ?_
          refine r_iload_n hZ dX11_share_51 rfl ?_
          obtain ⟨u10, eu10, H⟩ := ok_bind H
          obtain ⟨r11, er11, H⟩ := ok_bind H
          refine r_callV (As := [.int a1, .int r7]) (rest := []) (st1 := [.int r11]) (N2 := 0) hZ dX11_share_52 cw_X11_285_X2 rfl eu10 (s_X2_shareAt er11) rfl rfl (by decide) (Nat.le_of_ble_eq_true rfl) (Nat.le_refl 0) (Nat.le_refl _) (Or.inl rfl) rfl ?_
          have H := ok_some H
          exact r_pick [] (ls' := []) rfl H
        · have H := ok_t H c12
          refine r_bipush (v := (J (-3))) hZ dX11_share_41 (by decide) ?_
          refine r_goto (tgt := 55) hZ dX11_share_43 (by decide) ?_
          have H := ok_some H
          exact r_pick [] (ls' := []) rfl H
    · have H := ok_t H c13
      refine r_iconst (v := (J (-1))) hZ dX11_share_24 (by decide) ?_
      have H := ok_some H
      subst H
      exact r_iret hZ hF dX11_share_25
def f_X11_bearing  (h : Hp) (a0 : Nat) (a1 : Int32) : Option (Int32) :=
  (f_X11_isLoad a1).bind fun r1 =>
  (if r1 = 0 then
    some (J (-1))
  else
    (gR h a0 10 2).bind fun x2 =>
    (isO h x2 2).bind fun u3 =>
    (f_X2_leastPush h x2 a1).bind fun r4 =>
    ((if r4 = (J (-4)) then
      some (J (-3))
    else
      (gR h a0 10 2).bind fun x6 =>
      (isO h x6 2).bind fun u7 =>
      (f_X2_bearersAt h x6 r4).bind fun r8 =>
      some r8)).bind fun (j5 : Int32) =>
    some j5)
set_option maxRecDepth 100000 in
set_option maxHeartbeats 4000000 in
theorem s_X11_bearing {n : Nat} {h : Hp} {a0 : Nat} {a1 : Int32}  {r : Int32} (hf : f_X11_bearing  h a0 a1 = some r) : Ev 5 yX11_bearing cX11_bearing 3 (some .int) [.ref a0, .int a1] n h (some (.int r)) n h := by
  refine Ev_of RX11 rfl (by decide) (Nat.le_of_ble_eq_true rfl) (Nat.le_refl _) (Or.inl rfl) (fun Z hZ hF hN hI => ?_)
  have H : Ok (f_X11_bearing  h a0 a1) (fun y => y = r) := ⟨_, hf, rfl⟩
  unfold f_X11_bearing at H
  refine r_ls (ls' := [(0, .ref a0), (1, .int a1)]) rfl ?_
  refine r_iload_n hZ dX11_bearing_0 rfl ?_
  obtain ⟨r1, er1, H⟩ := ok_bind H
  refine r_callS (As := [.int a1]) (rest := []) (st1 := [.int r1]) (N2 := 0) hZ dX11_bearing_1 cw_X11_279 (s_X11_isLoad er1) rfl rfl (by decide) (Nat.le_of_ble_eq_true rfl) (Nat.le_refl 0) (Nat.le_refl _) (Or.inl rfl) rfl ?_
  refine r_if_ne (tgt := 9) hZ dX11_bearing_4 (by decide) (fun c10 => ?_) (fun c10 => ?_)
  · have H := ok_f H c10
    refine r_aload_n hZ dX11_bearing_9 rfl ?_
    obtain ⟨x2, ex2, H⟩ := ok_bind H
    refine r_getR hZ fl_X11_22_10 dX11_bearing_10 ex2 ?_
    refine r_iload_n hZ dX11_bearing_13 rfl ?_
    obtain ⟨u3, eu3, H⟩ := ok_bind H
    obtain ⟨r4, er4, H⟩ := ok_bind H
    refine r_callV (As := [.int a1]) (rest := []) (st1 := [.int r4]) (N2 := 0) hZ dX11_bearing_14 cw_X11_282_X2 rfl eu3 (s_X2_leastPush er4) rfl rfl (by decide) (Nat.le_of_ble_eq_true rfl) (Nat.le_refl 0) (Nat.le_refl _) (Or.inl rfl) rfl ?_
    refine r_istore_n hZ dX11_bearing_17 (by decide) (r_pick [0, 2] (ls' := [(0, .ref a0), (2, .int r4)]) rfl ?_)
    refine r_iload_n hZ dX11_bearing_18 rfl ?_
    refine r_bipush (v := (J (-4))) hZ dX11_bearing_19 (by decide) ?_
    refine ok_join (Q := fun j5 : Int32 => R Z 37 [] [.int j5] n h 0) H (fun j5 H => ?_) (fun H => ?_)
    · have H := ok_some H
      subst H
      exact r_iret hZ hF dX11_bearing_37
    · refine r_icmp_ne (tgt := 29) hZ dX11_bearing_21 (by decide) (fun c9 => ?_) (fun c9 => ?_)
      · have H := ok_f H c9
        refine r_aload_n hZ dX11_bearing_29 rfl ?_
        obtain ⟨x6, ex6, H⟩ := ok_bind H
        refine r_getR hZ fl_X11_22_10 dX11_bearing_30 ex6 ?_
        refine r_iload_n hZ dX11_bearing_33 rfl ?_
        obtain ⟨u7, eu7, H⟩ := ok_bind H
        obtain ⟨r8, er8, H⟩ := ok_bind H
        refine r_callV (As := [.int r4]) (rest := []) (st1 := [.int r8]) (N2 := 0) hZ dX11_bearing_34 cw_X11_289_X2 rfl eu7 (s_X2_bearersAt er8) rfl rfl (by decide) (Nat.le_of_ble_eq_true rfl) (Nat.le_refl 0) (Nat.le_refl _) (Or.inl rfl) rfl ?_
        have H := ok_some H
        exact r_pick [] (ls' := []) rfl H
      · have H := ok_t H c9
        refine r_bipush (v := (J (-3))) hZ dX11_bearing_24 (by decide) ?_
        refine r_goto (tgt := 37) hZ dX11_bearing_26 (by decide) ?_
        have H := ok_some H
        exact r_pick [] (ls' := []) rfl H
  · have H := ok_t H c10
    refine r_iconst (v := (J (-1))) hZ dX11_bearing_7 (by decide) ?_
    have H := ok_some H
    subst H
    exact r_iret hZ hF dX11_bearing_8
def f_X11_fault  (h : Hp) (a0 : Nat) (a1 : Int32) : Option (Int32 × Hp) :=
  (f_X11_isShelf a1).bind fun r1 =>
  (if r1 = 0 then
    some ((J (-1)), h)
  else
    (gR h a0 10 8).bind fun x2 =>
    (aR h x2 4 a1).bind fun x3 =>
    (isO h x3 7).bind fun u4 =>
    (f_X8_bytesRefusal h x3).bind fun r5 =>
    (if r5 = 0 then
      (gR h a0 10 10).bind fun x6 =>
      (gR h a0 10 8).bind fun x7 =>
      (aR h x7 4 a1).bind fun x8 =>
      (gR h x8 7 4).bind fun x9 =>
      (gR h a0 10 8).bind fun x10 =>
      (aR h x10 4 a1).bind fun x11 =>
      (gI h x11 7 3).bind fun x12 =>
      (isO h x6 6).bind fun u13 =>
      (f_X7_readAll h x6 x9 x12).bind fun r14 =>
      (gR r14.2 a0 10 10).bind fun x15 =>
      (isO r14.2 x15 6).bind fun u16 =>
      (f_X7_faultPlace r14.2 x15).bind fun r17 =>
      some (r17, r14.2)
    else
      some (r5, h)))
set_option maxRecDepth 100000 in
set_option maxHeartbeats 4000000 in
theorem s_X11_fault {n : Nat} {h : Hp} {a0 : Nat} {a1 : Int32}  {r : Int32 × Hp} (hf : f_X11_fault  h a0 a1 = some r) : Ev 28 yX11_fault cX11_fault 3 (some .int) [.ref a0, .int a1] n h (some (.int r.1)) n r.2 := by
  refine Ev_of RX11 rfl (by decide) (Nat.le_of_ble_eq_true rfl) (Nat.le_refl _) (Or.inl rfl) (fun Z hZ hF hN hI => ?_)
  have H : Ok (f_X11_fault  h a0 a1) (fun y => y = r) := ⟨_, hf, rfl⟩
  unfold f_X11_fault at H
  refine r_ls (ls' := [(0, .ref a0), (1, .int a1)]) rfl ?_
  refine r_iload_n hZ dX11_fault_0 rfl ?_
  obtain ⟨r1, er1, H⟩ := ok_bind H
  refine r_callS (As := [.int a1]) (rest := []) (st1 := [.int r1]) (N2 := 0) hZ dX11_fault_1 cw_X11_94 (s_X11_isShelf er1) rfl rfl (by decide) (Nat.le_of_ble_eq_true rfl) (Nat.le_refl 0) (Nat.le_refl _) (Or.inl rfl) rfl ?_
  refine r_if_ne (tgt := 9) hZ dX11_fault_4 (by decide) (fun c19 => ?_) (fun c19 => ?_)
  · have H := ok_f H c19
    refine r_aload_n hZ dX11_fault_9 rfl ?_
    obtain ⟨x2, ex2, H⟩ := ok_bind H
    refine r_getR hZ fl_X11_44_10 dX11_fault_10 ex2 ?_
    refine r_iload_n hZ dX11_fault_13 rfl ?_
    obtain ⟨x3, ex3, H⟩ := ok_bind H
    refine r_aR hZ dX11_fault_14 ex3 (fun _ => rfl) (Or.inl ⟨_, rfl⟩) ?_
    obtain ⟨u4, eu4, H⟩ := ok_bind H
    obtain ⟨r5, er5, H⟩ := ok_bind H
    refine r_callV (As := []) (rest := []) (st1 := [.int r5]) (N2 := 0) hZ dX11_fault_15 cw_X11_98_X8 rfl eu4 (s_X8_bytesRefusal er5) rfl rfl (by decide) (Nat.le_of_ble_eq_true rfl) (Nat.le_refl 0) (Nat.le_refl _) (Or.inl rfl) rfl ?_
    refine r_istore_n hZ dX11_fault_18 (by decide) (r_pick [0, 1, 2] (ls' := [(0, .ref a0), (1, .int a1), (2, .int r5)]) rfl ?_)
    refine r_iload_n hZ dX11_fault_19 rfl ?_
    refine r_if_eq (tgt := 25) hZ dX11_fault_20 (by decide) (fun c18 => ?_) (fun c18 => ?_)
    · have H := ok_t H c18
      refine r_aload_n hZ dX11_fault_25 rfl ?_
      obtain ⟨x6, ex6, H⟩ := ok_bind H
      refine r_getR hZ fl_X11_58_10 dX11_fault_26 ex6 ?_
      refine r_aload_n hZ dX11_fault_29 rfl ?_
      obtain ⟨x7, ex7, H⟩ := ok_bind H
      refine r_getR hZ fl_X11_44_10 dX11_fault_30 ex7 ?_
      refine r_iload_n hZ dX11_fault_33 rfl ?_
      obtain ⟨x8, ex8, H⟩ := ok_bind H
      refine r_aR hZ dX11_fault_34 ex8 (fun _ => rfl) (Or.inl ⟨_, rfl⟩) ?_
      obtain ⟨x9, ex9, H⟩ := ok_bind H
      refine r_getR hZ fl_X11_102_7 dX11_fault_35 ex9 ?_
      refine r_aload_n hZ dX11_fault_38 rfl ?_
      obtain ⟨x10, ex10, H⟩ := ok_bind H
      refine r_getR hZ fl_X11_44_10 dX11_fault_39 ex10 ?_
      refine r_iload_n hZ dX11_fault_42 rfl ?_
      obtain ⟨x11, ex11, H⟩ := ok_bind H
      refine r_aR hZ dX11_fault_43 ex11 (fun _ => rfl) (Or.inl ⟨_, rfl⟩) ?_
      obtain ⟨x12, ex12, H⟩ := ok_bind H
      refine r_getI hZ fl_X11_106_7 dX11_fault_44 ex12 ?_
      obtain ⟨u13, eu13, H⟩ := ok_bind H
      obtain ⟨r14, er14, H⟩ := ok_bind H
      refine r_callV (As := [.ref x9, .int x12]) (rest := []) (st1 := [.int r14.1]) (N2 := 0) hZ dX11_fault_47 cw_X11_292_X7 rfl eu13 (s_X7_readAll er14) rfl rfl (by decide) (Nat.le_of_ble_eq_true rfl) (Nat.le_refl 0) (Nat.le_refl _) (Or.inl rfl) rfl ?_
      refine r_pop_i hZ dX11_fault_50 ?_
      refine r_aload_n hZ dX11_fault_51 rfl ?_
      obtain ⟨x15, ex15, H⟩ := ok_bind H
      refine r_getR hZ fl_X11_58_10 dX11_fault_52 ex15 ?_
      obtain ⟨u16, eu16, H⟩ := ok_bind H
      obtain ⟨r17, er17, H⟩ := ok_bind H
      refine r_callV (As := []) (rest := []) (st1 := [.int r17]) (N2 := 0) hZ dX11_fault_55 cw_X11_296_X7 rfl eu16 (s_X7_faultPlace er17) rfl rfl (by decide) (Nat.le_of_ble_eq_true rfl) (Nat.le_refl 0) (Nat.le_refl _) (Or.inl rfl) rfl ?_
      have H := ok_some H
      subst H
      exact r_iret hZ hF dX11_fault_58
    · have H := ok_f H c18
      refine r_iload_n hZ dX11_fault_23 rfl ?_
      have H := ok_some H
      subst H
      exact r_iret hZ hF dX11_fault_24
  · have H := ok_t H c19
    refine r_iconst (v := (J (-1))) hZ dX11_fault_7 (by decide) ?_
    have H := ok_some H
    subst H
    exact r_iret hZ hF dX11_fault_8
def f_X11_rule  (h : Hp) (a0 : Nat) (a1 : Int32) : Option (Int32 × Hp) :=
  (f_X11_isShelf a1).bind fun r1 =>
  (if r1 = 0 then
    some ((J (-1)), h)
  else
    (gR h a0 10 3).bind fun x2 =>
    (gI h x2 5 2).bind fun x3 =>
    (if x3 < (J 12) then
      (gR h a0 10 8).bind fun x4 =>
      (aR h x4 4 a1).bind fun x5 =>
      (isO h x5 7).bind fun u6 =>
      (f_X8_bytesRefusal h x5).bind fun r7 =>
      (if r7 = 0 then
        (gR h a0 10 10).bind fun x8 =>
        (gR h x5 7 4).bind fun x9 =>
        (gI h x5 7 3).bind fun x10 =>
        (isO h x8 6).bind fun u11 =>
        (f_X7_readAll h x8 x9 x10).bind fun r12 =>
        (gR r12.2 a0 10 10).bind fun x13 =>
        (isO r12.2 x13 6).bind fun u14 =>
        (f_X7_faultPlace r12.2 x13).bind fun r15 =>
        (if r15 = (J (-4)) then
          (gR r12.2 a0 10 3).bind fun x16 =>
          (gR r12.2 x5 7 4).bind fun x17 =>
          (gI r12.2 x5 7 3).bind fun x18 =>
          (isO r12.2 x16 5).bind fun u19 =>
          (f_X6_addRule r12.2 x16 x17 x18).bind fun r20 =>
          (gR r20 a0 10 3).bind fun x21 =>
          (gI r20 x21 5 2).bind fun x22 =>
          some ((x22 - (J 1)), r20)
        else
          (gR r12.2 a0 10 10).bind fun x23 =>
          (isO r12.2 x23 6).bind fun u24 =>
          (f_X7_faultPlace r12.2 x23).bind fun r25 =>
          some (((J (-100)) - r25), r12.2))
      else
        some (r7, h))
    else
      some ((J (-2)), h)))
set_option maxRecDepth 100000 in
set_option maxHeartbeats 4000000 in
theorem s_X11_rule {n : Nat} {h : Hp} {a0 : Nat} {a1 : Int32}  {r : Int32 × Hp} (hf : f_X11_rule  h a0 a1 = some r) : Ev 28 yX11_rule cX11_rule 4 (some .int) [.ref a0, .int a1] n h (some (.int r.1)) n r.2 := by
  refine Ev_of RX11 rfl (by decide) (Nat.le_of_ble_eq_true rfl) (Nat.le_refl _) (Or.inl rfl) (fun Z hZ hF hN hI => ?_)
  have H : Ok (f_X11_rule  h a0 a1) (fun y => y = r) := ⟨_, hf, rfl⟩
  unfold f_X11_rule at H
  refine r_ls (ls' := [(0, .ref a0), (1, .int a1)]) rfl ?_
  refine r_iload_n hZ dX11_rule_0 rfl ?_
  obtain ⟨r1, er1, H⟩ := ok_bind H
  refine r_callS (As := [.int a1]) (rest := []) (st1 := [.int r1]) (N2 := 0) hZ dX11_rule_1 cw_X11_94 (s_X11_isShelf er1) rfl rfl (by decide) (Nat.le_of_ble_eq_true rfl) (Nat.le_refl 0) (Nat.le_refl _) (Or.inl rfl) rfl ?_
  refine r_if_ne (tgt := 9) hZ dX11_rule_4 (by decide) (fun c29 => ?_) (fun c29 => ?_)
  · have H := ok_f H c29
    refine r_aload_n hZ dX11_rule_9 rfl ?_
    obtain ⟨x2, ex2, H⟩ := ok_bind H
    refine r_getR hZ fl_X11_29_10 dX11_rule_10 ex2 ?_
    obtain ⟨x3, ex3, H⟩ := ok_bind H
    refine r_getI hZ fl_X11_299_5 dX11_rule_13 ex3 ?_
    refine r_bipush (v := (J 12)) hZ dX11_rule_16 (by decide) ?_
    refine r_icmp_lt (tgt := 24) hZ dX11_rule_18 (by decide) (fun c28 => ?_) (fun c28 => ?_)
    · have H := ok_t H c28
      refine r_aload_n hZ dX11_rule_24 rfl ?_
      obtain ⟨x4, ex4, H⟩ := ok_bind H
      refine r_getR hZ fl_X11_44_10 dX11_rule_25 ex4 ?_
      refine r_iload_n hZ dX11_rule_28 rfl ?_
      obtain ⟨x5, ex5, H⟩ := ok_bind H
      refine r_aR hZ dX11_rule_29 ex5 (fun _ => rfl) (Or.inl ⟨_, rfl⟩) ?_
      refine r_astore_n hZ dX11_rule_30 (by decide) (r_pick [0, 2] (ls' := [(0, .ref a0), (2, .ref x5)]) rfl ?_)
      refine r_aload_n hZ dX11_rule_31 rfl ?_
      obtain ⟨u6, eu6, H⟩ := ok_bind H
      obtain ⟨r7, er7, H⟩ := ok_bind H
      refine r_callV (As := []) (rest := []) (st1 := [.int r7]) (N2 := 0) hZ dX11_rule_32 cw_X11_98_X8 rfl eu6 (s_X8_bytesRefusal er7) rfl rfl (by decide) (Nat.le_of_ble_eq_true rfl) (Nat.le_refl 0) (Nat.le_refl _) (Or.inl rfl) rfl ?_
      refine r_istore_n hZ dX11_rule_35 (by decide) (r_pick [0, 2, 3] (ls' := [(0, .ref a0), (2, .ref x5), (3, .int r7)]) rfl ?_)
      refine r_iload_n hZ dX11_rule_36 rfl ?_
      refine r_if_eq (tgt := 42) hZ dX11_rule_37 (by decide) (fun c27 => ?_) (fun c27 => ?_)
      · have H := ok_t H c27
        refine r_aload_n hZ dX11_rule_42 rfl ?_
        obtain ⟨x8, ex8, H⟩ := ok_bind H
        refine r_getR hZ fl_X11_58_10 dX11_rule_43 ex8 ?_
        refine r_aload_n hZ dX11_rule_46 rfl ?_
        obtain ⟨x9, ex9, H⟩ := ok_bind H
        refine r_getR hZ fl_X11_102_7 dX11_rule_47 ex9 ?_
        refine r_aload_n hZ dX11_rule_50 rfl ?_
        obtain ⟨x10, ex10, H⟩ := ok_bind H
        refine r_getI hZ fl_X11_106_7 dX11_rule_51 ex10 ?_
        obtain ⟨u11, eu11, H⟩ := ok_bind H
        obtain ⟨r12, er12, H⟩ := ok_bind H
        refine r_callV (As := [.ref x9, .int x10]) (rest := []) (st1 := [.int r12.1]) (N2 := 0) hZ dX11_rule_54 cw_X11_292_X7 rfl eu11 (s_X7_readAll er12) rfl rfl (by decide) (Nat.le_of_ble_eq_true rfl) (Nat.le_refl 0) (Nat.le_refl _) (Or.inl rfl) rfl ?_
        refine r_pop_i hZ dX11_rule_57 ?_
        refine r_aload_n hZ dX11_rule_58 rfl ?_
        obtain ⟨x13, ex13, H⟩ := ok_bind H
        refine r_getR hZ fl_X11_58_10 dX11_rule_59 ex13 ?_
        obtain ⟨u14, eu14, H⟩ := ok_bind H
        obtain ⟨r15, er15, H⟩ := ok_bind H
        refine r_callV (As := []) (rest := []) (st1 := [.int r15]) (N2 := 0) hZ dX11_rule_62 cw_X11_296_X7 rfl eu14 (s_X7_faultPlace er15) rfl rfl (by decide) (Nat.le_of_ble_eq_true rfl) (Nat.le_refl 0) (Nat.le_refl _) (Or.inl rfl) rfl ?_
        refine r_bipush (v := (J (-4))) hZ dX11_rule_65 (by decide) ?_
        refine r_icmp_eq (tgt := 81) hZ dX11_rule_67 (by decide) (fun c26 => ?_) (fun c26 => ?_)
        · have H := ok_t H c26
          refine r_aload_n hZ dX11_rule_81 rfl ?_
          obtain ⟨x16, ex16, H⟩ := ok_bind H
          refine r_getR hZ fl_X11_29_10 dX11_rule_82 ex16 ?_
          refine r_aload_n hZ dX11_rule_85 rfl ?_
          obtain ⟨x17, ex17, H⟩ := ok_bind H
          refine r_getR hZ fl_X11_102_7 dX11_rule_86 ex17 ?_
          refine r_aload_n hZ dX11_rule_89 rfl ?_
          obtain ⟨x18, ex18, H⟩ := ok_bind H
          refine r_getI hZ fl_X11_106_7 dX11_rule_90 ex18 ?_
          obtain ⟨u19, eu19, H⟩ := ok_bind H
          obtain ⟨r20, er20, H⟩ := ok_bind H
          refine r_callV (As := [.ref x17, .int x18]) (rest := []) (st1 := []) (N2 := 0) hZ dX11_rule_93 cw_X11_300_X6 rfl eu19 (s_X6_addRule er20) rfl rfl (by decide) (Nat.le_of_ble_eq_true rfl) (Nat.le_refl 0) (Nat.le_refl _) (Or.inl rfl) rfl ?_
          refine r_aload_n hZ dX11_rule_96 rfl ?_
          obtain ⟨x21, ex21, H⟩ := ok_bind H
          refine r_getR hZ fl_X11_29_10 dX11_rule_97 ex21 ?_
          obtain ⟨x22, ex22, H⟩ := ok_bind H
          refine r_getI hZ fl_X11_299_5 dX11_rule_100 ex22 ?_
          refine r_iconst (v := (J 1)) hZ dX11_rule_103 (by decide) ?_
          refine r_isub hZ dX11_rule_104 ?_
          have H := ok_some H
          subst H
          exact r_iret hZ hF dX11_rule_105
        · have H := ok_f H c26
          refine r_bipush (v := (J (-100))) hZ dX11_rule_70 (by decide) ?_
          refine r_aload_n hZ dX11_rule_72 rfl ?_
          obtain ⟨x23, ex23, H⟩ := ok_bind H
          refine r_getR hZ fl_X11_58_10 dX11_rule_73 ex23 ?_
          obtain ⟨u24, eu24, H⟩ := ok_bind H
          obtain ⟨r25, er25, H⟩ := ok_bind H
          refine r_callV (As := []) (rest := [.int (J (-100))]) (st1 := [.int r25, .int (J (-100))]) (N2 := 0) hZ dX11_rule_76 cw_X11_296_X7 rfl eu24 (s_X7_faultPlace er25) rfl rfl (by decide) (Nat.le_of_ble_eq_true rfl) (Nat.le_refl 0) (Nat.le_refl _) (Or.inl rfl) rfl ?_
          refine r_isub hZ dX11_rule_79 ?_
          have H := ok_some H
          subst H
          exact r_iret hZ hF dX11_rule_80
      · have H := ok_f H c27
        refine r_iload_n hZ dX11_rule_40 rfl ?_
        have H := ok_some H
        subst H
        exact r_iret hZ hF dX11_rule_41
    · have H := ok_f H c28
      refine r_bipush (v := (J (-2))) hZ dX11_rule_21 (by decide) ?_
      have H := ok_some H
      subst H
      exact r_iret hZ hF dX11_rule_23
  · have H := ok_t H c29
    refine r_iconst (v := (J (-1))) hZ dX11_rule_7 (by decide) ?_
    have H := ok_some H
    subst H
    exact r_iret hZ hF dX11_rule_8
def f_X11_isRule  (h : Hp) (a0 : Nat) (a1 : Int32) : Option (Int32) :=
  (gR h a0 10 3).bind fun x1 =>
  (gI h x1 5 2).bind fun x2 =>
  (f_X11_isWithin a1 (J 0) (x2 - (J 1))).bind fun r3 =>
  (bz r3).bind fun u4 =>
  some r3
set_option maxRecDepth 100000 in
set_option maxHeartbeats 4000000 in
theorem s_X11_isRule {n : Nat} {h : Hp} {a0 : Nat} {a1 : Int32}  {r : Int32} (hf : f_X11_isRule  h a0 a1 = some r) : Ev 3 yX11_isRule cX11_isRule 2 (some .boolean) [.ref a0, .int a1] n h (some (.int r)) n h := by
  refine Ev_of RX11 rfl (by decide) (Nat.le_of_ble_eq_true rfl) (Nat.le_refl _) (Or.inl rfl) (fun Z hZ hF hN hI => ?_)
  have H : Ok (f_X11_isRule  h a0 a1) (fun y => y = r) := ⟨_, hf, rfl⟩
  unfold f_X11_isRule at H
  refine r_ls (ls' := [(0, .ref a0), (1, .int a1)]) rfl ?_
  refine r_iload_n hZ dX11_isRule_0 rfl ?_
  refine r_iconst (v := (J 0)) hZ dX11_isRule_1 (by decide) ?_
  refine r_aload_n hZ dX11_isRule_2 rfl ?_
  obtain ⟨x1, ex1, H⟩ := ok_bind H
  refine r_getR hZ fl_X11_29_10 dX11_isRule_3 ex1 ?_
  obtain ⟨x2, ex2, H⟩ := ok_bind H
  refine r_getI hZ fl_X11_299_5 dX11_isRule_6 ex2 ?_
  refine r_iconst (v := (J 1)) hZ dX11_isRule_9 (by decide) ?_
  refine r_isub hZ dX11_isRule_10 ?_
  obtain ⟨r3, er3, H⟩ := ok_bind H
  refine r_callS (As := [.int a1, .int (J 0), .int (x2 - (J 1))]) (rest := []) (st1 := [.int r3]) (N2 := 0) hZ dX11_isRule_11 cw_X11_170 (s_X11_isWithin er3) rfl rfl (by decide) (Nat.le_of_ble_eq_true rfl) (Nat.le_refl 0) (Nat.le_refl _) (Or.inl rfl) rfl ?_
  obtain ⟨u4, eu4, H⟩ := ok_bind H
  have H := ok_some H
  subst H
  exact r_zret hZ hF eu4 dX11_isRule_14
def f_X11_holds  (h : Hp) (a0 : Nat) (a1 : Int32) (a2 : Int32) : Option (Int32 × Hp) :=
  (isO h a0 10).bind fun u1 =>
  (f_X11_isRule h a0 a1).bind fun r2 =>
  (if r2 = 0 then
    some ((J (-1)), h)
  else
    (isO h a0 10).bind fun u3 =>
    (f_X11_isMesh h a0 a2).bind fun r4 =>
    (if r4 = 0 then
      some ((J (-1)), h)
    else
      (isO h a0 10).bind fun u5 =>
      (f_X11_rollAsItIs h a0 a2).bind fun r6 =>
      (gR r6 a0 10 14).bind fun x7 =>
      (gR r6 a0 10 10).bind fun x8 =>
      (gR r6 x8 6 4).bind fun x9 =>
      (isO r6 x7 4).bind fun u10 =>
      (f_X5_tellFields r6 x7 x9 (J 0)).bind fun r11 =>
      (gR r11 a0 10 10).bind fun x12 =>
      (gR r11 a0 10 3).bind fun x13 =>
      (gR r11 x13 5 0).bind fun x14 =>
      (aR r11 x14 5 a1).bind fun x15 =>
      (gR r11 a0 10 3).bind fun x16 =>
      (gR r11 x16 5 1).bind fun x17 =>
      (aI r11 x17 a1).bind fun x18 =>
      (isO r11 x12 6).bind fun u19 =>
      (f_X7_readAll r11 x12 x15 x18).bind fun r20 =>
      ((if r20.1 = 0 then
        some (J 0)
      else
        some (J 1))).bind fun (j21 : Int32) =>
      some (j21, r20.2)))
set_option maxRecDepth 100000 in
set_option maxHeartbeats 4000000 in
theorem s_X11_holds {n : Nat} {h : Hp} {a0 : Nat} {a1 : Int32} {a2 : Int32}  {r : Int32 × Hp} (hf : f_X11_holds  h a0 a1 a2 = some r) : Ev 28 yX11_holds cX11_holds 3 (some .int) [.ref a0, .int a1, .int a2] n h (some (.int r.1)) n r.2 := by
  refine Ev_of RX11 rfl (by decide) (Nat.le_of_ble_eq_true rfl) (Nat.le_refl _) (Or.inl rfl) (fun Z hZ hF hN hI => ?_)
  have H : Ok (f_X11_holds  h a0 a1 a2) (fun y => y = r) := ⟨_, hf, rfl⟩
  unfold f_X11_holds at H
  refine r_ls (ls' := [(0, .ref a0), (1, .int a1), (2, .int a2)]) rfl ?_
  refine r_aload_n hZ dX11_holds_0 rfl ?_
  refine r_iload_n hZ dX11_holds_1 rfl ?_
  obtain ⟨u1, eu1, H⟩ := ok_bind H
  obtain ⟨r2, er2, H⟩ := ok_bind H
  refine r_callV (As := [.int a1]) (rest := []) (st1 := [.int r2]) (N2 := 0) hZ dX11_holds_2 cw_X11_303_X11 rfl eu1 (s_X11_isRule er2) rfl rfl (by decide) (Nat.le_of_ble_eq_true rfl) (Nat.le_refl 0) (Nat.le_refl _) (Or.inl rfl) rfl ?_
  refine r_if_eq (tgt := 16) hZ dX11_holds_5 (by decide) (fun c24 => ?_) (fun c24 => ?_)
  · have H := ok_t H c24
    refine r_iconst (v := (J (-1))) hZ dX11_holds_16 (by decide) ?_
    have H := ok_some H
    subst H
    exact r_iret hZ hF dX11_holds_17
  · have H := ok_f H c24
    refine r_aload_n hZ dX11_holds_8 rfl ?_
    refine r_iload_n hZ dX11_holds_9 rfl ?_
    obtain ⟨u3, eu3, H⟩ := ok_bind H
    obtain ⟨r4, er4, H⟩ := ok_bind H
    refine r_callV (As := [.int a2]) (rest := []) (st1 := [.int r4]) (N2 := 0) hZ dX11_holds_10 cw_X11_177_X11 rfl eu3 (s_X11_isMesh er4) rfl rfl (by decide) (Nat.le_of_ble_eq_true rfl) (Nat.le_refl 0) (Nat.le_refl _) (Or.inl rfl) rfl ?_
    refine r_if_ne (tgt := 18) hZ dX11_holds_13 (by decide) (fun c23 => ?_) (fun c23 => ?_)
    · have H := ok_f H c23
      refine r_aload_n hZ dX11_holds_18 rfl ?_
      refine r_iload_n hZ dX11_holds_19 rfl ?_
      obtain ⟨u5, eu5, H⟩ := ok_bind H
      obtain ⟨r6, er6, H⟩ := ok_bind H
      refine r_callV (As := [.int a2]) (rest := []) (st1 := []) (N2 := 0) hZ dX11_holds_20 cw_X11_234_X11 rfl eu5 (s_X11_rollAsItIs er6) rfl rfl (by decide) (Nat.le_of_ble_eq_true rfl) (Nat.le_refl 0) (Nat.le_refl _) (Or.inl rfl) rfl ?_
      refine r_aload_n hZ dX11_holds_23 rfl ?_
      obtain ⟨x7, ex7, H⟩ := ok_bind H
      refine r_getR hZ fl_X11_82_10 dX11_holds_24 ex7 ?_
      refine r_aload_n hZ dX11_holds_27 rfl ?_
      obtain ⟨x8, ex8, H⟩ := ok_bind H
      refine r_getR hZ fl_X11_58_10 dX11_holds_28 ex8 ?_
      obtain ⟨x9, ex9, H⟩ := ok_bind H
      refine r_getR hZ fl_X11_306_6 dX11_holds_31 ex9 ?_
      refine r_iconst (v := (J 0)) hZ dX11_holds_34 (by decide) ?_
      obtain ⟨u10, eu10, H⟩ := ok_bind H
      obtain ⟨r11, er11, H⟩ := ok_bind H
      refine r_callV (As := [.ref x9, .int (J 0)]) (rest := []) (st1 := []) (N2 := 0) hZ dX11_holds_35 cw_X11_309_X5 rfl eu10 (s_X5_tellFields er11) rfl rfl (by decide) (Nat.le_of_ble_eq_true rfl) (Nat.le_refl 0) (Nat.le_refl _) (Or.inl rfl) rfl ?_
      refine r_aload_n hZ dX11_holds_38 rfl ?_
      obtain ⟨x12, ex12, H⟩ := ok_bind H
      refine r_getR hZ fl_X11_58_10 dX11_holds_39 ex12 ?_
      refine r_aload_n hZ dX11_holds_42 rfl ?_
      obtain ⟨x13, ex13, H⟩ := ok_bind H
      refine r_getR hZ fl_X11_29_10 dX11_holds_43 ex13 ?_
      obtain ⟨x14, ex14, H⟩ := ok_bind H
      refine r_getR hZ fl_X11_312_5 dX11_holds_46 ex14 ?_
      refine r_iload_n hZ dX11_holds_49 rfl ?_
      obtain ⟨x15, ex15, H⟩ := ok_bind H
      refine r_aR hZ dX11_holds_50 ex15 (fun _ => rfl) (Or.inr rfl) ?_
      refine r_aload_n hZ dX11_holds_51 rfl ?_
      obtain ⟨x16, ex16, H⟩ := ok_bind H
      refine r_getR hZ fl_X11_29_10 dX11_holds_52 ex16 ?_
      obtain ⟨x17, ex17, H⟩ := ok_bind H
      refine r_getR hZ fl_X11_316_5 dX11_holds_55 ex17 ?_
      refine r_iload_n hZ dX11_holds_58 rfl ?_
      obtain ⟨x18, ex18, H⟩ := ok_bind H
      refine r_aI hZ dX11_holds_59 ex18 ?_
      obtain ⟨u19, eu19, H⟩ := ok_bind H
      obtain ⟨r20, er20, H⟩ := ok_bind H
      refine r_callV (As := [.ref x15, .int x18]) (rest := []) (st1 := [.int r20.1]) (N2 := 0) hZ dX11_holds_60 cw_X11_292_X7 rfl eu19 (s_X7_readAll er20) rfl rfl (by decide) (Nat.le_of_ble_eq_true rfl) (Nat.le_refl 0) (Nat.le_refl _) (Or.inl rfl) rfl ?_
      refine ok_join (Q := fun j21 : Int32 => R Z 71 [] [.int j21] n r20.2 0) H (fun j21 H => ?_) (fun H => ?_)
      · have H := ok_some H
        subst H
        exact r_iret hZ hF dX11_holds_71
      · refine r_if_eq (tgt := 70) hZ dX11_holds_63 (by decide) (fun c22 => ?_) (fun c22 => ?_)
        · have H := ok_t H c22
          refine r_iconst (v := (J 0)) hZ dX11_holds_70 (by decide) ?_
          have H := ok_some H
          exact r_pick [] (ls' := []) rfl H
        · have H := ok_f H c22
          refine r_iconst (v := (J 1)) hZ dX11_holds_66 (by decide) ?_
          refine r_goto (tgt := 71) hZ dX11_holds_67 (by decide) ?_
          have H := ok_some H
          exact r_pick [] (ls' := []) rfl H
    · have H := ok_t H c23
      refine r_iconst (v := (J (-1))) hZ dX11_holds_16 (by decide) ?_
      have H := ok_some H
      subst H
      exact r_iret hZ hF dX11_holds_17
def b_X11_watch_33 (p0 : Nat) (p1 : Int32) (p3 : Int32) (s : Int32 × Hp) : Option ((Int32 × Hp) ⊕ ((Hp) ⊕ (Int32 × Hp))) :=
  (if (J 200) < s.1 then
    some (.inr (.inl s.2))
  else
    (gR s.2 p0 10 14).bind fun x1 =>
    (gR s.2 p0 10 10).bind fun x2 =>
    (gR s.2 x2 6 4).bind fun x3 =>
    (isO s.2 x1 4).bind fun u4 =>
    (f_X5_tellFields s.2 x1 x3 s.1).bind fun r5 =>
    (gR r5 p0 10 10).bind fun x6 =>
    (gR r5 p0 10 3).bind fun x7 =>
    (gR r5 x7 5 0).bind fun x8 =>
    (aR r5 x8 5 p1).bind fun x9 =>
    (gR r5 p0 10 3).bind fun x10 =>
    (gR r5 x10 5 1).bind fun x11 =>
    (aI r5 x11 p1).bind fun x12 =>
    (isO r5 x6 6).bind fun u13 =>
    (f_X7_readAll r5 x6 x9 x12).bind fun r14 =>
    (if r14.1 = 0 then
      (gR r14.2 p0 10 14).bind fun x15 =>
      (isO r14.2 x15 4).bind fun u16 =>
      (f_X5_wearRound r14.2 x15 p3).bind fun r17 =>
      (gR r17 p0 10 14).bind fun x18 =>
      (isO r17 x18 4).bind fun u19 =>
      (f_X5_measure r17 x18).bind fun r20 =>
      (some (s.1 + (J 1))).bind fun x21 =>
      some (.inl (x21, r20))
    else
      some (.inr (.inr (s.1, r14.2)))))
set_option maxRecDepth 100000 in
set_option maxHeartbeats 4000000 in
theorem l_X11_watch_33 {Z : Zc} (hZ : Fx cX11_watch RX11 5 28 0 Z) {n : Nat} {p0 : Nat} {p1 : Int32} {p3 : Int32} {P : ((Hp) ⊕ (Int32 × Hp)) → Prop} (hx0 : ∀ e : Hp, P (.inl e) → R Z 109 [] [] n e 0) (hx1 : ∀ e : Int32 × Hp, P (.inr e) → R Z 85 [(4, .int e.1)] [] n e.2 0) : ∀ (m : Nat) (s : Int32 × Hp), Ok (iter (b_X11_watch_33 p0 p1 p3) m s) P → R Z 33 [(0, .ref p0), (1, .int p1), (3, .int p3), (4, .int s.1)] [] n s.2 0 := by
  intro m
  induction m with
  | zero => exact fun s H => ok_iter0 H
  | succ m ih =>
    intro s H
    have H := ok_iter H
    unfold b_X11_watch_33 at H
    refine r_iload hZ dX11_watch_33 rfl ?_
    refine r_sipush (v := (J 200)) hZ dX11_watch_35 (by decide) ?_
    refine r_icmp_gt (tgt := 109) hZ dX11_watch_38 (by decide) (fun c23 => ?_) (fun c23 => ?_)
    · have H := ok_t H c23
      exact r_pick [] (ls' := []) rfl (hx0 _ (ki_r H))
    · have H := ok_f H c23
      refine r_aload_n hZ dX11_watch_41 rfl ?_
      obtain ⟨x1, ex1, H⟩ := ok_bind H
      refine r_getR hZ fl_X11_82_10 dX11_watch_42 ex1 ?_
      refine r_aload_n hZ dX11_watch_45 rfl ?_
      obtain ⟨x2, ex2, H⟩ := ok_bind H
      refine r_getR hZ fl_X11_58_10 dX11_watch_46 ex2 ?_
      obtain ⟨x3, ex3, H⟩ := ok_bind H
      refine r_getR hZ fl_X11_306_6 dX11_watch_49 ex3 ?_
      refine r_iload hZ dX11_watch_52 rfl ?_
      obtain ⟨u4, eu4, H⟩ := ok_bind H
      obtain ⟨r5, er5, H⟩ := ok_bind H
      refine r_callV (As := [.ref x3, .int s.1]) (rest := []) (st1 := []) (N2 := 0) hZ dX11_watch_54 cw_X11_309_X5 rfl eu4 (s_X5_tellFields er5) rfl rfl (by decide) (Nat.le_of_ble_eq_true rfl) (Nat.le_refl 0) (Nat.le_refl _) (Or.inl rfl) rfl ?_
      refine r_aload_n hZ dX11_watch_57 rfl ?_
      obtain ⟨x6, ex6, H⟩ := ok_bind H
      refine r_getR hZ fl_X11_58_10 dX11_watch_58 ex6 ?_
      refine r_aload_n hZ dX11_watch_61 rfl ?_
      obtain ⟨x7, ex7, H⟩ := ok_bind H
      refine r_getR hZ fl_X11_29_10 dX11_watch_62 ex7 ?_
      obtain ⟨x8, ex8, H⟩ := ok_bind H
      refine r_getR hZ fl_X11_312_5 dX11_watch_65 ex8 ?_
      refine r_iload_n hZ dX11_watch_68 rfl ?_
      obtain ⟨x9, ex9, H⟩ := ok_bind H
      refine r_aR hZ dX11_watch_69 ex9 (fun _ => rfl) (Or.inr rfl) ?_
      refine r_aload_n hZ dX11_watch_70 rfl ?_
      obtain ⟨x10, ex10, H⟩ := ok_bind H
      refine r_getR hZ fl_X11_29_10 dX11_watch_71 ex10 ?_
      obtain ⟨x11, ex11, H⟩ := ok_bind H
      refine r_getR hZ fl_X11_316_5 dX11_watch_74 ex11 ?_
      refine r_iload_n hZ dX11_watch_77 rfl ?_
      obtain ⟨x12, ex12, H⟩ := ok_bind H
      refine r_aI hZ dX11_watch_78 ex12 ?_
      obtain ⟨u13, eu13, H⟩ := ok_bind H
      obtain ⟨r14, er14, H⟩ := ok_bind H
      refine r_callV (As := [.ref x9, .int x12]) (rest := []) (st1 := [.int r14.1]) (N2 := 0) hZ dX11_watch_79 cw_X11_292_X7 rfl eu13 (s_X7_readAll er14) rfl rfl (by decide) (Nat.le_of_ble_eq_true rfl) (Nat.le_refl 0) (Nat.le_refl _) (Or.inl rfl) rfl ?_
      refine r_if_eq (tgt := 88) hZ dX11_watch_82 (by decide) (fun c22 => ?_) (fun c22 => ?_)
      · have H := ok_t H c22
        refine r_aload_n hZ dX11_watch_88 rfl ?_
        obtain ⟨x15, ex15, H⟩ := ok_bind H
        refine r_getR hZ fl_X11_82_10 dX11_watch_89 ex15 ?_
        refine r_iload_n hZ dX11_watch_92 rfl ?_
        obtain ⟨u16, eu16, H⟩ := ok_bind H
        obtain ⟨r17, er17, H⟩ := ok_bind H
        refine r_callV (As := [.int p3]) (rest := []) (st1 := []) (N2 := 0) hZ dX11_watch_93 cw_X11_257_X5 rfl eu16 (s_X5_wearRound er17) rfl rfl (by decide) (Nat.le_of_ble_eq_true rfl) (Nat.le_refl 0) (Nat.le_refl _) (Or.inl rfl) rfl ?_
        refine r_aload_n hZ dX11_watch_96 rfl ?_
        obtain ⟨x18, ex18, H⟩ := ok_bind H
        refine r_getR hZ fl_X11_82_10 dX11_watch_97 ex18 ?_
        obtain ⟨u19, eu19, H⟩ := ok_bind H
        obtain ⟨r20, er20, H⟩ := ok_bind H
        refine r_callV (As := []) (rest := []) (st1 := []) (N2 := 0) hZ dX11_watch_100 cw_X11_260_X5 rfl eu19 (s_X5_measure er20) rfl rfl (by decide) (Nat.le_of_ble_eq_true rfl) (Nat.le_refl 0) (Nat.le_refl _) (Or.inl rfl) rfl ?_
        obtain ⟨x21, ex21, H⟩ := ok_bind H
        refine r_iincE (w := (J 1)) hZ dX11_watch_103 (by decide) rfl (by decide) ex21 (r_pick [0, 1, 3, 4] (ls' := [(0, .ref p0), (1, .int p1), (3, .int p3), (4, .int x21)]) rfl ?_)
        refine r_goto (tgt := 33) hZ dX11_watch_106 (by decide) ?_
        exact r_pick [0, 1, 3, 4] (ls' := [(0, .ref p0), (1, .int p1), (3, .int p3), (4, .int x21)]) rfl (ih _ (ki_l H))
      · have H := ok_f H c22
        exact r_pick [4] (ls' := [(4, .int s.1)]) rfl (hx1 _ (ki_r H))
def f_X11_watch  (h : Hp) (a0 : Nat) (a1 : Int32) (a2 : Int32) (a3 : Int32) : Option (Int32 × Hp) :=
  (isO h a0 10).bind fun u1 =>
  (f_X11_isRule h a0 a1).bind fun r2 =>
  (if r2 = 0 then
    some ((J (-1)), h)
  else
    (isO h a0 10).bind fun u3 =>
    (f_X11_isMesh h a0 a2).bind fun r4 =>
    (if r4 = 0 then
      some ((J (-1)), h)
    else
      (f_X11_isWearLoad a3).bind fun r5 =>
      (if r5 = 0 then
        some ((J (-1)), h)
      else
        (isO h a0 10).bind fun u6 =>
        (f_X11_rollSpares h a0 a2).bind fun r7 =>
        (some (J 0)).bind fun x8 =>
        (iter (b_X11_watch_33 a0 a1 a3) FU (x8, r7)).bind fun e9 =>
        (match e9 with
        | .inl e10 =>
          some ((J (-4)), e10)
        | .inr e11 =>
          some (e11.1, e11.2)))))
set_option maxRecDepth 100000 in
set_option maxHeartbeats 4000000 in
theorem s_X11_watch {n : Nat} {h : Hp} {a0 : Nat} {a1 : Int32} {a2 : Int32} {a3 : Int32}  {r : Int32 × Hp} (hf : f_X11_watch  h a0 a1 a2 a3 = some r) : Ev 28 yX11_watch cX11_watch 5 (some .int) [.ref a0, .int a1, .int a2, .int a3] n h (some (.int r.1)) n r.2 := by
  refine Ev_of RX11 rfl (by decide) (Nat.le_of_ble_eq_true rfl) (Nat.le_refl _) (Or.inl rfl) (fun Z hZ hF hN hI => ?_)
  have H : Ok (f_X11_watch  h a0 a1 a2 a3) (fun y => y = r) := ⟨_, hf, rfl⟩
  unfold f_X11_watch at H
  refine r_ls (ls' := [(0, .ref a0), (1, .int a1), (2, .int a2), (3, .int a3)]) rfl ?_
  refine r_aload_n hZ dX11_watch_0 rfl ?_
  refine r_iload_n hZ dX11_watch_1 rfl ?_
  obtain ⟨u1, eu1, H⟩ := ok_bind H
  obtain ⟨r2, er2, H⟩ := ok_bind H
  refine r_callV (As := [.int a1]) (rest := []) (st1 := [.int r2]) (N2 := 0) hZ dX11_watch_2 cw_X11_303_X11 rfl eu1 (s_X11_isRule er2) rfl rfl (by decide) (Nat.le_of_ble_eq_true rfl) (Nat.le_refl 0) (Nat.le_refl _) (Or.inl rfl) rfl ?_
  refine r_if_eq (tgt := 23) hZ dX11_watch_5 (by decide) (fun c14 => ?_) (fun c14 => ?_)
  · have H := ok_t H c14
    refine r_iconst (v := (J (-1))) hZ dX11_watch_23 (by decide) ?_
    have H := ok_some H
    subst H
    exact r_iret hZ hF dX11_watch_24
  · have H := ok_f H c14
    refine r_aload_n hZ dX11_watch_8 rfl ?_
    refine r_iload_n hZ dX11_watch_9 rfl ?_
    obtain ⟨u3, eu3, H⟩ := ok_bind H
    obtain ⟨r4, er4, H⟩ := ok_bind H
    refine r_callV (As := [.int a2]) (rest := []) (st1 := [.int r4]) (N2 := 0) hZ dX11_watch_10 cw_X11_177_X11 rfl eu3 (s_X11_isMesh er4) rfl rfl (by decide) (Nat.le_of_ble_eq_true rfl) (Nat.le_refl 0) (Nat.le_refl _) (Or.inl rfl) rfl ?_
    refine r_if_eq (tgt := 23) hZ dX11_watch_13 (by decide) (fun c13 => ?_) (fun c13 => ?_)
    · have H := ok_t H c13
      refine r_iconst (v := (J (-1))) hZ dX11_watch_23 (by decide) ?_
      have H := ok_some H
      subst H
      exact r_iret hZ hF dX11_watch_24
    · have H := ok_f H c13
      refine r_iload_n hZ dX11_watch_16 rfl ?_
      obtain ⟨r5, er5, H⟩ := ok_bind H
      refine r_callS (As := [.int a3]) (rest := []) (st1 := [.int r5]) (N2 := 0) hZ dX11_watch_17 cw_X11_254 (s_X11_isWearLoad er5) rfl rfl (by decide) (Nat.le_of_ble_eq_true rfl) (Nat.le_refl 0) (Nat.le_refl _) (Or.inl rfl) rfl ?_
      refine r_if_ne (tgt := 25) hZ dX11_watch_20 (by decide) (fun c12 => ?_) (fun c12 => ?_)
      · have H := ok_f H c12
        refine r_aload_n hZ dX11_watch_25 rfl ?_
        refine r_iload_n hZ dX11_watch_26 rfl ?_
        obtain ⟨u6, eu6, H⟩ := ok_bind H
        obtain ⟨r7, er7, H⟩ := ok_bind H
        refine r_callV (As := [.int a2]) (rest := []) (st1 := []) (N2 := 0) hZ dX11_watch_27 cw_X11_263_X11 rfl eu6 (s_X11_rollSpares er7) rfl rfl (by decide) (Nat.le_of_ble_eq_true rfl) (Nat.le_refl 0) (Nat.le_refl _) (Or.inl rfl) rfl ?_
        refine r_iconst (v := (J 0)) hZ dX11_watch_30 (by decide) ?_
        obtain ⟨x8, ex8, H⟩ := ok_bind H
        refine r_topi ex8 ?_
        refine r_istore hZ dX11_watch_31 (by decide) (r_pick [0, 1, 3, 4] (ls' := [(0, .ref a0), (1, .int a1), (3, .int a3), (4, .int x8)]) rfl ?_)
        have H := ok_bindK H
        refine r_pick [0, 1, 3, 4] (ls' := [(0, .ref a0), (1, .int a1), (3, .int a3), (4, .int x8)]) rfl (l_X11_watch_33 hZ (fun e10 H => ?_) (fun e11 H => ?_) FU _ H)
        · refine r_bipush (v := (J (-4))) hZ dX11_watch_109 (by decide) ?_
          have H := ok_some H
          subst H
          exact r_iret hZ hF dX11_watch_111
        · refine r_iload hZ dX11_watch_85 rfl ?_
          have H := ok_some H
          subst H
          exact r_iret hZ hF dX11_watch_87
      · have H := ok_t H c12
        refine r_iconst (v := (J (-1))) hZ dX11_watch_23 (by decide) ?_
        have H := ok_some H
        subst H
        exact r_iret hZ hF dX11_watch_24
def f_X11_ear  (h : Hp) (a0 : Nat) (a1 : Int32) (a2 : Int32) : Option (Int32 × Hp) :=
  (f_X11_isShelf a1).bind fun r1 =>
  (if r1 = 0 then
    some ((J (-1)), h)
  else
    (f_X11_isWithin a2 (J 0) (J 2)).bind fun r2 =>
    (if r2 = 0 then
      some ((J (-1)), h)
    else
      (gR h a0 10 8).bind fun x3 =>
      (aR h x3 4 a1).bind fun x4 =>
      (isO h x4 7).bind fun u5 =>
      (f_X8_earRefusal h x4).bind fun r6 =>
      (if r6 = 0 then
        (gR h a0 10 15).bind fun x7 =>
        (gR h a0 10 0).bind fun x8 =>
        (gR h x4 7 4).bind fun x9 =>
        (gI h x4 7 3).bind fun x10 =>
        (isO h x7 1).bind fun u11 =>
        (f_X1_listen h x7 x8 x9 x10).bind fun r12 =>
        (if a2 = (J 0) then
          (gR r12 a0 10 15).bind fun x13 =>
          (gI r12 x13 1 8).bind fun x14 =>
          some (x14, r12)
        else
          (if a2 = (J 1) then
            (gR r12 a0 10 15).bind fun x16 =>
            (isO r12 x16 1).bind fun u17 =>
            (f_X1_blamed r12 x16).bind fun r18 =>
            some (r18, r12)
          else
            (gR r12 a0 10 15).bind fun x20 =>
            (isO r12 x20 1).bind fun u21 =>
            (f_X1_maybe r12 x20).bind fun r22 =>
            some (r22, r12)))
      else
        some (r6, h))))
set_option maxRecDepth 100000 in
set_option maxHeartbeats 4000000 in
theorem s_X11_ear {n : Nat} {h : Hp} {a0 : Nat} {a1 : Int32} {a2 : Int32}  {r : Int32 × Hp} (hf : f_X11_ear  h a0 a1 a2 = some r) : Ev 6 yX11_ear cX11_ear 5 (some .int) [.ref a0, .int a1, .int a2] n h (some (.int r.1)) n r.2 := by
  refine Ev_of RX11 rfl (by decide) (Nat.le_of_ble_eq_true rfl) (Nat.le_refl _) (Or.inl rfl) (fun Z hZ hF hN hI => ?_)
  have H : Ok (f_X11_ear  h a0 a1 a2) (fun y => y = r) := ⟨_, hf, rfl⟩
  unfold f_X11_ear at H
  refine r_ls (ls' := [(0, .ref a0), (1, .int a1), (2, .int a2)]) rfl ?_
  refine r_iload_n hZ dX11_ear_0 rfl ?_
  obtain ⟨r1, er1, H⟩ := ok_bind H
  refine r_callS (As := [.int a1]) (rest := []) (st1 := [.int r1]) (N2 := 0) hZ dX11_ear_1 cw_X11_94 (s_X11_isShelf er1) rfl rfl (by decide) (Nat.le_of_ble_eq_true rfl) (Nat.le_refl 0) (Nat.le_refl _) (Or.inl rfl) rfl ?_
  refine r_if_eq (tgt := 16) hZ dX11_ear_4 (by decide) (fun c25 => ?_) (fun c25 => ?_)
  · have H := ok_t H c25
    refine r_iconst (v := (J (-1))) hZ dX11_ear_16 (by decide) ?_
    have H := ok_some H
    subst H
    exact r_iret hZ hF dX11_ear_17
  · have H := ok_f H c25
    refine r_iload_n hZ dX11_ear_7 rfl ?_
    refine r_iconst (v := (J 0)) hZ dX11_ear_8 (by decide) ?_
    refine r_iconst (v := (J 2)) hZ dX11_ear_9 (by decide) ?_
    obtain ⟨r2, er2, H⟩ := ok_bind H
    refine r_callS (As := [.int a2, .int (J 0), .int (J 2)]) (rest := []) (st1 := [.int r2]) (N2 := 0) hZ dX11_ear_10 cw_X11_170 (s_X11_isWithin er2) rfl rfl (by decide) (Nat.le_of_ble_eq_true rfl) (Nat.le_refl 0) (Nat.le_refl _) (Or.inl rfl) rfl ?_
    refine r_if_ne (tgt := 18) hZ dX11_ear_13 (by decide) (fun c24 => ?_) (fun c24 => ?_)
    · have H := ok_f H c24
      refine r_aload_n hZ dX11_ear_18 rfl ?_
      obtain ⟨x3, ex3, H⟩ := ok_bind H
      refine r_getR hZ fl_X11_44_10 dX11_ear_19 ex3 ?_
      refine r_iload_n hZ dX11_ear_22 rfl ?_
      obtain ⟨x4, ex4, H⟩ := ok_bind H
      refine r_aR hZ dX11_ear_23 ex4 (fun _ => rfl) (Or.inl ⟨_, rfl⟩) ?_
      refine r_astore_n hZ dX11_ear_24 (by decide) (r_pick [0, 2, 3] (ls' := [(0, .ref a0), (2, .int a2), (3, .ref x4)]) rfl ?_)
      refine r_aload_n hZ dX11_ear_25 rfl ?_
      obtain ⟨u5, eu5, H⟩ := ok_bind H
      obtain ⟨r6, er6, H⟩ := ok_bind H
      refine r_callV (As := []) (rest := []) (st1 := [.int r6]) (N2 := 0) hZ dX11_ear_26 cw_X11_319_X8 rfl eu5 (s_X8_earRefusal er6) rfl rfl (by decide) (Nat.le_of_ble_eq_true rfl) (Nat.le_refl 0) (Nat.le_refl _) (Or.inl rfl) rfl ?_
      refine r_istore hZ dX11_ear_29 (by decide) (r_pick [0, 2, 3, 4] (ls' := [(0, .ref a0), (2, .int a2), (3, .ref x4), (4, .int r6)]) rfl ?_)
      refine r_iload hZ dX11_ear_31 rfl ?_
      refine r_if_eq (tgt := 39) hZ dX11_ear_33 (by decide) (fun c23 => ?_) (fun c23 => ?_)
      · have H := ok_t H c23
        refine r_aload_n hZ dX11_ear_39 rfl ?_
        obtain ⟨x7, ex7, H⟩ := ok_bind H
        refine r_getR hZ fl_X11_89_10 dX11_ear_40 ex7 ?_
        refine r_aload_n hZ dX11_ear_43 rfl ?_
        obtain ⟨x8, ex8, H⟩ := ok_bind H
        refine r_getR hZ fl_X11_10_10 dX11_ear_44 ex8 ?_
        refine r_aload_n hZ dX11_ear_47 rfl ?_
        obtain ⟨x9, ex9, H⟩ := ok_bind H
        refine r_getR hZ fl_X11_102_7 dX11_ear_48 ex9 ?_
        refine r_aload_n hZ dX11_ear_51 rfl ?_
        obtain ⟨x10, ex10, H⟩ := ok_bind H
        refine r_getI hZ fl_X11_106_7 dX11_ear_52 ex10 ?_
        obtain ⟨u11, eu11, H⟩ := ok_bind H
        obtain ⟨r12, er12, H⟩ := ok_bind H
        refine r_callV (As := [.ref x8, .ref x9, .int x10]) (rest := []) (st1 := []) (N2 := 0) hZ dX11_ear_55 cw_X11_322_X1 rfl eu11 (s_X1_listen er12) rfl rfl (by decide) (Nat.le_of_ble_eq_true rfl) (Nat.le_refl 0) (Nat.le_refl _) (Or.inl rfl) rfl ?_
        refine r_iload_n hZ dX11_ear_58 rfl ?_
        by_cases c15 : a2 = (J 0)
        · have hs : R Z 84 [(0, .ref a0), (2, .int a2), (3, .ref x4), (4, .int r6)] [] n r12 0 → R Z 59 [(0, .ref a0), (2, .int a2), (3, .ref x4), (4, .int r6)] [.int a2] n r12 0 := by
            exact fun k => r_lookup hZ dX11_ear_59 (by decide) (off := 25) (by rw [c15]; rfl) (by decide) k
          refine hs ?_
          clear hs
          have H := ok_t H c15
          refine r_aload_n hZ dX11_ear_84 rfl ?_
          obtain ⟨x13, ex13, H⟩ := ok_bind H
          refine r_getR hZ fl_X11_89_10 dX11_ear_85 ex13 ?_
          obtain ⟨x14, ex14, H⟩ := ok_bind H
          refine r_getI hZ fl_X11_326_1 dX11_ear_88 ex14 ?_
          have H := ok_some H
          subst H
          exact r_iret hZ hF dX11_ear_91
        · have H := ok_f H c15
          by_cases c19 : a2 = (J 1)
          · have hs : R Z 92 [(0, .ref a0), (2, .int a2), (3, .ref x4), (4, .int r6)] [] n r12 0 → R Z 59 [(0, .ref a0), (2, .int a2), (3, .ref x4), (4, .int r6)] [.int a2] n r12 0 := by
              exact fun k => r_lookup hZ dX11_ear_59 (by decide) (off := 33) (by rw [c19]; rfl) (by decide) k
            refine hs ?_
            clear hs
            have H := ok_t H c19
            refine r_aload_n hZ dX11_ear_92 rfl ?_
            obtain ⟨x16, ex16, H⟩ := ok_bind H
            refine r_getR hZ fl_X11_89_10 dX11_ear_93 ex16 ?_
            obtain ⟨u17, eu17, H⟩ := ok_bind H
            obtain ⟨r18, er18, H⟩ := ok_bind H
            refine r_callV (As := []) (rest := []) (st1 := [.int r18]) (N2 := 0) hZ dX11_ear_96 cw_X11_329_X1 rfl eu17 (s_X1_blamed er18) rfl rfl (by decide) (Nat.le_of_ble_eq_true rfl) (Nat.le_refl 0) (Nat.le_refl _) (Or.inl rfl) rfl ?_
            have H := ok_some H
            subst H
            exact r_iret hZ hF dX11_ear_99
          · have H := ok_f H c19
            refine r_lookup (off := 41) (tgt := 100) hZ dX11_ear_59 (by decide) (by show Op.lookupswitch.offset [(0, 25), (1, 33)] _ _ = _; rw [lv_osw c15 (by decide), lv_osw c19 (by decide)] <;> rfl) (by decide) ?_
            refine r_aload_n hZ dX11_ear_100 rfl ?_
            obtain ⟨x20, ex20, H⟩ := ok_bind H
            refine r_getR hZ fl_X11_89_10 dX11_ear_101 ex20 ?_
            obtain ⟨u21, eu21, H⟩ := ok_bind H
            obtain ⟨r22, er22, H⟩ := ok_bind H
            refine r_callV (As := []) (rest := []) (st1 := [.int r22]) (N2 := 0) hZ dX11_ear_104 cw_X11_332_X1 rfl eu21 (s_X1_maybe er22) rfl rfl (by decide) (Nat.le_of_ble_eq_true rfl) (Nat.le_refl 0) (Nat.le_refl _) (Or.inl rfl) rfl ?_
            have H := ok_some H
            subst H
            exact r_iret hZ hF dX11_ear_107
      · have H := ok_f H c23
        refine r_iload hZ dX11_ear_36 rfl ?_
        have H := ok_some H
        subst H
        exact r_iret hZ hF dX11_ear_38
    · have H := ok_t H c24
      refine r_iconst (v := (J (-1))) hZ dX11_ear_16 (by decide) ?_
      have H := ok_some H
      subst H
      exact r_iret hZ hF dX11_ear_17
def b_X11_bestShift_65 (p0 : Nat) (p2 : Int32) (p3 : Int32) (s : Int32 × Int32 × Int32 × Hp) : Option ((Int32 × Int32 × Int32 × Hp) ⊕ ((Int32 × Hp))) :=
  (if (J 16) < s.2.2.1 then
    some (.inr ((s.1, s.2.2.2)))
  else
    (nz (J 2)).bind fun u1 =>
    ((if (s.2.2.1 - s.2.2.1 / (J 2) * (J 2)) = (J 1) then
      (nz (J 2)).bind fun u4 =>
      some ((s.2.2.1 + (J 1)) / (J 2))
    else
      (nz (J 2)).bind fun u3 =>
      some (-(s.2.2.1 / (J 2))))).bind fun (j2 : Int32) =>
    (gR s.2.2.2 p0 10 12).bind fun x6 =>
    (gR s.2.2.2 p0 10 8).bind fun x7 =>
    (aR s.2.2.2 x7 4 p2).bind fun x8 =>
    (gR s.2.2.2 x8 7 4).bind fun x9 =>
    (isO s.2.2.2 x6 0).bind fun u10 =>
    (f_X0_cutBy s.2.2.2 x6 x9 j2 p3).bind fun r11 =>
    (gR r11 p0 10 14).bind fun x12 =>
    (isO r11 x12 4).bind fun u13 =>
    (f_X5_measure r11 x12).bind fun r14 =>
    (gR r14 p0 10 14).bind fun x15 =>
    (isO r14 x15 4).bind fun u16 =>
    (f_X5_firstJam r14 x15).bind fun r17 =>
    ((if r17 = (J (-4)) then
      (gR r14 p0 10 14).bind fun x19 =>
      (isO r14 x19 4).bind fun u20 =>
      (f_X5_spread r14 x19).bind fun r21 =>
      (if s.2.1 ≤ r21 then
        some (s.1, s.2.1)
      else
        (gR r14 p0 10 14).bind fun x22 =>
        (isO r14 x22 4).bind fun u23 =>
        (f_X5_spread r14 x22).bind fun r24 =>
        some (j2, r24))
    else
      some (s.1, s.2.1))).bind fun (j18 : Int32 × Int32) =>
    (some (s.2.2.1 + (J 1))).bind fun x27 =>
    some (.inl (j18.1, j18.2, x27, r14)))
set_option maxRecDepth 100000 in
set_option maxHeartbeats 4000000 in
theorem l_X11_bestShift_65 {Z : Zc} (hZ : Fx cX11_bestShift RX11 9 8 0 Z) {n : Nat} {p0 : Nat} {p2 : Int32} {p3 : Int32} {P : ((Int32 × Hp)) → Prop} (hx0 : ∀ e : Int32 × Hp, P (e) → R Z 165 [(5, .int e.1)] [] n e.2 0) : ∀ (m : Nat) (s : Int32 × Int32 × Int32 × Hp), Ok (iter (b_X11_bestShift_65 p0 p2 p3) m s) P → R Z 65 [(0, .ref p0), (2, .int p2), (3, .int p3), (5, .int s.1), (6, .int s.2.1), (7, .int s.2.2.1)] [] n s.2.2.2 0 := by
  intro m
  induction m with
  | zero => exact fun s H => ok_iter0 H
  | succ m ih =>
    intro s H
    have H := ok_iter H
    unfold b_X11_bestShift_65 at H
    refine r_iload hZ dX11_bestShift_65 rfl ?_
    refine r_bipush (v := (J 16)) hZ dX11_bestShift_67 (by decide) ?_
    refine r_icmp_gt (tgt := 165) hZ dX11_bestShift_69 (by decide) (fun c28 => ?_) (fun c28 => ?_)
    · have H := ok_t H c28
      exact r_pick [5] (ls' := [(5, .int s.1)]) rfl (hx0 _ (ki_r H))
    · have H := ok_f H c28
      refine r_iload hZ dX11_bestShift_72 rfl ?_
      refine r_iconst (v := (J 2)) hZ dX11_bestShift_74 (by decide) ?_
      obtain ⟨u1, eu1, H⟩ := ok_bind H
      refine r_irem hZ dX11_bestShift_75 (nz_ne eu1) ?_
      refine r_iconst (v := (J 1)) hZ dX11_bestShift_76 (by decide) ?_
      refine ok_join (Q := fun j2 : Int32 => R Z 94 [(0, .ref p0), (2, .int p2), (3, .int p3), (5, .int s.1), (6, .int s.2.1), (7, .int s.2.2.1)] [.int j2] n s.2.2.2 0) H (fun j2 H => ?_) (fun H => ?_)
      · refine r_istore hZ dX11_bestShift_94 (by decide) (r_pick [0, 2, 3, 5, 6, 7, 8] (ls' := [(0, .ref p0), (2, .int p2), (3, .int p3), (5, .int s.1), (6, .int s.2.1), (7, .int s.2.2.1), (8, .int j2)]) rfl ?_)
        refine r_aload_n hZ dX11_bestShift_96 rfl ?_
        obtain ⟨x6, ex6, H⟩ := ok_bind H
        refine r_getR hZ fl_X11_72_10 dX11_bestShift_97 ex6 ?_
        refine r_aload_n hZ dX11_bestShift_100 rfl ?_
        obtain ⟨x7, ex7, H⟩ := ok_bind H
        refine r_getR hZ fl_X11_44_10 dX11_bestShift_101 ex7 ?_
        refine r_iload_n hZ dX11_bestShift_104 rfl ?_
        obtain ⟨x8, ex8, H⟩ := ok_bind H
        refine r_aR hZ dX11_bestShift_105 ex8 (fun _ => rfl) (Or.inl ⟨_, rfl⟩) ?_
        obtain ⟨x9, ex9, H⟩ := ok_bind H
        refine r_getR hZ fl_X11_102_7 dX11_bestShift_106 ex9 ?_
        refine r_iload hZ dX11_bestShift_109 rfl ?_
        refine r_iload_n hZ dX11_bestShift_111 rfl ?_
        obtain ⟨u10, eu10, H⟩ := ok_bind H
        obtain ⟨r11, er11, H⟩ := ok_bind H
        refine r_callV (As := [.ref x9, .int j2, .int p3]) (rest := []) (st1 := []) (N2 := 0) hZ dX11_bestShift_112 cw_X11_229_X0 rfl eu10 (s_X0_cutBy er11) rfl rfl (by decide) (Nat.le_of_ble_eq_true rfl) (Nat.le_refl 0) (Nat.le_refl _) (Or.inl rfl) rfl ?_
        refine r_aload_n hZ dX11_bestShift_115 rfl ?_
        obtain ⟨x12, ex12, H⟩ := ok_bind H
        refine r_getR hZ fl_X11_82_10 dX11_bestShift_116 ex12 ?_
        obtain ⟨u13, eu13, H⟩ := ok_bind H
        obtain ⟨r14, er14, H⟩ := ok_bind H
        refine r_callV (As := []) (rest := []) (st1 := []) (N2 := 0) hZ dX11_bestShift_119 cw_X11_260_X5 rfl eu13 (s_X5_measure er14) rfl rfl (by decide) (Nat.le_of_ble_eq_true rfl) (Nat.le_refl 0) (Nat.le_refl _) (Or.inl rfl) rfl ?_
        refine r_aload_n hZ dX11_bestShift_122 rfl ?_
        obtain ⟨x15, ex15, H⟩ := ok_bind H
        refine r_getR hZ fl_X11_82_10 dX11_bestShift_123 ex15 ?_
        obtain ⟨u16, eu16, H⟩ := ok_bind H
        obtain ⟨r17, er17, H⟩ := ok_bind H
        refine r_callV (As := []) (rest := []) (st1 := [.int r17]) (N2 := 0) hZ dX11_bestShift_126 cw_X11_245_X5 rfl eu16 (s_X5_firstJam er17) rfl rfl (by decide) (Nat.le_of_ble_eq_true rfl) (Nat.le_refl 0) (Nat.le_refl _) (Or.inl rfl) rfl ?_
        refine r_bipush (v := (J (-4))) hZ dX11_bestShift_129 (by decide) ?_
        refine ok_join (Q := fun j18 : Int32 × Int32 => R Z 159 [(0, .ref p0), (2, .int p2), (3, .int p3), (5, .int j18.1), (6, .int j18.2), (7, .int s.2.2.1)] [] n r14 0) H (fun j18 H => ?_) (fun H => ?_)
        · obtain ⟨x27, ex27, H⟩ := ok_bind H
          refine r_iincE (w := (J 1)) hZ dX11_bestShift_159 (by decide) rfl (by decide) ex27 (r_pick [0, 2, 3, 5, 6, 7] (ls' := [(0, .ref p0), (2, .int p2), (3, .int p3), (5, .int j18.1), (6, .int j18.2), (7, .int x27)]) rfl ?_)
          refine r_goto (tgt := 65) hZ dX11_bestShift_162 (by decide) ?_
          exact r_pick [0, 2, 3, 5, 6, 7] (ls' := [(0, .ref p0), (2, .int p2), (3, .int p3), (5, .int j18.1), (6, .int j18.2), (7, .int x27)]) rfl (ih _ (ki_l H))
        · refine r_icmp_ne (tgt := 159) hZ dX11_bestShift_131 (by decide) (fun c26 => ?_) (fun c26 => ?_)
          · have H := ok_f H c26
            have H := ok_some H
            exact r_pick [0, 2, 3, 5, 6, 7] (ls' := [(0, .ref p0), (2, .int p2), (3, .int p3), (5, .int s.1), (6, .int s.2.1), (7, .int s.2.2.1)]) rfl H
          · have H := ok_t H c26
            refine r_aload_n hZ dX11_bestShift_134 rfl ?_
            obtain ⟨x19, ex19, H⟩ := ok_bind H
            refine r_getR hZ fl_X11_82_10 dX11_bestShift_135 ex19 ?_
            obtain ⟨u20, eu20, H⟩ := ok_bind H
            obtain ⟨r21, er21, H⟩ := ok_bind H
            refine r_callV (As := []) (rest := []) (st1 := [.int r21]) (N2 := 0) hZ dX11_bestShift_138 cw_X11_251_X5 rfl eu20 (s_X5_spread er21) rfl rfl (by decide) (Nat.le_of_ble_eq_true rfl) (Nat.le_refl 0) (Nat.le_refl _) (Or.inl rfl) rfl ?_
            refine r_iload hZ dX11_bestShift_141 rfl ?_
            refine r_icmp_ge (tgt := 159) hZ dX11_bestShift_143 (by decide) (fun c25 => ?_) (fun c25 => ?_)
            · have H := ok_t H c25
              have H := ok_some H
              exact r_pick [0, 2, 3, 5, 6, 7] (ls' := [(0, .ref p0), (2, .int p2), (3, .int p3), (5, .int s.1), (6, .int s.2.1), (7, .int s.2.2.1)]) rfl H
            · have H := ok_f H c25
              refine r_aload_n hZ dX11_bestShift_146 rfl ?_
              obtain ⟨x22, ex22, H⟩ := ok_bind H
              refine r_getR hZ fl_X11_82_10 dX11_bestShift_147 ex22 ?_
              obtain ⟨u23, eu23, H⟩ := ok_bind H
              obtain ⟨r24, er24, H⟩ := ok_bind H
              refine r_callV (As := []) (rest := []) (st1 := [.int r24]) (N2 := 0) hZ dX11_bestShift_150 cw_X11_251_X5 rfl eu23 (s_X5_spread er24) rfl rfl (by decide) (Nat.le_of_ble_eq_true rfl) (Nat.le_refl 0) (Nat.le_refl _) (Or.inl rfl) rfl ?_
              refine r_istore hZ dX11_bestShift_153 (by decide) (r_pick [0, 2, 3, 6, 7, 8] (ls' := [(0, .ref p0), (2, .int p2), (3, .int p3), (6, .int r24), (7, .int s.2.2.1), (8, .int j2)]) rfl ?_)
              refine r_iload hZ dX11_bestShift_155 rfl ?_
              refine r_istore hZ dX11_bestShift_157 (by decide) (r_pick [0, 2, 3, 5, 6, 7] (ls' := [(0, .ref p0), (2, .int p2), (3, .int p3), (5, .int j2), (6, .int r24), (7, .int s.2.2.1)]) rfl ?_)
              have H := ok_some H
              exact r_pick [0, 2, 3, 5, 6, 7] (ls' := [(0, .ref p0), (2, .int p2), (3, .int p3), (5, .int j2), (6, .int r24), (7, .int s.2.2.1)]) rfl H
      · refine r_icmp_ne (tgt := 89) hZ dX11_bestShift_77 (by decide) (fun c5 => ?_) (fun c5 => ?_)
        · have H := ok_f H c5
          refine r_iload hZ dX11_bestShift_89 rfl ?_
          refine r_iconst (v := (J 2)) hZ dX11_bestShift_91 (by decide) ?_
          obtain ⟨u3, eu3, H⟩ := ok_bind H
          refine r_idiv hZ dX11_bestShift_92 (nz_ne eu3) ?_
          refine r_ineg hZ dX11_bestShift_93 ?_
          have H := ok_some H
          exact r_pick [0, 2, 3, 5, 6, 7] (ls' := [(0, .ref p0), (2, .int p2), (3, .int p3), (5, .int s.1), (6, .int s.2.1), (7, .int s.2.2.1)]) rfl H
        · have H := ok_t H c5
          refine r_iload hZ dX11_bestShift_80 rfl ?_
          refine r_iconst (v := (J 1)) hZ dX11_bestShift_82 (by decide) ?_
          refine r_iadd hZ dX11_bestShift_83 ?_
          refine r_iconst (v := (J 2)) hZ dX11_bestShift_84 (by decide) ?_
          obtain ⟨u4, eu4, H⟩ := ok_bind H
          refine r_idiv hZ dX11_bestShift_85 (nz_ne eu4) ?_
          refine r_goto (tgt := 94) hZ dX11_bestShift_86 (by decide) ?_
          have H := ok_some H
          exact r_pick [0, 2, 3, 5, 6, 7] (ls' := [(0, .ref p0), (2, .int p2), (3, .int p3), (5, .int s.1), (6, .int s.2.1), (7, .int s.2.2.1)]) rfl H
def f_X11_bestShift  (h : Hp) (a0 : Nat) (a1 : Int32) (a2 : Int32) (a3 : Int32) : Option (Int32 × Hp) :=
  (isO h a0 10).bind fun u1 =>
  (f_X11_isMesh h a0 a1).bind fun r2 =>
  (if r2 = 0 then
    some ((J (-1000000001)), h)
  else
    (f_X11_isShelf a2).bind fun r3 =>
    (if r3 = 0 then
      some ((J (-1000000001)), h)
    else
      (f_X11_isSteps a3).bind fun r4 =>
      (if r4 = 0 then
        some ((J (-1000000001)), h)
      else
        (gR h a0 10 8).bind fun x5 =>
        (aR h x5 4 a2).bind fun x6 =>
        (isO h x6 7).bind fun u7 =>
        (f_X8_cutterRefusal h x6).bind fun r8 =>
        (if r8 = 0 then
          (isO h a0 10).bind fun u9 =>
          (f_X11_rollSpares h a0 a1).bind fun r10 =>
          (some (J (-4000))).bind fun x11 =>
          (some (J 63)).bind fun x12 =>
          (some (J 0)).bind fun x13 =>
          (iter (b_X11_bestShift_65 a0 a2 a3) FU (x11, x12, x13, r10)).bind fun e14 =>
          some (e14.1, e14.2)
        else
          some (((J (-1000000000)) + r8), h)))))
set_option maxRecDepth 100000 in
set_option maxHeartbeats 4000000 in
theorem s_X11_bestShift {n : Nat} {h : Hp} {a0 : Nat} {a1 : Int32} {a2 : Int32} {a3 : Int32}  {r : Int32 × Hp} (hf : f_X11_bestShift  h a0 a1 a2 a3 = some r) : Ev 8 yX11_bestShift cX11_bestShift 9 (some .int) [.ref a0, .int a1, .int a2, .int a3] n h (some (.int r.1)) n r.2 := by
  refine Ev_of RX11 rfl (by decide) (Nat.le_of_ble_eq_true rfl) (Nat.le_refl _) (Or.inl rfl) (fun Z hZ hF hN hI => ?_)
  have H : Ok (f_X11_bestShift  h a0 a1 a2 a3) (fun y => y = r) := ⟨_, hf, rfl⟩
  unfold f_X11_bestShift at H
  refine r_ls (ls' := [(0, .ref a0), (1, .int a1), (2, .int a2), (3, .int a3)]) rfl ?_
  refine r_aload_n hZ dX11_bestShift_0 rfl ?_
  refine r_iload_n hZ dX11_bestShift_1 rfl ?_
  obtain ⟨u1, eu1, H⟩ := ok_bind H
  obtain ⟨r2, er2, H⟩ := ok_bind H
  refine r_callV (As := [.int a1]) (rest := []) (st1 := [.int r2]) (N2 := 0) hZ dX11_bestShift_2 cw_X11_177_X11 rfl eu1 (s_X11_isMesh er2) rfl rfl (by decide) (Nat.le_of_ble_eq_true rfl) (Nat.le_refl 0) (Nat.le_refl _) (Or.inl rfl) rfl ?_
  refine r_if_eq (tgt := 22) hZ dX11_bestShift_5 (by decide) (fun c18 => ?_) (fun c18 => ?_)
  · have H := ok_t H c18
    refine r_ldc (v := (J (-1000000001))) hZ wc_X11_233 dX11_bestShift_22 ?_
    have H := ok_some H
    subst H
    exact r_iret hZ hF dX11_bestShift_24
  · have H := ok_f H c18
    refine r_iload_n hZ dX11_bestShift_8 rfl ?_
    obtain ⟨r3, er3, H⟩ := ok_bind H
    refine r_callS (As := [.int a2]) (rest := []) (st1 := [.int r3]) (N2 := 0) hZ dX11_bestShift_9 cw_X11_94 (s_X11_isShelf er3) rfl rfl (by decide) (Nat.le_of_ble_eq_true rfl) (Nat.le_refl 0) (Nat.le_refl _) (Or.inl rfl) rfl ?_
    refine r_if_eq (tgt := 22) hZ dX11_bestShift_12 (by decide) (fun c17 => ?_) (fun c17 => ?_)
    · have H := ok_t H c17
      refine r_ldc (v := (J (-1000000001))) hZ wc_X11_233 dX11_bestShift_22 ?_
      have H := ok_some H
      subst H
      exact r_iret hZ hF dX11_bestShift_24
    · have H := ok_f H c17
      refine r_iload_n hZ dX11_bestShift_15 rfl ?_
      obtain ⟨r4, er4, H⟩ := ok_bind H
      refine r_callS (As := [.int a3]) (rest := []) (st1 := [.int r4]) (N2 := 0) hZ dX11_bestShift_16 cw_X11_223 (s_X11_isSteps er4) rfl rfl (by decide) (Nat.le_of_ble_eq_true rfl) (Nat.le_refl 0) (Nat.le_refl _) (Or.inl rfl) rfl ?_
      refine r_if_ne (tgt := 25) hZ dX11_bestShift_19 (by decide) (fun c16 => ?_) (fun c16 => ?_)
      · have H := ok_f H c16
        refine r_aload_n hZ dX11_bestShift_25 rfl ?_
        obtain ⟨x5, ex5, H⟩ := ok_bind H
        refine r_getR hZ fl_X11_44_10 dX11_bestShift_26 ex5 ?_
        refine r_iload_n hZ dX11_bestShift_29 rfl ?_
        obtain ⟨x6, ex6, H⟩ := ok_bind H
        refine r_aR hZ dX11_bestShift_30 ex6 (fun _ => rfl) (Or.inl ⟨_, rfl⟩) ?_
        obtain ⟨u7, eu7, H⟩ := ok_bind H
        obtain ⟨r8, er8, H⟩ := ok_bind H
        refine r_callV (As := []) (rest := []) (st1 := [.int r8]) (N2 := 0) hZ dX11_bestShift_31 cw_X11_226_X8 rfl eu7 (s_X8_cutterRefusal er8) rfl rfl (by decide) (Nat.le_of_ble_eq_true rfl) (Nat.le_refl 0) (Nat.le_refl _) (Or.inl rfl) rfl ?_
        refine r_istore hZ dX11_bestShift_34 (by decide) (r_pick [0, 1, 2, 3, 4] (ls' := [(0, .ref a0), (1, .int a1), (2, .int a2), (3, .int a3), (4, .int r8)]) rfl ?_)
        refine r_iload hZ dX11_bestShift_36 rfl ?_
        refine r_if_eq (tgt := 48) hZ dX11_bestShift_38 (by decide) (fun c15 => ?_) (fun c15 => ?_)
        · have H := ok_t H c15
          refine r_aload_n hZ dX11_bestShift_48 rfl ?_
          refine r_iload_n hZ dX11_bestShift_49 rfl ?_
          obtain ⟨u9, eu9, H⟩ := ok_bind H
          obtain ⟨r10, er10, H⟩ := ok_bind H
          refine r_callV (As := [.int a1]) (rest := []) (st1 := []) (N2 := 0) hZ dX11_bestShift_50 cw_X11_263_X11 rfl eu9 (s_X11_rollSpares er10) rfl rfl (by decide) (Nat.le_of_ble_eq_true rfl) (Nat.le_refl 0) (Nat.le_refl _) (Or.inl rfl) rfl ?_
          refine r_sipush (v := (J (-4000))) hZ dX11_bestShift_53 (by decide) ?_
          obtain ⟨x11, ex11, H⟩ := ok_bind H
          refine r_topi ex11 ?_
          refine r_istore hZ dX11_bestShift_56 (by decide) (r_pick [0, 2, 3, 5] (ls' := [(0, .ref a0), (2, .int a2), (3, .int a3), (5, .int x11)]) rfl ?_)
          refine r_bipush (v := (J 63)) hZ dX11_bestShift_58 (by decide) ?_
          obtain ⟨x12, ex12, H⟩ := ok_bind H
          refine r_topi ex12 ?_
          refine r_istore hZ dX11_bestShift_60 (by decide) (r_pick [0, 2, 3, 5, 6] (ls' := [(0, .ref a0), (2, .int a2), (3, .int a3), (5, .int x11), (6, .int x12)]) rfl ?_)
          refine r_iconst (v := (J 0)) hZ dX11_bestShift_62 (by decide) ?_
          obtain ⟨x13, ex13, H⟩ := ok_bind H
          refine r_topi ex13 ?_
          refine r_istore hZ dX11_bestShift_63 (by decide) (r_pick [0, 2, 3, 5, 6, 7] (ls' := [(0, .ref a0), (2, .int a2), (3, .int a3), (5, .int x11), (6, .int x12), (7, .int x13)]) rfl ?_)
          have H := ok_bindK H
          refine r_pick [0, 2, 3, 5, 6, 7] (ls' := [(0, .ref a0), (2, .int a2), (3, .int a3), (5, .int x11), (6, .int x12), (7, .int x13)]) rfl (l_X11_bestShift_65 hZ (fun e14 H => ?_) FU _ H)
          · refine r_iload hZ dX11_bestShift_165 rfl ?_
            have H := ok_some H
            subst H
            exact r_iret hZ hF dX11_bestShift_167
        · have H := ok_f H c15
          refine r_ldcw (v := (J (-1000000000))) hZ wc_X11_335 dX11_bestShift_41 ?_
          refine r_iload hZ dX11_bestShift_44 rfl ?_
          refine r_iadd hZ dX11_bestShift_46 ?_
          have H := ok_some H
          subst H
          exact r_iret hZ hF dX11_bestShift_47
      · have H := ok_t H c16
        refine r_ldc (v := (J (-1000000001))) hZ wc_X11_233 dX11_bestShift_22 ?_
        have H := ok_some H
        subst H
        exact r_iret hZ hF dX11_bestShift_24
def b_X11_readBack_56 (p0 : Nat) (p1 : Int32) (p2 : Int32) (p3 : Int32) (p4 : Int32) (s : Int32 × Int32 × Hp) : Option ((Int32 × Int32 × Hp) ⊕ ((Int32 × Hp) ⊕ (Int32 × Hp))) :=
  (if (J 8) < s.2.1 then
    some (.inr (.inl (s.1, s.2.2)))
  else
    (gR s.2.2 p0 10 12).bind fun x1 =>
    (gR s.2.2 p0 10 8).bind fun x2 =>
    (aR s.2.2 x2 4 p2).bind fun x3 =>
    (gR s.2.2 x3 7 4).bind fun x4 =>
    (isO s.2.2 x1 0).bind fun u5 =>
    (f_X0_cutBy s.2.2 x1 x4 s.2.1 p3).bind fun r6 =>
    (gR r6 p0 10 12).bind fun x7 =>
    (gR r6 p0 10 0).bind fun x8 =>
    (gR r6 x8 3 0).bind fun x9 =>
    (aR r6 x9 3 p1).bind fun x10 =>
    (isO r6 x7 0).bind fun u11 =>
    (f_X0_hasFlankOf r6 x7 x10).bind fun r12 =>
    (if r12 = 0 then
      (some (s.2.1 + (J 1))).bind fun x13 =>
      some (.inl (s.1, x13, r6))
    else
      (if s.1 = p4 then
        some (.inr (.inr (s.2.1, r6)))
      else
        (some (s.1 + (J 1))).bind fun x14 =>
        (some (s.2.1 + (J 1))).bind fun x15 =>
        some (.inl (x14, x15, r6)))))
set_option maxRecDepth 100000 in
set_option maxHeartbeats 4000000 in
theorem l_X11_readBack_56 {Z : Zc} (hZ : Fx cX11_readBack RX11 8 6 0 Z) {n : Nat} {p0 : Nat} {p1 : Int32} {p2 : Int32} {p3 : Int32} {p4 : Int32} {P : ((Int32 × Hp) ⊕ (Int32 × Hp)) → Prop} (hx0 : ∀ e : Int32 × Hp, P (.inl e) → R Z 123 [(4, .int p4), (6, .int e.1)] [] n e.2 0) (hx1 : ∀ e : Int32 × Hp, P (.inr e) → R Z 108 [(7, .int e.1)] [] n e.2 0) : ∀ (m : Nat) (s : Int32 × Int32 × Hp), Ok (iter (b_X11_readBack_56 p0 p1 p2 p3 p4) m s) P → R Z 56 [(0, .ref p0), (1, .int p1), (2, .int p2), (3, .int p3), (4, .int p4), (6, .int s.1), (7, .int s.2.1)] [] n s.2.2 0 := by
  intro m
  induction m with
  | zero => exact fun s H => ok_iter0 H
  | succ m ih =>
    intro s H
    have H := ok_iter H
    unfold b_X11_readBack_56 at H
    refine r_iload hZ dX11_readBack_56 rfl ?_
    refine r_bipush (v := (J 8)) hZ dX11_readBack_58 (by decide) ?_
    refine r_icmp_gt (tgt := 123) hZ dX11_readBack_60 (by decide) (fun c18 => ?_) (fun c18 => ?_)
    · have H := ok_t H c18
      exact r_pick [4, 6] (ls' := [(4, .int p4), (6, .int s.1)]) rfl (hx0 _ (ki_r H))
    · have H := ok_f H c18
      refine r_aload_n hZ dX11_readBack_63 rfl ?_
      obtain ⟨x1, ex1, H⟩ := ok_bind H
      refine r_getR hZ fl_X11_72_10 dX11_readBack_64 ex1 ?_
      refine r_aload_n hZ dX11_readBack_67 rfl ?_
      obtain ⟨x2, ex2, H⟩ := ok_bind H
      refine r_getR hZ fl_X11_44_10 dX11_readBack_68 ex2 ?_
      refine r_iload_n hZ dX11_readBack_71 rfl ?_
      obtain ⟨x3, ex3, H⟩ := ok_bind H
      refine r_aR hZ dX11_readBack_72 ex3 (fun _ => rfl) (Or.inl ⟨_, rfl⟩) ?_
      obtain ⟨x4, ex4, H⟩ := ok_bind H
      refine r_getR hZ fl_X11_102_7 dX11_readBack_73 ex4 ?_
      refine r_iload hZ dX11_readBack_76 rfl ?_
      refine r_iload_n hZ dX11_readBack_78 rfl ?_
      obtain ⟨u5, eu5, H⟩ := ok_bind H
      obtain ⟨r6, er6, H⟩ := ok_bind H
      refine r_callV (As := [.ref x4, .int s.2.1, .int p3]) (rest := []) (st1 := []) (N2 := 0) hZ dX11_readBack_79 cw_X11_229_X0 rfl eu5 (s_X0_cutBy er6) rfl rfl (by decide) (Nat.le_of_ble_eq_true rfl) (Nat.le_refl 0) (Nat.le_refl _) (Or.inl rfl) rfl ?_
      refine r_aload_n hZ dX11_readBack_82 rfl ?_
      obtain ⟨x7, ex7, H⟩ := ok_bind H
      refine r_getR hZ fl_X11_72_10 dX11_readBack_83 ex7 ?_
      refine r_aload_n hZ dX11_readBack_86 rfl ?_
      obtain ⟨x8, ex8, H⟩ := ok_bind H
      refine r_getR hZ fl_X11_10_10 dX11_readBack_87 ex8 ?_
      obtain ⟨x9, ex9, H⟩ := ok_bind H
      refine r_getR hZ fl_X11_142_3 dX11_readBack_90 ex9 ?_
      refine r_iload_n hZ dX11_readBack_93 rfl ?_
      obtain ⟨x10, ex10, H⟩ := ok_bind H
      refine r_aR hZ dX11_readBack_94 ex10 (fun _ => rfl) (Or.inl ⟨_, rfl⟩) ?_
      obtain ⟨u11, eu11, H⟩ := ok_bind H
      obtain ⟨r12, er12, H⟩ := ok_bind H
      refine r_callV (As := [.ref x10]) (rest := []) (st1 := [.int r12]) (N2 := 0) hZ dX11_readBack_95 cw_X11_336_X0 rfl eu11 (s_X0_hasFlankOf er12) rfl rfl (by decide) (Nat.le_of_ble_eq_true rfl) (Nat.le_refl 0) (Nat.le_refl _) (Or.inl rfl) rfl ?_
      refine r_if_eq (tgt := 117) hZ dX11_readBack_98 (by decide) (fun c17 => ?_) (fun c17 => ?_)
      · have H := ok_t H c17
        obtain ⟨x13, ex13, H⟩ := ok_bind H
        refine r_iincE (w := (J 1)) hZ dX11_readBack_117 (by decide) rfl (by decide) ex13 (r_pick [0, 1, 2, 3, 4, 6, 7] (ls' := [(0, .ref p0), (1, .int p1), (2, .int p2), (3, .int p3), (4, .int p4), (6, .int s.1), (7, .int x13)]) rfl ?_)
        refine r_goto (tgt := 56) hZ dX11_readBack_120 (by decide) ?_
        exact r_pick [0, 1, 2, 3, 4, 6, 7] (ls' := [(0, .ref p0), (1, .int p1), (2, .int p2), (3, .int p3), (4, .int p4), (6, .int s.1), (7, .int x13)]) rfl (ih _ (ki_l H))
      · have H := ok_f H c17
        refine r_iload hZ dX11_readBack_101 rfl ?_
        refine r_iload hZ dX11_readBack_103 rfl ?_
        refine r_icmp_ne (tgt := 114) hZ dX11_readBack_105 (by decide) (fun c16 => ?_) (fun c16 => ?_)
        · have H := ok_f H c16
          obtain ⟨x14, ex14, H⟩ := ok_bind H
          refine r_iincE (w := (J 1)) hZ dX11_readBack_114 (by decide) rfl (by decide) ex14 (r_pick [0, 1, 2, 3, 4, 6, 7] (ls' := [(0, .ref p0), (1, .int p1), (2, .int p2), (3, .int p3), (4, .int p4), (6, .int x14), (7, .int s.2.1)]) rfl ?_)
          obtain ⟨x15, ex15, H⟩ := ok_bind H
          refine r_iincE (w := (J 1)) hZ dX11_readBack_117 (by decide) rfl (by decide) ex15 (r_pick [0, 1, 2, 3, 4, 6, 7] (ls' := [(0, .ref p0), (1, .int p1), (2, .int p2), (3, .int p3), (4, .int p4), (6, .int x14), (7, .int x15)]) rfl ?_)
          refine r_goto (tgt := 56) hZ dX11_readBack_120 (by decide) ?_
          exact r_pick [0, 1, 2, 3, 4, 6, 7] (ls' := [(0, .ref p0), (1, .int p1), (2, .int p2), (3, .int p3), (4, .int p4), (6, .int x14), (7, .int x15)]) rfl (ih _ (ki_l H))
        · have H := ok_t H c16
          exact r_pick [7] (ls' := [(7, .int s.2.1)]) rfl (hx1 _ (ki_r H))
def f_X11_readBack  (h : Hp) (a0 : Nat) (a1 : Int32) (a2 : Int32) (a3 : Int32) (a4 : Int32) : Option (Int32 × Hp) :=
  (isO h a0 10).bind fun u1 =>
  (f_X11_isGear h a0 a1).bind fun r2 =>
  (if r2 = 0 then
    some ((J (-1)), h)
  else
    (f_X11_isShelf a2).bind fun r3 =>
    (if r3 = 0 then
      some ((J (-1)), h)
    else
      (f_X11_isSteps a3).bind fun r4 =>
      (if r4 = 0 then
        some ((J (-1)), h)
      else
        (if (J (-1)) ≤ a4 then
          (gR h a0 10 8).bind fun x5 =>
          (aR h x5 4 a2).bind fun x6 =>
          (isO h x6 7).bind fun u7 =>
          (f_X8_cutterRefusal h x6).bind fun r8 =>
          (if r8 = 0 then
            (some (J 0)).bind fun x9 =>
            (some (J (-8))).bind fun x10 =>
            (iter (b_X11_readBack_56 a0 a1 a2 a3 a4) FU (x9, x10, h)).bind fun e11 =>
            (match e11 with
            | .inl e12 =>
              ((if a4 = (J (-1)) then
                some e12.1
              else
                some (J (-4)))).bind fun (j13 : Int32) =>
              some (j13, e12.2)
            | .inr e15 =>
              some ((e15.1 + (J 8)), e15.2))
          else
            some (r8, h))
        else
          some ((J (-1)), h)))))
set_option maxRecDepth 100000 in
set_option maxHeartbeats 4000000 in
theorem s_X11_readBack {n : Nat} {h : Hp} {a0 : Nat} {a1 : Int32} {a2 : Int32} {a3 : Int32} {a4 : Int32}  {r : Int32 × Hp} (hf : f_X11_readBack  h a0 a1 a2 a3 a4 = some r) : Ev 6 yX11_readBack cX11_readBack 8 (some .int) [.ref a0, .int a1, .int a2, .int a3, .int a4] n h (some (.int r.1)) n r.2 := by
  refine Ev_of RX11 rfl (by decide) (Nat.le_of_ble_eq_true rfl) (Nat.le_refl _) (Or.inl rfl) (fun Z hZ hF hN hI => ?_)
  have H : Ok (f_X11_readBack  h a0 a1 a2 a3 a4) (fun y => y = r) := ⟨_, hf, rfl⟩
  unfold f_X11_readBack at H
  refine r_ls (ls' := [(0, .ref a0), (1, .int a1), (2, .int a2), (3, .int a3), (4, .int a4)]) rfl ?_
  refine r_aload_n hZ dX11_readBack_0 rfl ?_
  refine r_iload_n hZ dX11_readBack_1 rfl ?_
  obtain ⟨u1, eu1, H⟩ := ok_bind H
  obtain ⟨r2, er2, H⟩ := ok_bind H
  refine r_callV (As := [.int a1]) (rest := []) (st1 := [.int r2]) (N2 := 0) hZ dX11_readBack_2 cw_X11_139_X11 rfl eu1 (s_X11_isGear er2) rfl rfl (by decide) (Nat.le_of_ble_eq_true rfl) (Nat.le_refl 0) (Nat.le_refl _) (Or.inl rfl) rfl ?_
  refine r_if_eq (tgt := 28) hZ dX11_readBack_5 (by decide) (fun c20 => ?_) (fun c20 => ?_)
  · have H := ok_t H c20
    refine r_iconst (v := (J (-1))) hZ dX11_readBack_28 (by decide) ?_
    have H := ok_some H
    subst H
    exact r_iret hZ hF dX11_readBack_29
  · have H := ok_f H c20
    refine r_iload_n hZ dX11_readBack_8 rfl ?_
    obtain ⟨r3, er3, H⟩ := ok_bind H
    refine r_callS (As := [.int a2]) (rest := []) (st1 := [.int r3]) (N2 := 0) hZ dX11_readBack_9 cw_X11_94 (s_X11_isShelf er3) rfl rfl (by decide) (Nat.le_of_ble_eq_true rfl) (Nat.le_refl 0) (Nat.le_refl _) (Or.inl rfl) rfl ?_
    refine r_if_eq (tgt := 28) hZ dX11_readBack_12 (by decide) (fun c19 => ?_) (fun c19 => ?_)
    · have H := ok_t H c19
      refine r_iconst (v := (J (-1))) hZ dX11_readBack_28 (by decide) ?_
      have H := ok_some H
      subst H
      exact r_iret hZ hF dX11_readBack_29
    · have H := ok_f H c19
      refine r_iload_n hZ dX11_readBack_15 rfl ?_
      obtain ⟨r4, er4, H⟩ := ok_bind H
      refine r_callS (As := [.int a3]) (rest := []) (st1 := [.int r4]) (N2 := 0) hZ dX11_readBack_16 cw_X11_223 (s_X11_isSteps er4) rfl rfl (by decide) (Nat.le_of_ble_eq_true rfl) (Nat.le_refl 0) (Nat.le_refl _) (Or.inl rfl) rfl ?_
      refine r_if_eq (tgt := 28) hZ dX11_readBack_19 (by decide) (fun c18 => ?_) (fun c18 => ?_)
      · have H := ok_t H c18
        refine r_iconst (v := (J (-1))) hZ dX11_readBack_28 (by decide) ?_
        have H := ok_some H
        subst H
        exact r_iret hZ hF dX11_readBack_29
      · have H := ok_f H c18
        refine r_iload hZ dX11_readBack_22 rfl ?_
        refine r_iconst (v := (J (-1))) hZ dX11_readBack_24 (by decide) ?_
        refine r_icmp_ge (tgt := 30) hZ dX11_readBack_25 (by decide) (fun c17 => ?_) (fun c17 => ?_)
        · have H := ok_t H c17
          refine r_aload_n hZ dX11_readBack_30 rfl ?_
          obtain ⟨x5, ex5, H⟩ := ok_bind H
          refine r_getR hZ fl_X11_44_10 dX11_readBack_31 ex5 ?_
          refine r_iload_n hZ dX11_readBack_34 rfl ?_
          obtain ⟨x6, ex6, H⟩ := ok_bind H
          refine r_aR hZ dX11_readBack_35 ex6 (fun _ => rfl) (Or.inl ⟨_, rfl⟩) ?_
          obtain ⟨u7, eu7, H⟩ := ok_bind H
          obtain ⟨r8, er8, H⟩ := ok_bind H
          refine r_callV (As := []) (rest := []) (st1 := [.int r8]) (N2 := 0) hZ dX11_readBack_36 cw_X11_226_X8 rfl eu7 (s_X8_cutterRefusal er8) rfl rfl (by decide) (Nat.le_of_ble_eq_true rfl) (Nat.le_refl 0) (Nat.le_refl _) (Or.inl rfl) rfl ?_
          refine r_istore hZ dX11_readBack_39 (by decide) (r_pick [0, 1, 2, 3, 4, 5] (ls' := [(0, .ref a0), (1, .int a1), (2, .int a2), (3, .int a3), (4, .int a4), (5, .int r8)]) rfl ?_)
          refine r_iload hZ dX11_readBack_41 rfl ?_
          refine r_if_eq (tgt := 49) hZ dX11_readBack_43 (by decide) (fun c16 => ?_) (fun c16 => ?_)
          · have H := ok_t H c16
            refine r_iconst (v := (J 0)) hZ dX11_readBack_49 (by decide) ?_
            obtain ⟨x9, ex9, H⟩ := ok_bind H
            refine r_topi ex9 ?_
            refine r_istore hZ dX11_readBack_50 (by decide) (r_pick [0, 1, 2, 3, 4, 6] (ls' := [(0, .ref a0), (1, .int a1), (2, .int a2), (3, .int a3), (4, .int a4), (6, .int x9)]) rfl ?_)
            refine r_bipush (v := (J (-8))) hZ dX11_readBack_52 (by decide) ?_
            obtain ⟨x10, ex10, H⟩ := ok_bind H
            refine r_topi ex10 ?_
            refine r_istore hZ dX11_readBack_54 (by decide) (r_pick [0, 1, 2, 3, 4, 6, 7] (ls' := [(0, .ref a0), (1, .int a1), (2, .int a2), (3, .int a3), (4, .int a4), (6, .int x9), (7, .int x10)]) rfl ?_)
            have H := ok_bindK H
            refine r_pick [0, 1, 2, 3, 4, 6, 7] (ls' := [(0, .ref a0), (1, .int a1), (2, .int a2), (3, .int a3), (4, .int a4), (6, .int x9), (7, .int x10)]) rfl (l_X11_readBack_56 hZ (fun e12 H => ?_) (fun e15 H => ?_) FU _ H)
            · refine r_iload hZ dX11_readBack_123 rfl ?_
              refine r_iconst (v := (J (-1))) hZ dX11_readBack_125 (by decide) ?_
              refine ok_join (Q := fun j13 : Int32 => R Z 136 [] [.int j13] n e12.2 0) H (fun j13 H => ?_) (fun H => ?_)
              · have H := ok_some H
                subst H
                exact r_iret hZ hF dX11_readBack_136
              · refine r_icmp_ne (tgt := 134) hZ dX11_readBack_126 (by decide) (fun c14 => ?_) (fun c14 => ?_)
                · have H := ok_f H c14
                  refine r_bipush (v := (J (-4))) hZ dX11_readBack_134 (by decide) ?_
                  have H := ok_some H
                  exact r_pick [] (ls' := []) rfl H
                · have H := ok_t H c14
                  refine r_iload hZ dX11_readBack_129 rfl ?_
                  refine r_goto (tgt := 136) hZ dX11_readBack_131 (by decide) ?_
                  have H := ok_some H
                  exact r_pick [] (ls' := []) rfl H
            · refine r_iload hZ dX11_readBack_108 rfl ?_
              refine r_bipush (v := (J 8)) hZ dX11_readBack_110 (by decide) ?_
              refine r_iadd hZ dX11_readBack_112 ?_
              have H := ok_some H
              subst H
              exact r_iret hZ hF dX11_readBack_113
          · have H := ok_f H c16
            refine r_iload hZ dX11_readBack_46 rfl ?_
            have H := ok_some H
            subst H
            exact r_iret hZ hF dX11_readBack_48
        · have H := ok_f H c17
          refine r_iconst (v := (J (-1))) hZ dX11_readBack_28 (by decide) ?_
          have H := ok_some H
          subst H
          exact r_iret hZ hF dX11_readBack_29
def f_X11_image  (h : Hp) (a0 : Nat) : Option (Int32 × Hp) :=
  (gR h a0 10 4).bind fun x1 =>
  (gR h a0 10 0).bind fun x2 =>
  (isO h x1 3).bind fun u3 =>
  (f_X3_takeFrom h x1 x2).bind fun r4 =>
  (gR r4 a0 10 5).bind fun x5 =>
  (gR r4 a0 10 2).bind fun x6 =>
  (isO r4 x5 2).bind fun u7 =>
  (f_X2_takeFrom r4 x5 x6).bind fun r8 =>
  (gR r8 a0 10 6).bind fun x9 =>
  (gR r8 a0 10 3).bind fun x10 =>
  (isO r8 x9 5).bind fun u11 =>
  (f_X6_takeFrom r8 x9 x10).bind fun r12 =>
  (pF r12 a0 10 7 (.int (J 1))).bind fun h13 =>
  (gR h13 a0 10 0).bind fun x14 =>
  (gI h13 x14 3 1).bind fun x15 =>
  some (x15, h13)
set_option maxRecDepth 100000 in
set_option maxHeartbeats 4000000 in
theorem s_X11_image {n : Nat} {h : Hp} {a0 : Nat}  {r : Int32 × Hp} (hf : f_X11_image  h a0 = some r) : Ev 4 yX11_image cX11_image 1 (some .int) [.ref a0] n h (some (.int r.1)) n r.2 := by
  refine Ev_of RX11 rfl (by decide) (Nat.le_of_ble_eq_true rfl) (Nat.le_refl _) (Or.inl rfl) (fun Z hZ hF hN hI => ?_)
  have H : Ok (f_X11_image  h a0) (fun y => y = r) := ⟨_, hf, rfl⟩
  unfold f_X11_image at H
  refine r_ls (ls' := [(0, .ref a0)]) rfl ?_
  refine r_aload_n hZ dX11_image_0 rfl ?_
  obtain ⟨x1, ex1, H⟩ := ok_bind H
  refine r_getR hZ fl_X11_33_10 dX11_image_1 ex1 ?_
  refine r_aload_n hZ dX11_image_4 rfl ?_
  obtain ⟨x2, ex2, H⟩ := ok_bind H
  refine r_getR hZ fl_X11_10_10 dX11_image_5 ex2 ?_
  obtain ⟨u3, eu3, H⟩ := ok_bind H
  obtain ⟨r4, er4, H⟩ := ok_bind H
  refine r_callV (As := [.ref x2]) (rest := []) (st1 := []) (N2 := 0) hZ dX11_image_8 cw_X11_121_X3 rfl eu3 (s_X3_takeFrom er4) rfl rfl (by decide) (Nat.le_of_ble_eq_true rfl) (Nat.le_refl 0) (Nat.le_refl _) (Or.inl rfl) rfl ?_
  refine r_aload_n hZ dX11_image_11 rfl ?_
  obtain ⟨x5, ex5, H⟩ := ok_bind H
  refine r_getR hZ fl_X11_36_10 dX11_image_12 ex5 ?_
  refine r_aload_n hZ dX11_image_15 rfl ?_
  obtain ⟨x6, ex6, H⟩ := ok_bind H
  refine r_getR hZ fl_X11_22_10 dX11_image_16 ex6 ?_
  obtain ⟨u7, eu7, H⟩ := ok_bind H
  obtain ⟨r8, er8, H⟩ := ok_bind H
  refine r_callV (As := [.ref x6]) (rest := []) (st1 := []) (N2 := 0) hZ dX11_image_19 cw_X11_340_X2 rfl eu7 (s_X2_takeFrom er8) rfl rfl (by decide) (Nat.le_of_ble_eq_true rfl) (Nat.le_refl 0) (Nat.le_refl _) (Or.inl rfl) rfl ?_
  refine r_aload_n hZ dX11_image_22 rfl ?_
  obtain ⟨x9, ex9, H⟩ := ok_bind H
  refine r_getR hZ fl_X11_39_10 dX11_image_23 ex9 ?_
  refine r_aload_n hZ dX11_image_26 rfl ?_
  obtain ⟨x10, ex10, H⟩ := ok_bind H
  refine r_getR hZ fl_X11_29_10 dX11_image_27 ex10 ?_
  obtain ⟨u11, eu11, H⟩ := ok_bind H
  obtain ⟨r12, er12, H⟩ := ok_bind H
  refine r_callV (As := [.ref x10]) (rest := []) (st1 := []) (N2 := 0) hZ dX11_image_30 cw_X11_343_X6 rfl eu11 (s_X6_takeFrom er12) rfl rfl (by decide) (Nat.le_of_ble_eq_true rfl) (Nat.le_refl 0) (Nat.le_refl _) (Or.inl rfl) rfl ?_
  refine r_aload_n hZ dX11_image_33 rfl ?_
  refine r_iconst (v := (J 1)) hZ dX11_image_34 (by decide) ?_
  obtain ⟨h13, eh13, H⟩ := ok_bind H
  refine r_putf hZ fl_X11_346_10 dX11_image_35 eh13 (by decide) (by decide) ?_
  refine r_aload_n hZ dX11_image_38 rfl ?_
  obtain ⟨x14, ex14, H⟩ := ok_bind H
  refine r_getR hZ fl_X11_10_10 dX11_image_39 ex14 ?_
  obtain ⟨x15, ex15, H⟩ := ok_bind H
  refine r_getI hZ fl_X11_349_3 dX11_image_42 ex15 ?_
  have H := ok_some H
  subst H
  exact r_iret hZ hF dX11_image_45
def f_X11_restore  (h : Hp) (a0 : Nat) : Option (Int32 × Hp) :=
  (gI h a0 10 7).bind fun x1 =>
  (if x1 = 0 then
    some ((J (-3)), h)
  else
    (gR h a0 10 0).bind fun x2 =>
    (gR h a0 10 4).bind fun x3 =>
    (isO h x2 3).bind fun u4 =>
    (f_X3_takeFrom h x2 x3).bind fun r5 =>
    (gR r5 a0 10 2).bind fun x6 =>
    (gR r5 a0 10 5).bind fun x7 =>
    (isO r5 x6 2).bind fun u8 =>
    (f_X2_takeFrom r5 x6 x7).bind fun r9 =>
    (gR r9 a0 10 3).bind fun x10 =>
    (gR r9 a0 10 6).bind fun x11 =>
    (isO r9 x10 5).bind fun u12 =>
    (f_X6_takeFrom r9 x10 x11).bind fun r13 =>
    (gR r13 a0 10 0).bind fun x14 =>
    (gI r13 x14 3 1).bind fun x15 =>
    some (x15, r13))
set_option maxRecDepth 100000 in
set_option maxHeartbeats 4000000 in
theorem s_X11_restore {n : Nat} {h : Hp} {a0 : Nat}  {r : Int32 × Hp} (hf : f_X11_restore  h a0 = some r) : Ev 4 yX11_restore cX11_restore 1 (some .int) [.ref a0] n h (some (.int r.1)) n r.2 := by
  refine Ev_of RX11 rfl (by decide) (Nat.le_of_ble_eq_true rfl) (Nat.le_refl _) (Or.inl rfl) (fun Z hZ hF hN hI => ?_)
  have H : Ok (f_X11_restore  h a0) (fun y => y = r) := ⟨_, hf, rfl⟩
  unfold f_X11_restore at H
  refine r_ls (ls' := [(0, .ref a0)]) rfl ?_
  refine r_aload_n hZ dX11_restore_0 rfl ?_
  obtain ⟨x1, ex1, H⟩ := ok_bind H
  refine r_getI hZ fl_X11_346_10 dX11_restore_1 ex1 ?_
  refine r_if_ne (tgt := 10) hZ dX11_restore_4 (by decide) (fun c16 => ?_) (fun c16 => ?_)
  · have H := ok_f H c16
    refine r_aload_n hZ dX11_restore_10 rfl ?_
    obtain ⟨x2, ex2, H⟩ := ok_bind H
    refine r_getR hZ fl_X11_10_10 dX11_restore_11 ex2 ?_
    refine r_aload_n hZ dX11_restore_14 rfl ?_
    obtain ⟨x3, ex3, H⟩ := ok_bind H
    refine r_getR hZ fl_X11_33_10 dX11_restore_15 ex3 ?_
    obtain ⟨u4, eu4, H⟩ := ok_bind H
    obtain ⟨r5, er5, H⟩ := ok_bind H
    refine r_callV (As := [.ref x3]) (rest := []) (st1 := []) (N2 := 0) hZ dX11_restore_18 cw_X11_121_X3 rfl eu4 (s_X3_takeFrom er5) rfl rfl (by decide) (Nat.le_of_ble_eq_true rfl) (Nat.le_refl 0) (Nat.le_refl _) (Or.inl rfl) rfl ?_
    refine r_aload_n hZ dX11_restore_21 rfl ?_
    obtain ⟨x6, ex6, H⟩ := ok_bind H
    refine r_getR hZ fl_X11_22_10 dX11_restore_22 ex6 ?_
    refine r_aload_n hZ dX11_restore_25 rfl ?_
    obtain ⟨x7, ex7, H⟩ := ok_bind H
    refine r_getR hZ fl_X11_36_10 dX11_restore_26 ex7 ?_
    obtain ⟨u8, eu8, H⟩ := ok_bind H
    obtain ⟨r9, er9, H⟩ := ok_bind H
    refine r_callV (As := [.ref x7]) (rest := []) (st1 := []) (N2 := 0) hZ dX11_restore_29 cw_X11_340_X2 rfl eu8 (s_X2_takeFrom er9) rfl rfl (by decide) (Nat.le_of_ble_eq_true rfl) (Nat.le_refl 0) (Nat.le_refl _) (Or.inl rfl) rfl ?_
    refine r_aload_n hZ dX11_restore_32 rfl ?_
    obtain ⟨x10, ex10, H⟩ := ok_bind H
    refine r_getR hZ fl_X11_29_10 dX11_restore_33 ex10 ?_
    refine r_aload_n hZ dX11_restore_36 rfl ?_
    obtain ⟨x11, ex11, H⟩ := ok_bind H
    refine r_getR hZ fl_X11_39_10 dX11_restore_37 ex11 ?_
    obtain ⟨u12, eu12, H⟩ := ok_bind H
    obtain ⟨r13, er13, H⟩ := ok_bind H
    refine r_callV (As := [.ref x11]) (rest := []) (st1 := []) (N2 := 0) hZ dX11_restore_40 cw_X11_343_X6 rfl eu12 (s_X6_takeFrom er13) rfl rfl (by decide) (Nat.le_of_ble_eq_true rfl) (Nat.le_refl 0) (Nat.le_refl _) (Or.inl rfl) rfl ?_
    refine r_aload_n hZ dX11_restore_43 rfl ?_
    obtain ⟨x14, ex14, H⟩ := ok_bind H
    refine r_getR hZ fl_X11_10_10 dX11_restore_44 ex14 ?_
    obtain ⟨x15, ex15, H⟩ := ok_bind H
    refine r_getI hZ fl_X11_349_3 dX11_restore_47 ex15 ?_
    have H := ok_some H
    subst H
    exact r_iret hZ hF dX11_restore_50
  · have H := ok_t H c16
    refine r_bipush (v := (J (-3))) hZ dX11_restore_7 (by decide) ?_
    have H := ok_some H
    subst H
    exact r_iret hZ hF dX11_restore_9
def f_X11_count  (h : Hp) (a0 : Nat) (a1 : Int32) : Option (Int32 × Hp) :=
  (if a1 = (J 0) then
    (gR h a0 10 0).bind fun x1 =>
    (gI h x1 3 1).bind fun x2 =>
    some (x2, h)
  else
    (if a1 = (J 1) then
      (gR h a0 10 0).bind fun x4 =>
      (gI h x4 3 5).bind fun x5 =>
      some (x5, h)
    else
      (if a1 = (J 2) then
        (gR h a0 10 3).bind fun x7 =>
        (gI h x7 5 2).bind fun x8 =>
        some (x8, h)
      else
        (if a1 = (J 3) then
          (gR h a0 10 2).bind fun x10 =>
          (gI h x10 2 2).bind fun x11 =>
          some (x11, h)
        else
          (if a1 = (J 4) then
            (gR h a0 10 0).bind fun x13 =>
            (isO h x13 3).bind fun u14 =>
            (f_X3_allTeeth h x13).bind fun r15 =>
            some (r15, h)
          else
            (if a1 = (J 5) then
              (gR h a0 10 0).bind fun x17 =>
              (isO h x17 3).bind fun u18 =>
              (f_X3_allWidths h x17).bind fun r19 =>
              some (r19, h)
            else
              (if a1 = (J 6) then
                (gR h a0 10 11).bind fun x21 =>
                (gR h a0 10 0).bind fun x22 =>
                (isO h x21 9).bind fun u23 =>
                (f_X10_solve h x21 x22).bind fun r24 =>
                (gR r24 a0 10 11).bind fun x25 =>
                (isO r24 x25 9).bind fun u26 =>
                (f_X10_countTurned r24 x25).bind fun r27 =>
                some (r27, r24)
              else
                some ((J (-1)), h))))))))
set_option maxRecDepth 100000 in
set_option maxHeartbeats 4000000 in
theorem s_X11_count {n : Nat} {h : Hp} {a0 : Nat} {a1 : Int32}  {r : Int32 × Hp} (hf : f_X11_count  h a0 a1 = some r) : Ev 7 yX11_count cX11_count 2 (some .int) [.ref a0, .int a1] n h (some (.int r.1)) n r.2 := by
  refine Ev_of RX11 rfl (by decide) (Nat.le_of_ble_eq_true rfl) (Nat.le_refl _) (Or.inl rfl) (fun Z hZ hF hN hI => ?_)
  have H : Ok (f_X11_count  h a0 a1) (fun y => y = r) := ⟨_, hf, rfl⟩
  unfold f_X11_count at H
  refine r_ls (ls' := [(0, .ref a0), (1, .int a1)]) rfl ?_
  refine r_iload_n hZ dX11_count_0 rfl ?_
  by_cases c3 : a1 = (J 0)
  · have hs : R Z 44 [(0, .ref a0), (1, .int a1)] [] n h 0 → R Z 1 [(0, .ref a0), (1, .int a1)] [.int a1] n h 0 := by
      exact fun k => r_tableIn hZ dX11_count_1 (by rw [c3]; decide) (by rw [c3]; decide) (off := 43) (by rw [c3]; rfl) (by decide) k
    refine hs ?_
    clear hs
    have H := ok_t H c3
    refine r_aload_n hZ dX11_count_44 rfl ?_
    obtain ⟨x1, ex1, H⟩ := ok_bind H
    refine r_getR hZ fl_X11_10_10 dX11_count_45 ex1 ?_
    obtain ⟨x2, ex2, H⟩ := ok_bind H
    refine r_getI hZ fl_X11_349_3 dX11_count_48 ex2 ?_
    have H := ok_some H
    subst H
    exact r_iret hZ hF dX11_count_51
  · have H := ok_f H c3
    by_cases c6 : a1 = (J 1)
    · have hs : R Z 52 [(0, .ref a0), (1, .int a1)] [] n h 0 → R Z 1 [(0, .ref a0), (1, .int a1)] [.int a1] n h 0 := by
        exact fun k => r_tableIn hZ dX11_count_1 (by rw [c6]; decide) (by rw [c6]; decide) (off := 51) (by rw [c6]; rfl) (by decide) k
      refine hs ?_
      clear hs
      have H := ok_t H c6
      refine r_aload_n hZ dX11_count_52 rfl ?_
      obtain ⟨x4, ex4, H⟩ := ok_bind H
      refine r_getR hZ fl_X11_10_10 dX11_count_53 ex4 ?_
      obtain ⟨x5, ex5, H⟩ := ok_bind H
      refine r_getI hZ fl_X11_352_3 dX11_count_56 ex5 ?_
      have H := ok_some H
      subst H
      exact r_iret hZ hF dX11_count_59
    · have H := ok_f H c6
      by_cases c9 : a1 = (J 2)
      · have hs : R Z 60 [(0, .ref a0), (1, .int a1)] [] n h 0 → R Z 1 [(0, .ref a0), (1, .int a1)] [.int a1] n h 0 := by
          exact fun k => r_tableIn hZ dX11_count_1 (by rw [c9]; decide) (by rw [c9]; decide) (off := 59) (by rw [c9]; rfl) (by decide) k
        refine hs ?_
        clear hs
        have H := ok_t H c9
        refine r_aload_n hZ dX11_count_60 rfl ?_
        obtain ⟨x7, ex7, H⟩ := ok_bind H
        refine r_getR hZ fl_X11_29_10 dX11_count_61 ex7 ?_
        obtain ⟨x8, ex8, H⟩ := ok_bind H
        refine r_getI hZ fl_X11_299_5 dX11_count_64 ex8 ?_
        have H := ok_some H
        subst H
        exact r_iret hZ hF dX11_count_67
      · have H := ok_f H c9
        by_cases c12 : a1 = (J 3)
        · have hs : R Z 68 [(0, .ref a0), (1, .int a1)] [] n h 0 → R Z 1 [(0, .ref a0), (1, .int a1)] [.int a1] n h 0 := by
            exact fun k => r_tableIn hZ dX11_count_1 (by rw [c12]; decide) (by rw [c12]; decide) (off := 67) (by rw [c12]; rfl) (by decide) k
          refine hs ?_
          clear hs
          have H := ok_t H c12
          refine r_aload_n hZ dX11_count_68 rfl ?_
          obtain ⟨x10, ex10, H⟩ := ok_bind H
          refine r_getR hZ fl_X11_22_10 dX11_count_69 ex10 ?_
          obtain ⟨x11, ex11, H⟩ := ok_bind H
          refine r_getI hZ fl_X11_274_2 dX11_count_72 ex11 ?_
          have H := ok_some H
          subst H
          exact r_iret hZ hF dX11_count_75
        · have H := ok_f H c12
          by_cases c16 : a1 = (J 4)
          · have hs : R Z 76 [(0, .ref a0), (1, .int a1)] [] n h 0 → R Z 1 [(0, .ref a0), (1, .int a1)] [.int a1] n h 0 := by
              exact fun k => r_tableIn hZ dX11_count_1 (by rw [c16]; decide) (by rw [c16]; decide) (off := 75) (by rw [c16]; rfl) (by decide) k
            refine hs ?_
            clear hs
            have H := ok_t H c16
            refine r_aload_n hZ dX11_count_76 rfl ?_
            obtain ⟨x13, ex13, H⟩ := ok_bind H
            refine r_getR hZ fl_X11_10_10 dX11_count_77 ex13 ?_
            obtain ⟨u14, eu14, H⟩ := ok_bind H
            obtain ⟨r15, er15, H⟩ := ok_bind H
            refine r_callV (As := []) (rest := []) (st1 := [.int r15]) (N2 := 0) hZ dX11_count_80 cw_X11_355_X3 rfl eu14 (s_X3_allTeeth er15) rfl rfl (by decide) (Nat.le_of_ble_eq_true rfl) (Nat.le_refl 0) (Nat.le_refl _) (Or.inl rfl) rfl ?_
            have H := ok_some H
            subst H
            exact r_iret hZ hF dX11_count_83
          · have H := ok_f H c16
            by_cases c20 : a1 = (J 5)
            · have hs : R Z 84 [(0, .ref a0), (1, .int a1)] [] n h 0 → R Z 1 [(0, .ref a0), (1, .int a1)] [.int a1] n h 0 := by
                exact fun k => r_tableIn hZ dX11_count_1 (by rw [c20]; decide) (by rw [c20]; decide) (off := 83) (by rw [c20]; rfl) (by decide) k
              refine hs ?_
              clear hs
              have H := ok_t H c20
              refine r_aload_n hZ dX11_count_84 rfl ?_
              obtain ⟨x17, ex17, H⟩ := ok_bind H
              refine r_getR hZ fl_X11_10_10 dX11_count_85 ex17 ?_
              obtain ⟨u18, eu18, H⟩ := ok_bind H
              obtain ⟨r19, er19, H⟩ := ok_bind H
              refine r_callV (As := []) (rest := []) (st1 := [.int r19]) (N2 := 0) hZ dX11_count_88 cw_X11_358_X3 rfl eu18 (s_X3_allWidths er19) rfl rfl (by decide) (Nat.le_of_ble_eq_true rfl) (Nat.le_refl 0) (Nat.le_refl _) (Or.inl rfl) rfl ?_
              have H := ok_some H
              subst H
              exact r_iret hZ hF dX11_count_91
            · have H := ok_f H c20
              by_cases c28 : a1 = (J 6)
              · have hs : R Z 92 [(0, .ref a0), (1, .int a1)] [] n h 0 → R Z 1 [(0, .ref a0), (1, .int a1)] [.int a1] n h 0 := by
                  exact fun k => r_tableIn hZ dX11_count_1 (by rw [c28]; decide) (by rw [c28]; decide) (off := 91) (by rw [c28]; rfl) (by decide) k
                refine hs ?_
                clear hs
                have H := ok_t H c28
                refine r_aload_n hZ dX11_count_92 rfl ?_
                obtain ⟨x21, ex21, H⟩ := ok_bind H
                refine r_getR hZ fl_X11_65_10 dX11_count_93 ex21 ?_
                refine r_aload_n hZ dX11_count_96 rfl ?_
                obtain ⟨x22, ex22, H⟩ := ok_bind H
                refine r_getR hZ fl_X11_10_10 dX11_count_97 ex22 ?_
                obtain ⟨u23, eu23, H⟩ := ok_bind H
                obtain ⟨r24, er24, H⟩ := ok_bind H
                refine r_callV (As := [.ref x22]) (rest := []) (st1 := []) (N2 := 0) hZ dX11_count_100 cw_X11_189_X10 rfl eu23 (s_X10_solve er24) rfl rfl (by decide) (Nat.le_of_ble_eq_true rfl) (Nat.le_refl 0) (Nat.le_refl _) (Or.inl rfl) rfl ?_
                refine r_aload_n hZ dX11_count_103 rfl ?_
                obtain ⟨x25, ex25, H⟩ := ok_bind H
                refine r_getR hZ fl_X11_65_10 dX11_count_104 ex25 ?_
                obtain ⟨u26, eu26, H⟩ := ok_bind H
                obtain ⟨r27, er27, H⟩ := ok_bind H
                refine r_callV (As := []) (rest := []) (st1 := [.int r27]) (N2 := 0) hZ dX11_count_107 cw_X11_361_X10 rfl eu26 (s_X10_countTurned er27) rfl rfl (by decide) (Nat.le_of_ble_eq_true rfl) (Nat.le_refl 0) (Nat.le_refl _) (Or.inl rfl) rfl ?_
                have H := ok_some H
                subst H
                exact r_iret hZ hF dX11_count_110
              · have H := ok_f H c28
                refine r_tableOut (tgt := 111) hZ dX11_count_1 (by have := sw_n c3; have := sw_n c6; have := sw_n c9; have := sw_n c12; have := sw_n c16; have := sw_n c20; have := sw_n c28; omega) (by decide) ?_
                refine r_iconst (v := (J (-1))) hZ dX11_count_111 (by decide) ?_
                have H := ok_some H
                subst H
                exact r_iret hZ hF dX11_count_112
def f_X11_keep  (h : Hp) (a0 : Nat) (a1 : Int32) (a2 : Int32) (a3 : Int32) : Option (Int32 × Hp) :=
  (f_X11_isShelf a1).bind fun r1 =>
  (if r1 = 0 then
    some ((J (-1)), h)
  else
    (f_X11_isWithin a2 (J 0) (J 1)).bind fun r2 =>
    (if r2 = 0 then
      some ((J (-1)), h)
    else
      (if a2 = (J 1) then
        (isO h a0 10).bind fun u16 =>
        (f_X11_isGear h a0 a3).bind fun r17 =>
        (if r17 = 0 then
          some ((J (-1)), h)
        else
          ((if a2 = 0 then
            (gR h a0 10 8).bind fun x26 =>
            (aR h x26 4 a1).bind fun x27 =>
            (isO h x27 7).bind fun u28 =>
            (f_X8_holdNothing h x27).bind fun r29 =>
            some r29
          else
            (gR h a0 10 8).bind fun x19 =>
            (aR h x19 4 a1).bind fun x20 =>
            (gR h a0 10 0).bind fun x21 =>
            (gR h x21 3 0).bind fun x22 =>
            (aR h x22 3 a3).bind fun x23 =>
            (isO h x20 7).bind fun u24 =>
            (f_X8_holdGear h x20 x23).bind fun r25 =>
            some r25)).bind fun (j18 : Hp) =>
          some ((J 0), j18))
      else
        ((if a2 = 0 then
          (gR h a0 10 8).bind fun x11 =>
          (aR h x11 4 a1).bind fun x12 =>
          (isO h x12 7).bind fun u13 =>
          (f_X8_holdNothing h x12).bind fun r14 =>
          some r14
        else
          (gR h a0 10 8).bind fun x4 =>
          (aR h x4 4 a1).bind fun x5 =>
          (gR h a0 10 0).bind fun x6 =>
          (gR h x6 3 0).bind fun x7 =>
          (aR h x7 3 a3).bind fun x8 =>
          (isO h x5 7).bind fun u9 =>
          (f_X8_holdGear h x5 x8).bind fun r10 =>
          some r10)).bind fun (j3 : Hp) =>
        some ((J 0), j3))))
set_option maxRecDepth 100000 in
set_option maxHeartbeats 4000000 in
theorem s_X11_keep {n : Nat} {h : Hp} {a0 : Nat} {a1 : Int32} {a2 : Int32} {a3 : Int32}  {r : Int32 × Hp} (hf : f_X11_keep  h a0 a1 a2 a3 = some r) : Ev 4 yX11_keep cX11_keep 4 (some .int) [.ref a0, .int a1, .int a2, .int a3] n h (some (.int r.1)) n r.2 := by
  refine Ev_of RX11 rfl (by decide) (Nat.le_of_ble_eq_true rfl) (Nat.le_refl _) (Or.inl rfl) (fun Z hZ hF hN hI => ?_)
  have H : Ok (f_X11_keep  h a0 a1 a2 a3) (fun y => y = r) := ⟨_, hf, rfl⟩
  unfold f_X11_keep at H
  refine r_ls (ls' := [(0, .ref a0), (1, .int a1), (2, .int a2), (3, .int a3)]) rfl ?_
  refine r_iload_n hZ dX11_keep_0 rfl ?_
  obtain ⟨r1, er1, H⟩ := ok_bind H
  refine r_callS (As := [.int a1]) (rest := []) (st1 := [.int r1]) (N2 := 0) hZ dX11_keep_1 cw_X11_94 (s_X11_isShelf er1) rfl rfl (by decide) (Nat.le_of_ble_eq_true rfl) (Nat.le_refl 0) (Nat.le_refl _) (Or.inl rfl) rfl ?_
  refine r_if_eq (tgt := 29) hZ dX11_keep_4 (by decide) (fun c34 => ?_) (fun c34 => ?_)
  · have H := ok_t H c34
    refine r_iconst (v := (J (-1))) hZ dX11_keep_29 (by decide) ?_
    have H := ok_some H
    subst H
    exact r_iret hZ hF dX11_keep_30
  · have H := ok_f H c34
    refine r_iload_n hZ dX11_keep_7 rfl ?_
    refine r_iconst (v := (J 0)) hZ dX11_keep_8 (by decide) ?_
    refine r_iconst (v := (J 1)) hZ dX11_keep_9 (by decide) ?_
    obtain ⟨r2, er2, H⟩ := ok_bind H
    refine r_callS (As := [.int a2, .int (J 0), .int (J 1)]) (rest := []) (st1 := [.int r2]) (N2 := 0) hZ dX11_keep_10 cw_X11_170 (s_X11_isWithin er2) rfl rfl (by decide) (Nat.le_of_ble_eq_true rfl) (Nat.le_refl 0) (Nat.le_refl _) (Or.inl rfl) rfl ?_
    refine r_if_eq (tgt := 29) hZ dX11_keep_13 (by decide) (fun c33 => ?_) (fun c33 => ?_)
    · have H := ok_t H c33
      refine r_iconst (v := (J (-1))) hZ dX11_keep_29 (by decide) ?_
      have H := ok_some H
      subst H
      exact r_iret hZ hF dX11_keep_30
    · have H := ok_f H c33
      refine r_iload_n hZ dX11_keep_16 rfl ?_
      refine r_iconst (v := (J 1)) hZ dX11_keep_17 (by decide) ?_
      refine r_icmp_ne (tgt := 31) hZ dX11_keep_18 (by decide) (fun c32 => ?_) (fun c32 => ?_)
      · have H := ok_f H c32
        refine r_iload_n hZ dX11_keep_31 rfl ?_
        refine ok_join (Q := fun j3 : Hp => R Z 65 [] [] n j3 0) H (fun j3 H => ?_) (fun H => ?_)
        · refine r_iconst (v := (J 0)) hZ dX11_keep_65 (by decide) ?_
          have H := ok_some H
          subst H
          exact r_iret hZ hF dX11_keep_66
        · refine r_if_ne (tgt := 47) hZ dX11_keep_32 (by decide) (fun c15 => ?_) (fun c15 => ?_)
          · have H := ok_f H c15
            refine r_aload_n hZ dX11_keep_47 rfl ?_
            obtain ⟨x4, ex4, H⟩ := ok_bind H
            refine r_getR hZ fl_X11_44_10 dX11_keep_48 ex4 ?_
            refine r_iload_n hZ dX11_keep_51 rfl ?_
            obtain ⟨x5, ex5, H⟩ := ok_bind H
            refine r_aR hZ dX11_keep_52 ex5 (fun _ => rfl) (Or.inl ⟨_, rfl⟩) ?_
            refine r_aload_n hZ dX11_keep_53 rfl ?_
            obtain ⟨x6, ex6, H⟩ := ok_bind H
            refine r_getR hZ fl_X11_10_10 dX11_keep_54 ex6 ?_
            obtain ⟨x7, ex7, H⟩ := ok_bind H
            refine r_getR hZ fl_X11_142_3 dX11_keep_57 ex7 ?_
            refine r_iload_n hZ dX11_keep_60 rfl ?_
            obtain ⟨x8, ex8, H⟩ := ok_bind H
            refine r_aR hZ dX11_keep_61 ex8 (fun _ => rfl) (Or.inl ⟨_, rfl⟩) ?_
            obtain ⟨u9, eu9, H⟩ := ok_bind H
            obtain ⟨r10, er10, H⟩ := ok_bind H
            refine r_callV (As := [.ref x8]) (rest := []) (st1 := []) (N2 := 0) hZ dX11_keep_62 cw_X11_367_X8 rfl eu9 (s_X8_holdGear er10) rfl rfl (by decide) (Nat.le_of_ble_eq_true rfl) (Nat.le_refl 0) (Nat.le_refl _) (Or.inl rfl) rfl ?_
            have H := ok_some H
            exact r_pick [] (ls' := []) rfl H
          · have H := ok_t H c15
            refine r_aload_n hZ dX11_keep_35 rfl ?_
            obtain ⟨x11, ex11, H⟩ := ok_bind H
            refine r_getR hZ fl_X11_44_10 dX11_keep_36 ex11 ?_
            refine r_iload_n hZ dX11_keep_39 rfl ?_
            obtain ⟨x12, ex12, H⟩ := ok_bind H
            refine r_aR hZ dX11_keep_40 ex12 (fun _ => rfl) (Or.inl ⟨_, rfl⟩) ?_
            obtain ⟨u13, eu13, H⟩ := ok_bind H
            obtain ⟨r14, er14, H⟩ := ok_bind H
            refine r_callV (As := []) (rest := []) (st1 := []) (N2 := 0) hZ dX11_keep_41 cw_X11_364_X8 rfl eu13 (s_X8_holdNothing er14) rfl rfl (by decide) (Nat.le_of_ble_eq_true rfl) (Nat.le_refl 0) (Nat.le_refl _) (Or.inl rfl) rfl ?_
            refine r_goto (tgt := 65) hZ dX11_keep_44 (by decide) ?_
            have H := ok_some H
            exact r_pick [] (ls' := []) rfl H
      · have H := ok_t H c32
        refine r_aload_n hZ dX11_keep_21 rfl ?_
        refine r_iload_n hZ dX11_keep_22 rfl ?_
        obtain ⟨u16, eu16, H⟩ := ok_bind H
        obtain ⟨r17, er17, H⟩ := ok_bind H
        refine r_callV (As := [.int a3]) (rest := []) (st1 := [.int r17]) (N2 := 0) hZ dX11_keep_23 cw_X11_139_X11 rfl eu16 (s_X11_isGear er17) rfl rfl (by decide) (Nat.le_of_ble_eq_true rfl) (Nat.le_refl 0) (Nat.le_refl _) (Or.inl rfl) rfl ?_
        refine r_if_ne (tgt := 31) hZ dX11_keep_26 (by decide) (fun c31 => ?_) (fun c31 => ?_)
        · have H := ok_f H c31
          refine r_iload_n hZ dX11_keep_31 rfl ?_
          refine ok_join (Q := fun j18 : Hp => R Z 65 [] [] n j18 0) H (fun j18 H => ?_) (fun H => ?_)
          · refine r_iconst (v := (J 0)) hZ dX11_keep_65 (by decide) ?_
            have H := ok_some H
            subst H
            exact r_iret hZ hF dX11_keep_66
          · refine r_if_ne (tgt := 47) hZ dX11_keep_32 (by decide) (fun c30 => ?_) (fun c30 => ?_)
            · have H := ok_f H c30
              refine r_aload_n hZ dX11_keep_47 rfl ?_
              obtain ⟨x19, ex19, H⟩ := ok_bind H
              refine r_getR hZ fl_X11_44_10 dX11_keep_48 ex19 ?_
              refine r_iload_n hZ dX11_keep_51 rfl ?_
              obtain ⟨x20, ex20, H⟩ := ok_bind H
              refine r_aR hZ dX11_keep_52 ex20 (fun _ => rfl) (Or.inl ⟨_, rfl⟩) ?_
              refine r_aload_n hZ dX11_keep_53 rfl ?_
              obtain ⟨x21, ex21, H⟩ := ok_bind H
              refine r_getR hZ fl_X11_10_10 dX11_keep_54 ex21 ?_
              obtain ⟨x22, ex22, H⟩ := ok_bind H
              refine r_getR hZ fl_X11_142_3 dX11_keep_57 ex22 ?_
              refine r_iload_n hZ dX11_keep_60 rfl ?_
              obtain ⟨x23, ex23, H⟩ := ok_bind H
              refine r_aR hZ dX11_keep_61 ex23 (fun _ => rfl) (Or.inl ⟨_, rfl⟩) ?_
              obtain ⟨u24, eu24, H⟩ := ok_bind H
              obtain ⟨r25, er25, H⟩ := ok_bind H
              refine r_callV (As := [.ref x23]) (rest := []) (st1 := []) (N2 := 0) hZ dX11_keep_62 cw_X11_367_X8 rfl eu24 (s_X8_holdGear er25) rfl rfl (by decide) (Nat.le_of_ble_eq_true rfl) (Nat.le_refl 0) (Nat.le_refl _) (Or.inl rfl) rfl ?_
              have H := ok_some H
              exact r_pick [] (ls' := []) rfl H
            · have H := ok_t H c30
              refine r_aload_n hZ dX11_keep_35 rfl ?_
              obtain ⟨x26, ex26, H⟩ := ok_bind H
              refine r_getR hZ fl_X11_44_10 dX11_keep_36 ex26 ?_
              refine r_iload_n hZ dX11_keep_39 rfl ?_
              obtain ⟨x27, ex27, H⟩ := ok_bind H
              refine r_aR hZ dX11_keep_40 ex27 (fun _ => rfl) (Or.inl ⟨_, rfl⟩) ?_
              obtain ⟨u28, eu28, H⟩ := ok_bind H
              obtain ⟨r29, er29, H⟩ := ok_bind H
              refine r_callV (As := []) (rest := []) (st1 := []) (N2 := 0) hZ dX11_keep_41 cw_X11_364_X8 rfl eu28 (s_X8_holdNothing er29) rfl rfl (by decide) (Nat.le_of_ble_eq_true rfl) (Nat.le_refl 0) (Nat.le_refl _) (Or.inl rfl) rfl ?_
              refine r_goto (tgt := 65) hZ dX11_keep_44 (by decide) ?_
              have H := ok_some H
              exact r_pick [] (ls' := []) rfl H
        · have H := ok_t H c31
          refine r_iconst (v := (J (-1))) hZ dX11_keep_29 (by decide) ?_
          have H := ok_some H
          subst H
          exact r_iret hZ hF dX11_keep_30
def f_X11_row  (h : Hp) (a0 : Nat) (a1 : Int32) (a2 : Int32) (a3 : Int32) : Option (Int32 × Hp) :=
  (f_X11_isShelf a1).bind fun r1 =>
  (if r1 = 0 then
    some ((J (-1)), h)
  else
    (f_X11_isWithin a2 (J 0) (J 2)).bind fun r2 =>
    (if r2 = 0 then
      some ((J (-1)), h)
    else
      (if a3 ≤ (J 120) then
        (if 0 ≤ a3 then
          (gR h a0 10 8).bind fun x3 =>
          (aR h x3 4 a1).bind fun x4 =>
          (isO h x4 7).bind fun u5 =>
          (f_X8_holdRow h x4 a2 a3).bind fun r6 =>
          some ((J 0), r6)
        else
          some ((J (-14)), h))
      else
        some ((J (-1)), h))))
set_option maxRecDepth 100000 in
set_option maxHeartbeats 4000000 in
theorem s_X11_row {n : Nat} {h : Hp} {a0 : Nat} {a1 : Int32} {a2 : Int32} {a3 : Int32}  {r : Int32 × Hp} (hf : f_X11_row  h a0 a1 a2 a3 = some r) : Ev 4 yX11_row cX11_row 4 (some .int) [.ref a0, .int a1, .int a2, .int a3] n h (some (.int r.1)) n r.2 := by
  refine Ev_of RX11 rfl (by decide) (Nat.le_of_ble_eq_true rfl) (Nat.le_refl _) (Or.inl rfl) (fun Z hZ hF hN hI => ?_)
  have H : Ok (f_X11_row  h a0 a1 a2 a3) (fun y => y = r) := ⟨_, hf, rfl⟩
  unfold f_X11_row at H
  refine r_ls (ls' := [(0, .ref a0), (1, .int a1), (2, .int a2), (3, .int a3)]) rfl ?_
  refine r_iload_n hZ dX11_row_0 rfl ?_
  obtain ⟨r1, er1, H⟩ := ok_bind H
  refine r_callS (As := [.int a1]) (rest := []) (st1 := [.int r1]) (N2 := 0) hZ dX11_row_1 cw_X11_94 (s_X11_isShelf er1) rfl rfl (by decide) (Nat.le_of_ble_eq_true rfl) (Nat.le_refl 0) (Nat.le_refl _) (Or.inl rfl) rfl ?_
  refine r_if_eq (tgt := 22) hZ dX11_row_4 (by decide) (fun c10 => ?_) (fun c10 => ?_)
  · have H := ok_t H c10
    refine r_iconst (v := (J (-1))) hZ dX11_row_22 (by decide) ?_
    have H := ok_some H
    subst H
    exact r_iret hZ hF dX11_row_23
  · have H := ok_f H c10
    refine r_iload_n hZ dX11_row_7 rfl ?_
    refine r_iconst (v := (J 0)) hZ dX11_row_8 (by decide) ?_
    refine r_iconst (v := (J 2)) hZ dX11_row_9 (by decide) ?_
    obtain ⟨r2, er2, H⟩ := ok_bind H
    refine r_callS (As := [.int a2, .int (J 0), .int (J 2)]) (rest := []) (st1 := [.int r2]) (N2 := 0) hZ dX11_row_10 cw_X11_170 (s_X11_isWithin er2) rfl rfl (by decide) (Nat.le_of_ble_eq_true rfl) (Nat.le_refl 0) (Nat.le_refl _) (Or.inl rfl) rfl ?_
    refine r_if_eq (tgt := 22) hZ dX11_row_13 (by decide) (fun c9 => ?_) (fun c9 => ?_)
    · have H := ok_t H c9
      refine r_iconst (v := (J (-1))) hZ dX11_row_22 (by decide) ?_
      have H := ok_some H
      subst H
      exact r_iret hZ hF dX11_row_23
    · have H := ok_f H c9
      refine r_iload_n hZ dX11_row_16 rfl ?_
      refine r_bipush (v := (J 120)) hZ dX11_row_17 (by decide) ?_
      refine r_icmp_le (tgt := 24) hZ dX11_row_19 (by decide) (fun c8 => ?_) (fun c8 => ?_)
      · have H := ok_t H c8
        refine r_iload_n hZ dX11_row_24 rfl ?_
        refine r_if_ge (tgt := 31) hZ dX11_row_25 (by decide) (fun c7 => ?_) (fun c7 => ?_)
        · have H := ok_t H c7
          refine r_aload_n hZ dX11_row_31 rfl ?_
          obtain ⟨x3, ex3, H⟩ := ok_bind H
          refine r_getR hZ fl_X11_44_10 dX11_row_32 ex3 ?_
          refine r_iload_n hZ dX11_row_35 rfl ?_
          obtain ⟨x4, ex4, H⟩ := ok_bind H
          refine r_aR hZ dX11_row_36 ex4 (fun _ => rfl) (Or.inl ⟨_, rfl⟩) ?_
          refine r_iload_n hZ dX11_row_37 rfl ?_
          refine r_iload_n hZ dX11_row_38 rfl ?_
          obtain ⟨u5, eu5, H⟩ := ok_bind H
          obtain ⟨r6, er6, H⟩ := ok_bind H
          refine r_callV (As := [.int a2, .int a3]) (rest := []) (st1 := []) (N2 := 0) hZ dX11_row_39 cw_X11_371_X8 rfl eu5 (s_X8_holdRow er6) rfl rfl (by decide) (Nat.le_of_ble_eq_true rfl) (Nat.le_refl 0) (Nat.le_refl _) (Or.inl rfl) rfl ?_
          refine r_iconst (v := (J 0)) hZ dX11_row_42 (by decide) ?_
          have H := ok_some H
          subst H
          exact r_iret hZ hF dX11_row_43
        · have H := ok_f H c7
          refine r_bipush (v := (J (-14))) hZ dX11_row_28 (by decide) ?_
          have H := ok_some H
          subst H
          exact r_iret hZ hF dX11_row_30
      · have H := ok_f H c8
        refine r_iconst (v := (J (-1))) hZ dX11_row_22 (by decide) ?_
        have H := ok_some H
        subst H
        exact r_iret hZ hF dX11_row_23
def f_X11_put  (h : Hp) (a0 : Nat) (a1 : Int32) (a2 : Int32) (a3 : Int32) : Option (Int32 × Hp) :=
  (f_X11_isShelf a1).bind fun r1 =>
  (if r1 = 0 then
    some ((J (-1)), h)
  else
    (gR h a0 10 8).bind fun x2 =>
    (aR h x2 4 a1).bind fun x3 =>
    (isO h x3 7).bind fun u4 =>
    (f_X8_rowRefusal h x3).bind fun r5 =>
    (if r5 = 0 then
      (isO h x3 7).bind fun u6 =>
      (f_X8_hasPlace h x3 a2).bind fun r7 =>
      (if r7 = 0 then
        some ((J (-13)), h)
      else
        (isO h x3 7).bind fun u8 =>
        (f_X8_setElement h x3 a2 a3).bind fun r9 =>
        some ((J 0), r9))
    else
      some (r5, h)))
set_option maxRecDepth 100000 in
set_option maxHeartbeats 4000000 in
theorem s_X11_put {n : Nat} {h : Hp} {a0 : Nat} {a1 : Int32} {a2 : Int32} {a3 : Int32}  {r : Int32 × Hp} (hf : f_X11_put  h a0 a1 a2 a3 = some r) : Ev 5 yX11_put cX11_put 6 (some .int) [.ref a0, .int a1, .int a2, .int a3] n h (some (.int r.1)) n r.2 := by
  refine Ev_of RX11 rfl (by decide) (Nat.le_of_ble_eq_true rfl) (Nat.le_refl _) (Or.inl rfl) (fun Z hZ hF hN hI => ?_)
  have H : Ok (f_X11_put  h a0 a1 a2 a3) (fun y => y = r) := ⟨_, hf, rfl⟩
  unfold f_X11_put at H
  refine r_ls (ls' := [(0, .ref a0), (1, .int a1), (2, .int a2), (3, .int a3)]) rfl ?_
  refine r_iload_n hZ dX11_put_0 rfl ?_
  obtain ⟨r1, er1, H⟩ := ok_bind H
  refine r_callS (As := [.int a1]) (rest := []) (st1 := [.int r1]) (N2 := 0) hZ dX11_put_1 cw_X11_94 (s_X11_isShelf er1) rfl rfl (by decide) (Nat.le_of_ble_eq_true rfl) (Nat.le_refl 0) (Nat.le_refl _) (Or.inl rfl) rfl ?_
  refine r_if_ne (tgt := 9) hZ dX11_put_4 (by decide) (fun c12 => ?_) (fun c12 => ?_)
  · have H := ok_f H c12
    refine r_aload_n hZ dX11_put_9 rfl ?_
    obtain ⟨x2, ex2, H⟩ := ok_bind H
    refine r_getR hZ fl_X11_44_10 dX11_put_10 ex2 ?_
    refine r_iload_n hZ dX11_put_13 rfl ?_
    obtain ⟨x3, ex3, H⟩ := ok_bind H
    refine r_aR hZ dX11_put_14 ex3 (fun _ => rfl) (Or.inl ⟨_, rfl⟩) ?_
    refine r_astore hZ dX11_put_15 (by decide) (r_pick [2, 3, 4] (ls' := [(2, .int a2), (3, .int a3), (4, .ref x3)]) rfl ?_)
    refine r_aload hZ dX11_put_17 rfl ?_
    obtain ⟨u4, eu4, H⟩ := ok_bind H
    obtain ⟨r5, er5, H⟩ := ok_bind H
    refine r_callV (As := []) (rest := []) (st1 := [.int r5]) (N2 := 0) hZ dX11_put_19 cw_X11_374_X8 rfl eu4 (s_X8_rowRefusal er5) rfl rfl (by decide) (Nat.le_of_ble_eq_true rfl) (Nat.le_refl 0) (Nat.le_refl _) (Or.inl rfl) rfl ?_
    refine r_istore hZ dX11_put_22 (by decide) (r_pick [2, 3, 4, 5] (ls' := [(2, .int a2), (3, .int a3), (4, .ref x3), (5, .int r5)]) rfl ?_)
    refine r_iload hZ dX11_put_24 rfl ?_
    refine r_if_eq (tgt := 32) hZ dX11_put_26 (by decide) (fun c11 => ?_) (fun c11 => ?_)
    · have H := ok_t H c11
      refine r_aload hZ dX11_put_32 rfl ?_
      refine r_iload_n hZ dX11_put_34 rfl ?_
      obtain ⟨u6, eu6, H⟩ := ok_bind H
      obtain ⟨r7, er7, H⟩ := ok_bind H
      refine r_callV (As := [.int a2]) (rest := []) (st1 := [.int r7]) (N2 := 0) hZ dX11_put_35 cw_X11_377_X8 rfl eu6 (s_X8_hasPlace er7) rfl rfl (by decide) (Nat.le_of_ble_eq_true rfl) (Nat.le_refl 0) (Nat.le_refl _) (Or.inl rfl) rfl ?_
      refine r_if_ne (tgt := 44) hZ dX11_put_38 (by decide) (fun c10 => ?_) (fun c10 => ?_)
      · have H := ok_f H c10
        refine r_aload hZ dX11_put_44 rfl ?_
        refine r_iload_n hZ dX11_put_46 rfl ?_
        refine r_iload_n hZ dX11_put_47 rfl ?_
        obtain ⟨u8, eu8, H⟩ := ok_bind H
        obtain ⟨r9, er9, H⟩ := ok_bind H
        refine r_callV (As := [.int a2, .int a3]) (rest := []) (st1 := []) (N2 := 0) hZ dX11_put_48 cw_X11_380_X8 rfl eu8 (s_X8_setElement er9) rfl rfl (by decide) (Nat.le_of_ble_eq_true rfl) (Nat.le_refl 0) (Nat.le_refl _) (Or.inl rfl) rfl ?_
        refine r_iconst (v := (J 0)) hZ dX11_put_51 (by decide) ?_
        have H := ok_some H
        subst H
        exact r_iret hZ hF dX11_put_52
      · have H := ok_t H c10
        refine r_bipush (v := (J (-13))) hZ dX11_put_41 (by decide) ?_
        have H := ok_some H
        subst H
        exact r_iret hZ hF dX11_put_43
    · have H := ok_f H c11
      refine r_iload hZ dX11_put_29 rfl ?_
      have H := ok_some H
      subst H
      exact r_iret hZ hF dX11_put_31
  · have H := ok_t H c12
    refine r_iconst (v := (J (-1))) hZ dX11_put_7 (by decide) ?_
    have H := ok_some H
    subst H
    exact r_iret hZ hF dX11_put_8
def f_X11_copy  (h : Hp) (a0 : Nat) (a1 : Int32) (a2 : Int32) (a3 : Int32) (a4 : Int32) (a5 : Int32) : Option (Int32 × Hp) :=
  (f_X11_isShelf a1).bind fun r1 =>
  (if r1 = 0 then
    some ((J (-1)), h)
  else
    (f_X11_isShelf a3).bind fun r2 =>
    (if r2 = 0 then
      some ((J (-1)), h)
    else
      (gR h a0 10 8).bind fun x3 =>
      (aR h x3 4 a1).bind fun x4 =>
      (gR h a0 10 8).bind fun x5 =>
      (aR h x5 4 a3).bind fun x6 =>
      (isO h x4 7).bind fun u7 =>
      (f_X8_holdsNothing h x4).bind fun r8 =>
      (if r8 = 0 then
        (isO h x6 7).bind fun u9 =>
        (f_X8_holdsNothing h x6).bind fun r10 =>
        (if r10 = 0 then
          (isO h x4 7).bind fun u11 =>
          (f_X8_holdsRow h x4).bind fun r12 =>
          (if r12 = 0 then
            some ((J (-12)), h)
          else
            (isO h x6 7).bind fun u13 =>
            (f_X8_holdsRow h x6).bind fun r14 =>
            (if r14 = 0 then
              some ((J (-12)), h)
            else
              (gI h x4 7 2).bind fun x15 =>
              (gI h x6 7 2).bind fun x16 =>
              (if x15 = x16 then
                (isO h x4 7).bind fun u17 =>
                (f_X8_hasPlaces h x4 a2 a5).bind fun r18 =>
                (if r18 = 0 then
                  some ((J (-13)), h)
                else
                  (isO h x6 7).bind fun u19 =>
                  (f_X8_hasPlaces h x6 a4 a5).bind fun r20 =>
                  (if r20 = 0 then
                    some ((J (-13)), h)
                  else
                    (gR h x4 7 4).bind fun x21 =>
                    (gR h x6 7 4).bind fun x22 =>
                    (cpI h x21 a2 x22 a4 a5).bind fun h23 =>
                    some (a5, h23)))
              else
                some ((J (-12)), h))))
        else
          some ((J (-11)), h))
      else
        some ((J (-11)), h))))
set_option maxRecDepth 100000 in
set_option maxHeartbeats 4000000 in
theorem s_X11_copy {n : Nat} {h : Hp} {a0 : Nat} {a1 : Int32} {a2 : Int32} {a3 : Int32} {a4 : Int32} {a5 : Int32}  {r : Int32 × Hp} (hf : f_X11_copy  h a0 a1 a2 a3 a4 a5 = some r) : Ev 4 yX11_copy cX11_copy 8 (some .int) [.ref a0, .int a1, .int a2, .int a3, .int a4, .int a5] n h (some (.int r.1)) n r.2 := by
  refine Ev_of RX11 rfl (by decide) (Nat.le_of_ble_eq_true rfl) (Nat.le_refl _) (Or.inl rfl) (fun Z hZ hF hN hI => ?_)
  have H : Ok (f_X11_copy  h a0 a1 a2 a3 a4 a5) (fun y => y = r) := ⟨_, hf, rfl⟩
  unfold f_X11_copy at H
  refine r_ls (ls' := [(0, .ref a0), (1, .int a1), (2, .int a2), (3, .int a3), (4, .int a4), (5, .int a5)]) rfl ?_
  refine r_iload_n hZ dX11_copy_0 rfl ?_
  obtain ⟨r1, er1, H⟩ := ok_bind H
  refine r_callS (As := [.int a1]) (rest := []) (st1 := [.int r1]) (N2 := 0) hZ dX11_copy_1 cw_X11_94 (s_X11_isShelf er1) rfl rfl (by decide) (Nat.le_of_ble_eq_true rfl) (Nat.le_refl 0) (Nat.le_refl _) (Or.inl rfl) rfl ?_
  refine r_if_eq (tgt := 14) hZ dX11_copy_4 (by decide) (fun c32 => ?_) (fun c32 => ?_)
  · have H := ok_t H c32
    refine r_iconst (v := (J (-1))) hZ dX11_copy_14 (by decide) ?_
    have H := ok_some H
    subst H
    exact r_iret hZ hF dX11_copy_15
  · have H := ok_f H c32
    refine r_iload_n hZ dX11_copy_7 rfl ?_
    obtain ⟨r2, er2, H⟩ := ok_bind H
    refine r_callS (As := [.int a3]) (rest := []) (st1 := [.int r2]) (N2 := 0) hZ dX11_copy_8 cw_X11_94 (s_X11_isShelf er2) rfl rfl (by decide) (Nat.le_of_ble_eq_true rfl) (Nat.le_refl 0) (Nat.le_refl _) (Or.inl rfl) rfl ?_
    refine r_if_ne (tgt := 16) hZ dX11_copy_11 (by decide) (fun c31 => ?_) (fun c31 => ?_)
    · have H := ok_f H c31
      refine r_aload_n hZ dX11_copy_16 rfl ?_
      obtain ⟨x3, ex3, H⟩ := ok_bind H
      refine r_getR hZ fl_X11_44_10 dX11_copy_17 ex3 ?_
      refine r_iload_n hZ dX11_copy_20 rfl ?_
      obtain ⟨x4, ex4, H⟩ := ok_bind H
      refine r_aR hZ dX11_copy_21 ex4 (fun _ => rfl) (Or.inl ⟨_, rfl⟩) ?_
      refine r_astore hZ dX11_copy_22 (by decide) (r_pick [0, 2, 3, 4, 5, 6] (ls' := [(0, .ref a0), (2, .int a2), (3, .int a3), (4, .int a4), (5, .int a5), (6, .ref x4)]) rfl ?_)
      refine r_aload_n hZ dX11_copy_24 rfl ?_
      obtain ⟨x5, ex5, H⟩ := ok_bind H
      refine r_getR hZ fl_X11_44_10 dX11_copy_25 ex5 ?_
      refine r_iload_n hZ dX11_copy_28 rfl ?_
      obtain ⟨x6, ex6, H⟩ := ok_bind H
      refine r_aR hZ dX11_copy_29 ex6 (fun _ => rfl) (Or.inl ⟨_, rfl⟩) ?_
      refine r_astore hZ dX11_copy_30 (by decide) (r_pick [2, 4, 5, 6, 7] (ls' := [(2, .int a2), (4, .int a4), (5, .int a5), (6, .ref x4), (7, .ref x6)]) rfl ?_)
      refine r_aload hZ dX11_copy_32 rfl ?_
      obtain ⟨u7, eu7, H⟩ := ok_bind H
      obtain ⟨r8, er8, H⟩ := ok_bind H
      refine r_callV (As := []) (rest := []) (st1 := [.int r8]) (N2 := 0) hZ dX11_copy_34 cw_X11_398_X8 rfl eu7 (s_X8_holdsNothing er8) rfl rfl (by decide) (Nat.le_of_ble_eq_true rfl) (Nat.le_refl 0) (Nat.le_refl _) (Or.inl rfl) rfl ?_
      refine r_if_ne (tgt := 48) hZ dX11_copy_37 (by decide) (fun c30 => ?_) (fun c30 => ?_)
      · have H := ok_f H c30
        refine r_bipush (v := (J (-11))) hZ dX11_copy_48 (by decide) ?_
        have H := ok_some H
        subst H
        exact r_iret hZ hF dX11_copy_50
      · have H := ok_t H c30
        refine r_aload hZ dX11_copy_40 rfl ?_
        obtain ⟨u9, eu9, H⟩ := ok_bind H
        obtain ⟨r10, er10, H⟩ := ok_bind H
        refine r_callV (As := []) (rest := []) (st1 := [.int r10]) (N2 := 0) hZ dX11_copy_42 cw_X11_398_X8 rfl eu9 (s_X8_holdsNothing er10) rfl rfl (by decide) (Nat.le_of_ble_eq_true rfl) (Nat.le_refl 0) (Nat.le_refl _) (Or.inl rfl) rfl ?_
        refine r_if_eq (tgt := 51) hZ dX11_copy_45 (by decide) (fun c29 => ?_) (fun c29 => ?_)
        · have H := ok_t H c29
          refine r_aload hZ dX11_copy_51 rfl ?_
          obtain ⟨u11, eu11, H⟩ := ok_bind H
          obtain ⟨r12, er12, H⟩ := ok_bind H
          refine r_callV (As := []) (rest := []) (st1 := [.int r12]) (N2 := 0) hZ dX11_copy_53 cw_X11_390_X8 rfl eu11 (s_X8_holdsRow er12) rfl rfl (by decide) (Nat.le_of_ble_eq_true rfl) (Nat.le_refl 0) (Nat.le_refl _) (Or.inl rfl) rfl ?_
          refine r_if_eq (tgt := 80) hZ dX11_copy_56 (by decide) (fun c28 => ?_) (fun c28 => ?_)
          · have H := ok_t H c28
            refine r_bipush (v := (J (-12))) hZ dX11_copy_80 (by decide) ?_
            have H := ok_some H
            subst H
            exact r_iret hZ hF dX11_copy_82
          · have H := ok_f H c28
            refine r_aload hZ dX11_copy_59 rfl ?_
            obtain ⟨u13, eu13, H⟩ := ok_bind H
            obtain ⟨r14, er14, H⟩ := ok_bind H
            refine r_callV (As := []) (rest := []) (st1 := [.int r14]) (N2 := 0) hZ dX11_copy_61 cw_X11_390_X8 rfl eu13 (s_X8_holdsRow er14) rfl rfl (by decide) (Nat.le_of_ble_eq_true rfl) (Nat.le_refl 0) (Nat.le_refl _) (Or.inl rfl) rfl ?_
            refine r_if_eq (tgt := 80) hZ dX11_copy_64 (by decide) (fun c27 => ?_) (fun c27 => ?_)
            · have H := ok_t H c27
              refine r_bipush (v := (J (-12))) hZ dX11_copy_80 (by decide) ?_
              have H := ok_some H
              subst H
              exact r_iret hZ hF dX11_copy_82
            · have H := ok_f H c27
              refine r_aload hZ dX11_copy_67 rfl ?_
              obtain ⟨x15, ex15, H⟩ := ok_bind H
              refine r_getI hZ fl_X11_401_7 dX11_copy_69 ex15 ?_
              refine r_aload hZ dX11_copy_72 rfl ?_
              obtain ⟨x16, ex16, H⟩ := ok_bind H
              refine r_getI hZ fl_X11_401_7 dX11_copy_74 ex16 ?_
              refine r_icmp_eq (tgt := 83) hZ dX11_copy_77 (by decide) (fun c26 => ?_) (fun c26 => ?_)
              · have H := ok_t H c26
                refine r_aload hZ dX11_copy_83 rfl ?_
                refine r_iload_n hZ dX11_copy_85 rfl ?_
                refine r_iload hZ dX11_copy_86 rfl ?_
                obtain ⟨u17, eu17, H⟩ := ok_bind H
                obtain ⟨r18, er18, H⟩ := ok_bind H
                refine r_callV (As := [.int a2, .int a5]) (rest := []) (st1 := [.int r18]) (N2 := 0) hZ dX11_copy_88 cw_X11_404_X8 rfl eu17 (s_X8_hasPlaces er18) rfl rfl (by decide) (Nat.le_of_ble_eq_true rfl) (Nat.le_refl 0) (Nat.le_refl _) (Or.inl rfl) rfl ?_
                refine r_if_eq (tgt := 106) hZ dX11_copy_91 (by decide) (fun c25 => ?_) (fun c25 => ?_)
                · have H := ok_t H c25
                  refine r_bipush (v := (J (-13))) hZ dX11_copy_106 (by decide) ?_
                  have H := ok_some H
                  subst H
                  exact r_iret hZ hF dX11_copy_108
                · have H := ok_f H c25
                  refine r_aload hZ dX11_copy_94 rfl ?_
                  refine r_iload hZ dX11_copy_96 rfl ?_
                  refine r_iload hZ dX11_copy_98 rfl ?_
                  obtain ⟨u19, eu19, H⟩ := ok_bind H
                  obtain ⟨r20, er20, H⟩ := ok_bind H
                  refine r_callV (As := [.int a4, .int a5]) (rest := []) (st1 := [.int r20]) (N2 := 0) hZ dX11_copy_100 cw_X11_404_X8 rfl eu19 (s_X8_hasPlaces er20) rfl rfl (by decide) (Nat.le_of_ble_eq_true rfl) (Nat.le_refl 0) (Nat.le_refl _) (Or.inl rfl) rfl ?_
                  refine r_if_ne (tgt := 109) hZ dX11_copy_103 (by decide) (fun c24 => ?_) (fun c24 => ?_)
                  · have H := ok_f H c24
                    refine r_aload hZ dX11_copy_109 rfl ?_
                    obtain ⟨x21, ex21, H⟩ := ok_bind H
                    refine r_getR hZ fl_X11_102_7 dX11_copy_111 ex21 ?_
                    refine r_iload_n hZ dX11_copy_114 rfl ?_
                    refine r_aload hZ dX11_copy_115 rfl ?_
                    obtain ⟨x22, ex22, H⟩ := ok_bind H
                    refine r_getR hZ fl_X11_102_7 dX11_copy_117 ex22 ?_
                    refine r_iload hZ dX11_copy_120 rfl ?_
                    refine r_iload hZ dX11_copy_122 rfl ?_
                    obtain ⟨h23, eh23, H⟩ := ok_bind H
                    refine r_cpI hZ dX11_copy_124 wC_X11_407 eh23 (by decide) (Nat.le_of_ble_eq_true rfl) ?_
                    refine r_iload hZ dX11_copy_127 rfl ?_
                    have H := ok_some H
                    subst H
                    exact r_iret hZ hF dX11_copy_129
                  · have H := ok_t H c24
                    refine r_bipush (v := (J (-13))) hZ dX11_copy_106 (by decide) ?_
                    have H := ok_some H
                    subst H
                    exact r_iret hZ hF dX11_copy_108
              · have H := ok_f H c26
                refine r_bipush (v := (J (-12))) hZ dX11_copy_80 (by decide) ?_
                have H := ok_some H
                subst H
                exact r_iret hZ hF dX11_copy_82
        · have H := ok_f H c29
          refine r_bipush (v := (J (-11))) hZ dX11_copy_48 (by decide) ?_
          have H := ok_some H
          subst H
          exact r_iret hZ hF dX11_copy_50
    · have H := ok_t H c31
      refine r_iconst (v := (J (-1))) hZ dX11_copy_14 (by decide) ?_
      have H := ok_some H
      subst H
      exact r_iret hZ hF dX11_copy_15
def f_X11_weight  (h : Hp) (a0 : Nat) (a1 : Int32) : Option (Int32) :=
  (f_X11_isShelf a1).bind fun r1 =>
  (if r1 = 0 then
    some (J (-1))
  else
    (gR h a0 10 8).bind fun x2 =>
    (aR h x2 4 a1).bind fun x3 =>
    (isO h x3 7).bind fun u4 =>
    (f_X8_gearRefusal h x3).bind fun r5 =>
    ((if r5 = 0 then
      (gR h a0 10 8).bind fun x7 =>
      (aR h x7 4 a1).bind fun x8 =>
      (gR h x8 7 1).bind fun x9 =>
      (isO h x9 0).bind fun u10 =>
      (f_X0_heaviness h x9).bind fun r11 =>
      some r11
    else
      some r5)).bind fun (j6 : Int32) =>
    some j6)
set_option maxRecDepth 100000 in
set_option maxHeartbeats 4000000 in
theorem s_X11_weight {n : Nat} {h : Hp} {a0 : Nat} {a1 : Int32}  {r : Int32} (hf : f_X11_weight  h a0 a1 = some r) : Ev 5 yX11_weight cX11_weight 3 (some .int) [.ref a0, .int a1] n h (some (.int r)) n h := by
  refine Ev_of RX11 rfl (by decide) (Nat.le_of_ble_eq_true rfl) (Nat.le_refl _) (Or.inl rfl) (fun Z hZ hF hN hI => ?_)
  have H : Ok (f_X11_weight  h a0 a1) (fun y => y = r) := ⟨_, hf, rfl⟩
  unfold f_X11_weight at H
  refine r_ls (ls' := [(0, .ref a0), (1, .int a1)]) rfl ?_
  refine r_iload_n hZ dX11_weight_0 rfl ?_
  obtain ⟨r1, er1, H⟩ := ok_bind H
  refine r_callS (As := [.int a1]) (rest := []) (st1 := [.int r1]) (N2 := 0) hZ dX11_weight_1 cw_X11_94 (s_X11_isShelf er1) rfl rfl (by decide) (Nat.le_of_ble_eq_true rfl) (Nat.le_refl 0) (Nat.le_refl _) (Or.inl rfl) rfl ?_
  refine r_if_ne (tgt := 9) hZ dX11_weight_4 (by decide) (fun c13 => ?_) (fun c13 => ?_)
  · have H := ok_f H c13
    refine r_aload_n hZ dX11_weight_9 rfl ?_
    obtain ⟨x2, ex2, H⟩ := ok_bind H
    refine r_getR hZ fl_X11_44_10 dX11_weight_10 ex2 ?_
    refine r_iload_n hZ dX11_weight_13 rfl ?_
    obtain ⟨x3, ex3, H⟩ := ok_bind H
    refine r_aR hZ dX11_weight_14 ex3 (fun _ => rfl) (Or.inl ⟨_, rfl⟩) ?_
    obtain ⟨u4, eu4, H⟩ := ok_bind H
    obtain ⟨r5, er5, H⟩ := ok_bind H
    refine r_callV (As := []) (rest := []) (st1 := [.int r5]) (N2 := 0) hZ dX11_weight_15 cw_X11_413_X8 rfl eu4 (s_X8_gearRefusal er5) rfl rfl (by decide) (Nat.le_of_ble_eq_true rfl) (Nat.le_refl 0) (Nat.le_refl _) (Or.inl rfl) rfl ?_
    refine r_istore_n hZ dX11_weight_18 (by decide) (r_pick [0, 1, 2] (ls' := [(0, .ref a0), (1, .int a1), (2, .int r5)]) rfl ?_)
    refine r_iload_n hZ dX11_weight_19 rfl ?_
    refine ok_join (Q := fun j6 : Int32 => R Z 39 [] [.int j6] n h 0) H (fun j6 H => ?_) (fun H => ?_)
    · have H := ok_some H
      subst H
      exact r_iret hZ hF dX11_weight_39
    · refine r_if_eq (tgt := 27) hZ dX11_weight_20 (by decide) (fun c12 => ?_) (fun c12 => ?_)
      · have H := ok_t H c12
        refine r_aload_n hZ dX11_weight_27 rfl ?_
        obtain ⟨x7, ex7, H⟩ := ok_bind H
        refine r_getR hZ fl_X11_44_10 dX11_weight_28 ex7 ?_
        refine r_iload_n hZ dX11_weight_31 rfl ?_
        obtain ⟨x8, ex8, H⟩ := ok_bind H
        refine r_aR hZ dX11_weight_32 ex8 (fun _ => rfl) (Or.inl ⟨_, rfl⟩) ?_
        obtain ⟨x9, ex9, H⟩ := ok_bind H
        refine r_getR hZ fl_X11_416_7 dX11_weight_33 ex9 ?_
        obtain ⟨u10, eu10, H⟩ := ok_bind H
        obtain ⟨r11, er11, H⟩ := ok_bind H
        refine r_callV (As := []) (rest := []) (st1 := [.int r11]) (N2 := 0) hZ dX11_weight_36 cw_X11_419_X0 rfl eu10 (s_X0_heaviness er11) rfl rfl (by decide) (Nat.le_of_ble_eq_true rfl) (Nat.le_refl 0) (Nat.le_refl _) (Or.inl rfl) rfl ?_
        have H := ok_some H
        exact r_pick [] (ls' := []) rfl H
      · have H := ok_f H c12
        refine r_iload_n hZ dX11_weight_23 rfl ?_
        refine r_goto (tgt := 39) hZ dX11_weight_24 (by decide) ?_
        have H := ok_some H
        exact r_pick [] (ls' := []) rfl H
  · have H := ok_t H c13
    refine r_iconst (v := (J (-1))) hZ dX11_weight_7 (by decide) ?_
    have H := ok_some H
    subst H
    exact r_iret hZ hF dX11_weight_8
