def f_X12_init  (N2 n : Nat) (h : Hp) (a0 : Nat) : Option (Hp) :=
  (cap (n + 1) N2).bind fun u1 =>
  (sI (va_up h n (some (0, .inr (16, .inl fun _ => 0)))) n (J 0) (J 1000)).bind fun h2 =>
  (sI h2 n (J 1) (J 924)).bind fun h3 =>
  (sI h3 n (J 2) (J 707)).bind fun h4 =>
  (sI h4 n (J 3) (J 383)).bind fun h5 =>
  (sI h5 n (J 4) (J 0)).bind fun h6 =>
  (sI h6 n (J 5) (J (-383))).bind fun h7 =>
  (sI h7 n (J 6) (J (-707))).bind fun h8 =>
  (sI h8 n (J 7) (J (-924))).bind fun h9 =>
  (sI h9 n (J 8) (J (-1000))).bind fun h10 =>
  (sI h10 n (J 9) (J (-924))).bind fun h11 =>
  (sI h11 n (J 10) (J (-707))).bind fun h12 =>
  (sI h12 n (J 11) (J (-383))).bind fun h13 =>
  (sI h13 n (J 12) (J 0)).bind fun h14 =>
  (sI h14 n (J 13) (J 383)).bind fun h15 =>
  (sI h15 n (J 14) (J 707)).bind fun h16 =>
  (sI h16 n (J 15) (J 924)).bind fun h17 =>
  (pF h17 a0 11 0 (.ref n)).bind fun h18 =>
  (cap ((n + 1) + 1) N2).bind fun u19 =>
  (pF (va_up h18 (n + 1) (some (0, .inr (1744, .inl fun _ => 0)))) a0 11 1 (.ref (n + 1))).bind fun h20 =>
  (cap (((n + 1) + 1) + 1) N2).bind fun u21 =>
  (pF (va_up h20 ((n + 1) + 1) (some (0, .inr (1744, .inl fun _ => 0)))) a0 11 2 (.ref ((n + 1) + 1))).bind fun h22 =>
  (cap ((((n + 1) + 1) + 1) + 1) N2).bind fun u23 =>
  (pF (va_up h22 (((n + 1) + 1) + 1) (some (0, .inr (1744, .inl fun _ => 0)))) a0 11 3 (.ref (((n + 1) + 1) + 1))).bind fun h24 =>
  (cap (((((n + 1) + 1) + 1) + 1) + 1) N2).bind fun u25 =>
  (pF (va_up h24 ((((n + 1) + 1) + 1) + 1) (some (0, .inr (8, .inl fun _ => 0)))) a0 11 4 (.ref ((((n + 1) + 1) + 1) + 1))).bind fun h26 =>
  (cap ((((((n + 1) + 1) + 1) + 1) + 1) + 1) N2).bind fun u27 =>
  (pF (va_up h26 (((((n + 1) + 1) + 1) + 1) + 1) (some (0, .inr (8, .inl fun _ => 0)))) a0 11 5 (.ref (((((n + 1) + 1) + 1) + 1) + 1))).bind fun h28 =>
  (cap (((((((n + 1) + 1) + 1) + 1) + 1) + 1) + 1) N2).bind fun u29 =>
  (pF (va_up h28 ((((((n + 1) + 1) + 1) + 1) + 1) + 1) (some (0, .inr (8, .inl fun _ => 0)))) a0 11 6 (.ref ((((((n + 1) + 1) + 1) + 1) + 1) + 1))).bind fun h30 =>
  (cap ((((((((n + 1) + 1) + 1) + 1) + 1) + 1) + 1) + 1) N2).bind fun u31 =>
  (pF (va_up h30 (((((((n + 1) + 1) + 1) + 1) + 1) + 1) + 1) (some (0, .inr (960, .inl fun _ => 0)))) a0 11 7 (.ref (((((((n + 1) + 1) + 1) + 1) + 1) + 1) + 1))).bind fun h32 =>
  (cap (((((((((n + 1) + 1) + 1) + 1) + 1) + 1) + 1) + 1) + 1) N2).bind fun u33 =>
  (pF (va_up h32 ((((((((n + 1) + 1) + 1) + 1) + 1) + 1) + 1) + 1) (some (0, .inr (8, .inl fun _ => 0)))) a0 11 8 (.ref ((((((((n + 1) + 1) + 1) + 1) + 1) + 1) + 1) + 1))).bind fun h34 =>
  (cap ((((((((((n + 1) + 1) + 1) + 1) + 1) + 1) + 1) + 1) + 1) + 1) N2).bind fun u35 =>
  (pF (va_up h34 (((((((((n + 1) + 1) + 1) + 1) + 1) + 1) + 1) + 1) + 1) (some (0, .inr (8, .inl fun _ => 0)))) a0 11 9 (.ref (((((((((n + 1) + 1) + 1) + 1) + 1) + 1) + 1) + 1) + 1))).bind fun h36 =>
  (gR h36 a0 11 7).bind fun x37 =>
  (pF h36 a0 11 16 (.ref x37)).bind fun h38 =>
  (cap (((((((((((n + 1) + 1) + 1) + 1) + 1) + 1) + 1) + 1) + 1) + 1) + 1) N2).bind fun u39 =>
  (pF (va_up h38 ((((((((((n + 1) + 1) + 1) + 1) + 1) + 1) + 1) + 1) + 1) + 1) (some (0, .inr (3, .inl fun _ => 0)))) a0 11 17 (.ref ((((((((((n + 1) + 1) + 1) + 1) + 1) + 1) + 1) + 1) + 1) + 1))).bind fun h40 =>
  (cap ((((((((((((n + 1) + 1) + 1) + 1) + 1) + 1) + 1) + 1) + 1) + 1) + 1) + 1) N2).bind fun u41 =>
  (pF (va_up h40 (((((((((((n + 1) + 1) + 1) + 1) + 1) + 1) + 1) + 1) + 1) + 1) + 1) (some (0, .inr (8, .inl fun _ => 0)))) a0 11 18 (.ref (((((((((((n + 1) + 1) + 1) + 1) + 1) + 1) + 1) + 1) + 1) + 1) + 1))).bind fun h42 =>
  (cap (((((((((((((n + 1) + 1) + 1) + 1) + 1) + 1) + 1) + 1) + 1) + 1) + 1) + 1) + 1) N2).bind fun u43 =>
  (pF (va_up h42 ((((((((((((n + 1) + 1) + 1) + 1) + 1) + 1) + 1) + 1) + 1) + 1) + 1) + 1) (some (1, .inr (8, .inr (.inl fun _ => 0))))) a0 11 19 (.ref ((((((((((((n + 1) + 1) + 1) + 1) + 1) + 1) + 1) + 1) + 1) + 1) + 1) + 1))).bind fun h44 =>
  (cap ((((((((((((((n + 1) + 1) + 1) + 1) + 1) + 1) + 1) + 1) + 1) + 1) + 1) + 1) + 1) + 1) N2).bind fun u45 =>
  (pF (va_up h44 (((((((((((((n + 1) + 1) + 1) + 1) + 1) + 1) + 1) + 1) + 1) + 1) + 1) + 1) + 1) (some (1, .inr (8, .inr (.inl fun _ => 0))))) a0 11 20 (.ref (((((((((((((n + 1) + 1) + 1) + 1) + 1) + 1) + 1) + 1) + 1) + 1) + 1) + 1) + 1))).bind fun h46 =>
  (cap (((((((((((((((n + 1) + 1) + 1) + 1) + 1) + 1) + 1) + 1) + 1) + 1) + 1) + 1) + 1) + 1) + 1) N2).bind fun u47 =>
  (pF (va_up h46 ((((((((((((((n + 1) + 1) + 1) + 1) + 1) + 1) + 1) + 1) + 1) + 1) + 1) + 1) + 1) + 1) (some (2, .inr (8, .inl fun _ => 0)))) a0 11 21 (.ref ((((((((((((((n + 1) + 1) + 1) + 1) + 1) + 1) + 1) + 1) + 1) + 1) + 1) + 1) + 1) + 1))).bind fun h48 =>
  (cap ((((((((((((((((n + 1) + 1) + 1) + 1) + 1) + 1) + 1) + 1) + 1) + 1) + 1) + 1) + 1) + 1) + 1) + 1) N2).bind fun u49 =>
  (pF (va_up h48 (((((((((((((((n + 1) + 1) + 1) + 1) + 1) + 1) + 1) + 1) + 1) + 1) + 1) + 1) + 1) + 1) + 1) (some (0, .inr (16, .inl fun _ => 0)))) a0 11 24 (.ref (((((((((((((((n + 1) + 1) + 1) + 1) + 1) + 1) + 1) + 1) + 1) + 1) + 1) + 1) + 1) + 1) + 1))).bind fun h50 =>
  (cap (((((((((((((((((n + 1) + 1) + 1) + 1) + 1) + 1) + 1) + 1) + 1) + 1) + 1) + 1) + 1) + 1) + 1) + 1) + 1) N2).bind fun u51 =>
  (pF (va_up h50 ((((((((((((((((n + 1) + 1) + 1) + 1) + 1) + 1) + 1) + 1) + 1) + 1) + 1) + 1) + 1) + 1) + 1) + 1) (some (1, .inr (1200, .inr (.inl fun _ => 0))))) a0 11 28 (.ref ((((((((((((((((n + 1) + 1) + 1) + 1) + 1) + 1) + 1) + 1) + 1) + 1) + 1) + 1) + 1) + 1) + 1) + 1))).bind fun h52 =>
  (cap ((((((((((((((((((n + 1) + 1) + 1) + 1) + 1) + 1) + 1) + 1) + 1) + 1) + 1) + 1) + 1) + 1) + 1) + 1) + 1) + 1) N2).bind fun u53 =>
  (pF (va_up h52 (((((((((((((((((n + 1) + 1) + 1) + 1) + 1) + 1) + 1) + 1) + 1) + 1) + 1) + 1) + 1) + 1) + 1) + 1) + 1) (some (0, .inr (1200, .inl fun _ => 0)))) a0 11 29 (.ref (((((((((((((((((n + 1) + 1) + 1) + 1) + 1) + 1) + 1) + 1) + 1) + 1) + 1) + 1) + 1) + 1) + 1) + 1) + 1))).bind fun h54 =>
  (eqn ((((((((((((((((((n + 1) + 1) + 1) + 1) + 1) + 1) + 1) + 1) + 1) + 1) + 1) + 1) + 1) + 1) + 1) + 1) + 1) + 1) N2).bind fun u55 =>
  some h54
set_option maxRecDepth 100000 in
set_option maxHeartbeats 4000000 in
theorem s_X12_init {n : Nat} {h : Hp} {a0 : Nat}  {r : Hp} {N2 : Nat} (hB : n ≤ N2 ∧ N2 ≤ BB) (hf : f_X12_init  N2 n h a0 = some r) : Ev 2 yX12_init cX12_init 1 none [.ref a0] n h none N2 r := by
  refine Ev_of RX12 rfl (by decide) (Nat.le_of_ble_eq_true rfl) hB.1 (Or.inr hB.2) (fun Z hZ hF hN hI => ?_)
  have hN := hN hB.2
  have hI := hI rfl
  have H : Ok (f_X12_init  N2 n h a0) (fun y => y = r) := ⟨_, hf, rfl⟩
  unfold f_X12_init at H
  refine r_ls (ls' := [(0, .ref a0)]) rfl ?_
  refine r_aload_n hZ dX12_init_0 rfl ?_
  refine r_objinit hZ wi_X12_1 wi_i wi_c dX12_init_1 (by decide) (Nat.le_of_ble_eq_true rfl) ?_
  refine r_aload_n hZ dX12_init_4 rfl ?_
  refine r_bipush (v := (J 16)) hZ dX12_init_5 (by decide) ?_
  obtain ⟨u1, eu1, H⟩ := ok_bind H
  refine r_newI (len := 16) hZ hN wa_int (by decide) (by decide) (by decide) dX12_init_7 (cap_le eu1) (Nat.le_refl 0) ?_
  refine r_dup_a hZ dX12_init_9 ?_
  refine r_iconst (v := (J 0)) hZ dX12_init_10 (by decide) ?_
  refine r_sipush (v := (J 1000)) hZ dX12_init_11 (by decide) ?_
  obtain ⟨h2, eh2, H⟩ := ok_bind H
  refine r_sI hZ dX12_init_14 eh2 ?_
  refine r_dup_a hZ dX12_init_15 ?_
  refine r_iconst (v := (J 1)) hZ dX12_init_16 (by decide) ?_
  refine r_sipush (v := (J 924)) hZ dX12_init_17 (by decide) ?_
  obtain ⟨h3, eh3, H⟩ := ok_bind H
  refine r_sI hZ dX12_init_20 eh3 ?_
  refine r_dup_a hZ dX12_init_21 ?_
  refine r_iconst (v := (J 2)) hZ dX12_init_22 (by decide) ?_
  refine r_sipush (v := (J 707)) hZ dX12_init_23 (by decide) ?_
  obtain ⟨h4, eh4, H⟩ := ok_bind H
  refine r_sI hZ dX12_init_26 eh4 ?_
  refine r_dup_a hZ dX12_init_27 ?_
  refine r_iconst (v := (J 3)) hZ dX12_init_28 (by decide) ?_
  refine r_sipush (v := (J 383)) hZ dX12_init_29 (by decide) ?_
  obtain ⟨h5, eh5, H⟩ := ok_bind H
  refine r_sI hZ dX12_init_32 eh5 ?_
  refine r_dup_a hZ dX12_init_33 ?_
  refine r_iconst (v := (J 4)) hZ dX12_init_34 (by decide) ?_
  refine r_iconst (v := (J 0)) hZ dX12_init_35 (by decide) ?_
  obtain ⟨h6, eh6, H⟩ := ok_bind H
  refine r_sI hZ dX12_init_36 eh6 ?_
  refine r_dup_a hZ dX12_init_37 ?_
  refine r_iconst (v := (J 5)) hZ dX12_init_38 (by decide) ?_
  refine r_sipush (v := (J (-383))) hZ dX12_init_39 (by decide) ?_
  obtain ⟨h7, eh7, H⟩ := ok_bind H
  refine r_sI hZ dX12_init_42 eh7 ?_
  refine r_dup_a hZ dX12_init_43 ?_
  refine r_bipush (v := (J 6)) hZ dX12_init_44 (by decide) ?_
  refine r_sipush (v := (J (-707))) hZ dX12_init_46 (by decide) ?_
  obtain ⟨h8, eh8, H⟩ := ok_bind H
  refine r_sI hZ dX12_init_49 eh8 ?_
  refine r_dup_a hZ dX12_init_50 ?_
  refine r_bipush (v := (J 7)) hZ dX12_init_51 (by decide) ?_
  refine r_sipush (v := (J (-924))) hZ dX12_init_53 (by decide) ?_
  obtain ⟨h9, eh9, H⟩ := ok_bind H
  refine r_sI hZ dX12_init_56 eh9 ?_
  refine r_dup_a hZ dX12_init_57 ?_
  refine r_bipush (v := (J 8)) hZ dX12_init_58 (by decide) ?_
  refine r_sipush (v := (J (-1000))) hZ dX12_init_60 (by decide) ?_
  obtain ⟨h10, eh10, H⟩ := ok_bind H
  refine r_sI hZ dX12_init_63 eh10 ?_
  refine r_dup_a hZ dX12_init_64 ?_
  refine r_bipush (v := (J 9)) hZ dX12_init_65 (by decide) ?_
  refine r_sipush (v := (J (-924))) hZ dX12_init_67 (by decide) ?_
  obtain ⟨h11, eh11, H⟩ := ok_bind H
  refine r_sI hZ dX12_init_70 eh11 ?_
  refine r_dup_a hZ dX12_init_71 ?_
  refine r_bipush (v := (J 10)) hZ dX12_init_72 (by decide) ?_
  refine r_sipush (v := (J (-707))) hZ dX12_init_74 (by decide) ?_
  obtain ⟨h12, eh12, H⟩ := ok_bind H
  refine r_sI hZ dX12_init_77 eh12 ?_
  refine r_dup_a hZ dX12_init_78 ?_
  refine r_bipush (v := (J 11)) hZ dX12_init_79 (by decide) ?_
  refine r_sipush (v := (J (-383))) hZ dX12_init_81 (by decide) ?_
  obtain ⟨h13, eh13, H⟩ := ok_bind H
  refine r_sI hZ dX12_init_84 eh13 ?_
  refine r_dup_a hZ dX12_init_85 ?_
  refine r_bipush (v := (J 12)) hZ dX12_init_86 (by decide) ?_
  refine r_iconst (v := (J 0)) hZ dX12_init_88 (by decide) ?_
  obtain ⟨h14, eh14, H⟩ := ok_bind H
  refine r_sI hZ dX12_init_89 eh14 ?_
  refine r_dup_a hZ dX12_init_90 ?_
  refine r_bipush (v := (J 13)) hZ dX12_init_91 (by decide) ?_
  refine r_sipush (v := (J 383)) hZ dX12_init_93 (by decide) ?_
  obtain ⟨h15, eh15, H⟩ := ok_bind H
  refine r_sI hZ dX12_init_96 eh15 ?_
  refine r_dup_a hZ dX12_init_97 ?_
  refine r_bipush (v := (J 14)) hZ dX12_init_98 (by decide) ?_
  refine r_sipush (v := (J 707)) hZ dX12_init_100 (by decide) ?_
  obtain ⟨h16, eh16, H⟩ := ok_bind H
  refine r_sI hZ dX12_init_103 eh16 ?_
  refine r_dup_a hZ dX12_init_104 ?_
  refine r_bipush (v := (J 15)) hZ dX12_init_105 (by decide) ?_
  refine r_sipush (v := (J 924)) hZ dX12_init_107 (by decide) ?_
  obtain ⟨h17, eh17, H⟩ := ok_bind H
  refine r_sI hZ dX12_init_110 eh17 ?_
  obtain ⟨h18, eh18, H⟩ := ok_bind H
  refine r_putF hZ hI fl_X12_7_11 dX12_init_111 eh18 rfl rfl rfl ?_
  refine r_aload_n hZ dX12_init_114 rfl ?_
  refine r_sipush (v := (J 1744)) hZ dX12_init_115 (by decide) ?_
  obtain ⟨u19, eu19, H⟩ := ok_bind H
  refine r_newI (len := 1744) hZ hN wa_int (by decide) (by decide) (by decide) dX12_init_118 (cap_le eu19) (Nat.le_refl 0) ?_
  obtain ⟨h20, eh20, H⟩ := ok_bind H
  refine r_putF hZ hI fl_X12_13_11 dX12_init_120 eh20 rfl rfl rfl ?_
  refine r_aload_n hZ dX12_init_123 rfl ?_
  refine r_sipush (v := (J 1744)) hZ dX12_init_124 (by decide) ?_
  obtain ⟨u21, eu21, H⟩ := ok_bind H
  refine r_newI (len := 1744) hZ hN wa_int (by decide) (by decide) (by decide) dX12_init_127 (cap_le eu21) (Nat.le_refl 0) ?_
  obtain ⟨h22, eh22, H⟩ := ok_bind H
  refine r_putF hZ hI fl_X12_16_11 dX12_init_129 eh22 rfl rfl rfl ?_
  refine r_aload_n hZ dX12_init_132 rfl ?_
  refine r_sipush (v := (J 1744)) hZ dX12_init_133 (by decide) ?_
  obtain ⟨u23, eu23, H⟩ := ok_bind H
  refine r_newI (len := 1744) hZ hN wa_int (by decide) (by decide) (by decide) dX12_init_136 (cap_le eu23) (Nat.le_refl 0) ?_
  obtain ⟨h24, eh24, H⟩ := ok_bind H
  refine r_putF hZ hI fl_X12_19_11 dX12_init_138 eh24 rfl rfl rfl ?_
  refine r_aload_n hZ dX12_init_141 rfl ?_
  refine r_bipush (v := (J 8)) hZ dX12_init_142 (by decide) ?_
  obtain ⟨u25, eu25, H⟩ := ok_bind H
  refine r_newI (len := 8) hZ hN wa_int (by decide) (by decide) (by decide) dX12_init_144 (cap_le eu25) (Nat.le_refl 0) ?_
  obtain ⟨h26, eh26, H⟩ := ok_bind H
  refine r_putF hZ hI fl_X12_22_11 dX12_init_146 eh26 rfl rfl rfl ?_
  refine r_aload_n hZ dX12_init_149 rfl ?_
  refine r_bipush (v := (J 8)) hZ dX12_init_150 (by decide) ?_
  obtain ⟨u27, eu27, H⟩ := ok_bind H
  refine r_newI (len := 8) hZ hN wa_int (by decide) (by decide) (by decide) dX12_init_152 (cap_le eu27) (Nat.le_refl 0) ?_
  obtain ⟨h28, eh28, H⟩ := ok_bind H
  refine r_putF hZ hI fl_X12_25_11 dX12_init_154 eh28 rfl rfl rfl ?_
  refine r_aload_n hZ dX12_init_157 rfl ?_
  refine r_bipush (v := (J 8)) hZ dX12_init_158 (by decide) ?_
  obtain ⟨u29, eu29, H⟩ := ok_bind H
  refine r_newI (len := 8) hZ hN wa_int (by decide) (by decide) (by decide) dX12_init_160 (cap_le eu29) (Nat.le_refl 0) ?_
  obtain ⟨h30, eh30, H⟩ := ok_bind H
  refine r_putF hZ hI fl_X12_28_11 dX12_init_162 eh30 rfl rfl rfl ?_
  refine r_aload_n hZ dX12_init_165 rfl ?_
  refine r_sipush (v := (J 960)) hZ dX12_init_166 (by decide) ?_
  obtain ⟨u31, eu31, H⟩ := ok_bind H
  refine r_newI (len := 960) hZ hN wa_int (by decide) (by decide) (by decide) dX12_init_169 (cap_le eu31) (Nat.le_refl 0) ?_
  obtain ⟨h32, eh32, H⟩ := ok_bind H
  refine r_putF hZ hI fl_X12_31_11 dX12_init_171 eh32 rfl rfl rfl ?_
  refine r_aload_n hZ dX12_init_174 rfl ?_
  refine r_bipush (v := (J 8)) hZ dX12_init_175 (by decide) ?_
  obtain ⟨u33, eu33, H⟩ := ok_bind H
  refine r_newI (len := 8) hZ hN wa_int (by decide) (by decide) (by decide) dX12_init_177 (cap_le eu33) (Nat.le_refl 0) ?_
  obtain ⟨h34, eh34, H⟩ := ok_bind H
  refine r_putF hZ hI fl_X12_34_11 dX12_init_179 eh34 rfl rfl rfl ?_
  refine r_aload_n hZ dX12_init_182 rfl ?_
  refine r_bipush (v := (J 8)) hZ dX12_init_183 (by decide) ?_
  obtain ⟨u35, eu35, H⟩ := ok_bind H
  refine r_newI (len := 8) hZ hN wa_int (by decide) (by decide) (by decide) dX12_init_185 (cap_le eu35) (Nat.le_refl 0) ?_
  obtain ⟨h36, eh36, H⟩ := ok_bind H
  refine r_putF hZ hI fl_X12_37_11 dX12_init_187 eh36 rfl rfl rfl ?_
  refine r_aload_n hZ dX12_init_190 rfl ?_
  refine r_aload_n hZ dX12_init_191 rfl ?_
  obtain ⟨x37, ex37, H⟩ := ok_bind H
  refine r_getR hZ fl_X12_31_11 dX12_init_192 ex37 ?_
  obtain ⟨h38, eh38, H⟩ := ok_bind H
  refine r_putf hZ fl_X12_40_11 dX12_init_195 eh38 rfl rfl ?_
  refine r_aload_n hZ dX12_init_198 rfl ?_
  refine r_iconst (v := (J 3)) hZ dX12_init_199 (by decide) ?_
  obtain ⟨u39, eu39, H⟩ := ok_bind H
  refine r_newI (len := 3) hZ hN wa_int (by decide) (by decide) (by decide) dX12_init_200 (cap_le eu39) (Nat.le_refl 0) ?_
  obtain ⟨h40, eh40, H⟩ := ok_bind H
  refine r_putF hZ hI fl_X12_43_11 dX12_init_202 eh40 rfl rfl rfl ?_
  refine r_aload_n hZ dX12_init_205 rfl ?_
  refine r_bipush (v := (J 8)) hZ dX12_init_206 (by decide) ?_
  obtain ⟨u41, eu41, H⟩ := ok_bind H
  refine r_newI (len := 8) hZ hN wa_int (by decide) (by decide) (by decide) dX12_init_208 (cap_le eu41) (Nat.le_refl 0) ?_
  obtain ⟨h42, eh42, H⟩ := ok_bind H
  refine r_putF hZ hI fl_X12_46_11 dX12_init_210 eh42 rfl rfl rfl ?_
  refine r_aload_n hZ dX12_init_213 rfl ?_
  refine r_bipush (v := (J 8)) hZ dX12_init_214 (by decide) ?_
  obtain ⟨u43, eu43, H⟩ := ok_bind H
  refine r_newL (len := 8) hZ hN wa_long (by decide) (by decide) (by decide) dX12_init_216 (cap_le eu43) (Nat.le_refl 0) ?_
  obtain ⟨h44, eh44, H⟩ := ok_bind H
  refine r_putF hZ hI fl_X12_49_11 dX12_init_218 eh44 rfl rfl rfl ?_
  refine r_aload_n hZ dX12_init_221 rfl ?_
  refine r_bipush (v := (J 8)) hZ dX12_init_222 (by decide) ?_
  obtain ⟨u45, eu45, H⟩ := ok_bind H
  refine r_newL (len := 8) hZ hN wa_long (by decide) (by decide) (by decide) dX12_init_224 (cap_le eu45) (Nat.le_refl 0) ?_
  obtain ⟨h46, eh46, H⟩ := ok_bind H
  refine r_putF hZ hI fl_X12_53_11 dX12_init_226 eh46 rfl rfl rfl ?_
  refine r_aload_n hZ dX12_init_229 rfl ?_
  refine r_bipush (v := (J 8)) hZ dX12_init_230 (by decide) ?_
  obtain ⟨u47, eu47, H⟩ := ok_bind H
  refine r_newZ (len := 8) hZ hN wa_boolean (by decide) (by decide) (by decide) dX12_init_232 (cap_le eu47) (Nat.le_refl 0) ?_
  obtain ⟨h48, eh48, H⟩ := ok_bind H
  refine r_putF hZ hI fl_X12_56_11 dX12_init_234 eh48 rfl rfl rfl ?_
  refine r_aload_n hZ dX12_init_237 rfl ?_
  refine r_bipush (v := (J 16)) hZ dX12_init_238 (by decide) ?_
  obtain ⟨u49, eu49, H⟩ := ok_bind H
  refine r_newI (len := 16) hZ hN wa_int (by decide) (by decide) (by decide) dX12_init_240 (cap_le eu49) (Nat.le_refl 0) ?_
  obtain ⟨h50, eh50, H⟩ := ok_bind H
  refine r_putF hZ hI fl_X12_60_11 dX12_init_242 eh50 rfl rfl rfl ?_
  refine r_aload_n hZ dX12_init_245 rfl ?_
  refine r_sipush (v := (J 1200)) hZ dX12_init_246 (by decide) ?_
  obtain ⟨u51, eu51, H⟩ := ok_bind H
  refine r_newL (len := 1200) hZ hN wa_long (by decide) (by decide) (by decide) dX12_init_249 (cap_le eu51) (Nat.le_refl 0) ?_
  obtain ⟨h52, eh52, H⟩ := ok_bind H
  refine r_putF hZ hI fl_X12_63_11 dX12_init_251 eh52 rfl rfl rfl ?_
  refine r_aload_n hZ dX12_init_254 rfl ?_
  refine r_sipush (v := (J 1200)) hZ dX12_init_255 (by decide) ?_
  obtain ⟨u53, eu53, H⟩ := ok_bind H
  refine r_newI (len := 1200) hZ hN wa_int (by decide) (by decide) (by decide) dX12_init_258 (cap_le eu53) (Nat.le_refl 0) ?_
  obtain ⟨h54, eh54, H⟩ := ok_bind H
  refine r_putF hZ hI fl_X12_66_11 dX12_init_260 eh54 rfl rfl rfl ?_
  obtain ⟨u55, eu55, H⟩ := ok_bind H
  have H := ok_some H
  subst H
  have eu55 := eqn_eq eu55
  rw [eu55]
  exact r_ret hZ hF dX12_init_263
def f_X12_thrown  (h : Hp) (a0 : Nat) : Option (Int32) :=
  (gI h a0 11 11).bind fun x1 =>
  some x1
set_option maxRecDepth 100000 in
set_option maxHeartbeats 4000000 in
theorem s_X12_thrown {n : Nat} {h : Hp} {a0 : Nat}  {r : Int32} (hf : f_X12_thrown  h a0 = some r) : Ev 2 yX12_thrown cX12_thrown 1 (some .int) [.ref a0] n h (some (.int r)) n h := by
  refine Ev_of RX12 rfl (by decide) (Nat.le_of_ble_eq_true rfl) (Nat.le_refl _) (Or.inl rfl) (fun Z hZ hF hN hI => ?_)
  have H : Ok (f_X12_thrown  h a0) (fun y => y = r) := ⟨_, hf, rfl⟩
  unfold f_X12_thrown at H
  refine r_ls (ls' := [(0, .ref a0)]) rfl ?_
  refine r_aload_n hZ dX12_thrown_0 rfl ?_
  obtain ⟨x1, ex1, H⟩ := ok_bind H
  refine r_getI hZ fl_X12_69_11 dX12_thrown_1 ex1 ?_
  have H := ok_some H
  subst H
  exact r_iret hZ hF dX12_thrown_4
def f_X12_isIn  (a0 : Int64) (a2 : Int64) (a4 : Int64) : Option (Int32) :=
  ((if (lg_cmp a0 a2) < 0 then
    some (J 0)
  else
    (if 0 < (lg_cmp a0 a4) then
      some (J 0)
    else
      some (J 1)))).bind fun (j1 : Int32) =>
  (bz j1).bind fun u4 =>
  some j1
set_option maxRecDepth 100000 in
set_option maxHeartbeats 4000000 in
theorem s_X12_isIn {n : Nat} {h : Hp} {a0 : Int64} {a2 : Int64} {a4 : Int64}  {r : Int32} (hf : f_X12_isIn  a0 a2 a4 = some r) : Ev 2 yX12_isIn cX12_isIn 6 (some .boolean) [.long a0, .long a2, .long a4] n h (some (.int r)) n h := by
  refine Ev_of RX12 rfl (by decide) (Nat.le_of_ble_eq_true rfl) (Nat.le_refl _) (Or.inl rfl) (fun Z hZ hF hN hI => ?_)
  have H : Ok (f_X12_isIn  a0 a2 a4) (fun y => y = r) := ⟨_, hf, rfl⟩
  unfold f_X12_isIn at H
  refine r_ls (ls' := [(0, .long a0), (2, .long a2), (4, .long a4)]) rfl ?_
  refine r_lload_n hZ dX12_isIn_0 rfl ?_
  refine r_lload_n hZ dX12_isIn_1 rfl ?_
  refine r_lcmp hZ dX12_isIn_2 ?_
  refine ok_join (Q := fun j1 : Int32 => R Z 18 [] [.int j1] n h 0) H (fun j1 H => ?_) (fun H => ?_)
  · obtain ⟨u4, eu4, H⟩ := ok_bind H
    have H := ok_some H
    subst H
    exact r_zret hZ hF eu4 dX12_isIn_18
  · refine r_if_lt (tgt := 17) hZ dX12_isIn_3 (by decide) (fun c3 => ?_) (fun c3 => ?_)
    · have H := ok_t H c3
      refine r_iconst (v := (J 0)) hZ dX12_isIn_17 (by decide) ?_
      have H := ok_some H
      exact r_pick [] (ls' := []) rfl H
    · have H := ok_f H c3
      refine r_lload_n hZ dX12_isIn_6 rfl ?_
      refine r_lload hZ dX12_isIn_7 rfl ?_
      refine r_lcmp hZ dX12_isIn_9 ?_
      refine r_if_gt (tgt := 17) hZ dX12_isIn_10 (by decide) (fun c2 => ?_) (fun c2 => ?_)
      · have H := ok_t H c2
        refine r_iconst (v := (J 0)) hZ dX12_isIn_17 (by decide) ?_
        have H := ok_some H
        exact r_pick [] (ls' := []) rfl H
      · have H := ok_f H c2
        refine r_iconst (v := (J 1)) hZ dX12_isIn_13 (by decide) ?_
        refine r_goto (tgt := 18) hZ dX12_isIn_14 (by decide) ?_
        have H := ok_some H
        exact r_pick [] (ls' := []) rfl H
def f_X12_isGear  (h : Hp) (a0 : Nat) (a1 : Int32) : Option (Int32) :=
  (gR h a0 11 1).bind fun x1 =>
  (aI h x1 (J 1740)).bind fun x2 =>
  (f_X12_isIn (a1.toInt64) (K 0) ((x2 - (J 1)).toInt64)).bind fun r3 =>
  (bz r3).bind fun u4 =>
  some r3
set_option maxRecDepth 100000 in
set_option maxHeartbeats 4000000 in
theorem s_X12_isGear {n : Nat} {h : Hp} {a0 : Nat} {a1 : Int32}  {r : Int32} (hf : f_X12_isGear  h a0 a1 = some r) : Ev 3 yX12_isGear cX12_isGear 2 (some .boolean) [.ref a0, .int a1] n h (some (.int r)) n h := by
  refine Ev_of RX12 rfl (by decide) (Nat.le_of_ble_eq_true rfl) (Nat.le_refl _) (Or.inl rfl) (fun Z hZ hF hN hI => ?_)
  have H : Ok (f_X12_isGear  h a0 a1) (fun y => y = r) := ⟨_, hf, rfl⟩
  unfold f_X12_isGear at H
  refine r_ls (ls' := [(0, .ref a0), (1, .int a1)]) rfl ?_
  refine r_iload_n hZ dX12_isGear_0 rfl ?_
  refine r_i2l hZ dX12_isGear_1 ?_
  refine r_lconst (v := (K 0)) hZ dX12_isGear_2 (by decide) ?_
  refine r_aload_n hZ dX12_isGear_3 rfl ?_
  obtain ⟨x1, ex1, H⟩ := ok_bind H
  refine r_getR hZ fl_X12_13_11 dX12_isGear_4 ex1 ?_
  refine r_sipush (v := (J 1740)) hZ dX12_isGear_7 (by decide) ?_
  obtain ⟨x2, ex2, H⟩ := ok_bind H
  refine r_aI hZ dX12_isGear_10 ex2 ?_
  refine r_iconst (v := (J 1)) hZ dX12_isGear_11 (by decide) ?_
  refine r_isub hZ dX12_isGear_12 ?_
  refine r_i2l hZ dX12_isGear_13 ?_
  obtain ⟨r3, er3, H⟩ := ok_bind H
  refine r_callS (As := [.long (a1.toInt64), .long (K 0), .long ((x2 - (J 1)).toInt64)]) (rest := []) (st1 := [.int r3]) (N2 := 0) hZ dX12_isGear_14 cw_X12_73 (s_X12_isIn er3) rfl rfl (by decide) (Nat.le_of_ble_eq_true rfl) (Nat.le_refl 0) (Nat.le_refl _) (Or.inl rfl) rfl ?_
  obtain ⟨u4, eu4, H⟩ := ok_bind H
  have H := ok_some H
  subst H
  exact r_zret hZ hF eu4 dX12_isGear_17
def f_X12_isMesh  (h : Hp) (a0 : Nat) (a1 : Int32) : Option (Int32) :=
  (gR h a0 11 1).bind fun x1 =>
  (aI h x1 (J 1741)).bind fun x2 =>
  (f_X12_isIn (a1.toInt64) (K 0) ((x2 - (J 1)).toInt64)).bind fun r3 =>
  (bz r3).bind fun u4 =>
  some r3
set_option maxRecDepth 100000 in
set_option maxHeartbeats 4000000 in
theorem s_X12_isMesh {n : Nat} {h : Hp} {a0 : Nat} {a1 : Int32}  {r : Int32} (hf : f_X12_isMesh  h a0 a1 = some r) : Ev 3 yX12_isMesh cX12_isMesh 2 (some .boolean) [.ref a0, .int a1] n h (some (.int r)) n h := by
  refine Ev_of RX12 rfl (by decide) (Nat.le_of_ble_eq_true rfl) (Nat.le_refl _) (Or.inl rfl) (fun Z hZ hF hN hI => ?_)
  have H : Ok (f_X12_isMesh  h a0 a1) (fun y => y = r) := ⟨_, hf, rfl⟩
  unfold f_X12_isMesh at H
  refine r_ls (ls' := [(0, .ref a0), (1, .int a1)]) rfl ?_
  refine r_iload_n hZ dX12_isMesh_0 rfl ?_
  refine r_i2l hZ dX12_isMesh_1 ?_
  refine r_lconst (v := (K 0)) hZ dX12_isMesh_2 (by decide) ?_
  refine r_aload_n hZ dX12_isMesh_3 rfl ?_
  obtain ⟨x1, ex1, H⟩ := ok_bind H
  refine r_getR hZ fl_X12_13_11 dX12_isMesh_4 ex1 ?_
  refine r_sipush (v := (J 1741)) hZ dX12_isMesh_7 (by decide) ?_
  obtain ⟨x2, ex2, H⟩ := ok_bind H
  refine r_aI hZ dX12_isMesh_10 ex2 ?_
  refine r_iconst (v := (J 1)) hZ dX12_isMesh_11 (by decide) ?_
  refine r_isub hZ dX12_isMesh_12 ?_
  refine r_i2l hZ dX12_isMesh_13 ?_
  obtain ⟨r3, er3, H⟩ := ok_bind H
  refine r_callS (As := [.long (a1.toInt64), .long (K 0), .long ((x2 - (J 1)).toInt64)]) (rest := []) (st1 := [.int r3]) (N2 := 0) hZ dX12_isMesh_14 cw_X12_73 (s_X12_isIn er3) rfl rfl (by decide) (Nat.le_of_ble_eq_true rfl) (Nat.le_refl 0) (Nat.le_refl _) (Or.inl rfl) rfl ?_
  obtain ⟨u4, eu4, H⟩ := ok_bind H
  have H := ok_some H
  subst H
  exact r_zret hZ hF eu4 dX12_isMesh_17
def f_X12_isShelf  (a0 : Int32) : Option (Int32) :=
  (f_X12_isIn (a0.toInt64) (K 0) (K 7)).bind fun r1 =>
  (bz r1).bind fun u2 =>
  some r1
set_option maxRecDepth 100000 in
set_option maxHeartbeats 4000000 in
theorem s_X12_isShelf {n : Nat} {h : Hp} {a0 : Int32}  {r : Int32} (hf : f_X12_isShelf  a0 = some r) : Ev 3 yX12_isShelf cX12_isShelf 1 (some .boolean) [.int a0] n h (some (.int r)) n h := by
  refine Ev_of RX12 rfl (by decide) (Nat.le_of_ble_eq_true rfl) (Nat.le_refl _) (Or.inl rfl) (fun Z hZ hF hN hI => ?_)
  have H : Ok (f_X12_isShelf  a0) (fun y => y = r) := ⟨_, hf, rfl⟩
  unfold f_X12_isShelf at H
  refine r_ls (ls' := [(0, .int a0)]) rfl ?_
  refine r_iload_n hZ dX12_isShelf_0 rfl ?_
  refine r_i2l hZ dX12_isShelf_1 ?_
  refine r_lconst (v := (K 0)) hZ dX12_isShelf_2 (by decide) ?_
  refine r_ldc2 (v := (K 7)) hZ wc_X12_77 dX12_isShelf_3 ?_
  obtain ⟨r1, er1, H⟩ := ok_bind H
  refine r_callS (As := [.long (a0.toInt64), .long (K 0), .long (K 7)]) (rest := []) (st1 := [.int r1]) (N2 := 0) hZ dX12_isShelf_6 cw_X12_73 (s_X12_isIn er1) rfl rfl (by decide) (Nat.le_of_ble_eq_true rfl) (Nat.le_refl 0) (Nat.le_refl _) (Or.inl rfl) rfl ?_
  obtain ⟨u2, eu2, H⟩ := ok_bind H
  have H := ok_some H
  subst H
  exact r_zret hZ hF eu2 dX12_isShelf_9
def f_X12_kind  (h : Hp) (a0 : Nat) (a1 : Int32) : Option (Int32) :=
  (gR h a0 11 1).bind fun x1 =>
  (aI h x1 ((J 19) * a1)).bind fun x2 =>
  some x2
set_option maxRecDepth 100000 in
set_option maxHeartbeats 4000000 in
theorem s_X12_kind {n : Nat} {h : Hp} {a0 : Nat} {a1 : Int32}  {r : Int32} (hf : f_X12_kind  h a0 a1 = some r) : Ev 2 yX12_kind cX12_kind 2 (some .int) [.ref a0, .int a1] n h (some (.int r)) n h := by
  refine Ev_of RX12 rfl (by decide) (Nat.le_of_ble_eq_true rfl) (Nat.le_refl _) (Or.inl rfl) (fun Z hZ hF hN hI => ?_)
  have H : Ok (f_X12_kind  h a0 a1) (fun y => y = r) := ⟨_, hf, rfl⟩
  unfold f_X12_kind at H
  refine r_ls (ls' := [(0, .ref a0), (1, .int a1)]) rfl ?_
  refine r_aload_n hZ dX12_kind_0 rfl ?_
  obtain ⟨x1, ex1, H⟩ := ok_bind H
  refine r_getR hZ fl_X12_13_11 dX12_kind_1 ex1 ?_
  refine r_bipush (v := (J 19)) hZ dX12_kind_4 (by decide) ?_
  refine r_iload_n hZ dX12_kind_6 rfl ?_
  refine r_imul hZ dX12_kind_7 ?_
  obtain ⟨x2, ex2, H⟩ := ok_bind H
  refine r_aI hZ dX12_kind_8 ex2 ?_
  have H := ok_some H
  subst H
  exact r_iret hZ hF dX12_kind_9
def f_X12_teeth  (h : Hp) (a0 : Nat) (a1 : Int32) : Option (Int32) :=
  (gR h a0 11 1).bind fun x1 =>
  (aI h x1 (((J 19) * a1) + (J 1))).bind fun x2 =>
  some x2
set_option maxRecDepth 100000 in
set_option maxHeartbeats 4000000 in
theorem s_X12_teeth {n : Nat} {h : Hp} {a0 : Nat} {a1 : Int32}  {r : Int32} (hf : f_X12_teeth  h a0 a1 = some r) : Ev 2 yX12_teeth cX12_teeth 2 (some .int) [.ref a0, .int a1] n h (some (.int r)) n h := by
  refine Ev_of RX12 rfl (by decide) (Nat.le_of_ble_eq_true rfl) (Nat.le_refl _) (Or.inl rfl) (fun Z hZ hF hN hI => ?_)
  have H : Ok (f_X12_teeth  h a0 a1) (fun y => y = r) := ⟨_, hf, rfl⟩
  unfold f_X12_teeth at H
  refine r_ls (ls' := [(0, .ref a0), (1, .int a1)]) rfl ?_
  refine r_aload_n hZ dX12_teeth_0 rfl ?_
  obtain ⟨x1, ex1, H⟩ := ok_bind H
  refine r_getR hZ fl_X12_13_11 dX12_teeth_1 ex1 ?_
  refine r_bipush (v := (J 19)) hZ dX12_teeth_4 (by decide) ?_
  refine r_iload_n hZ dX12_teeth_6 rfl ?_
  refine r_imul hZ dX12_teeth_7 ?_
  refine r_iconst (v := (J 1)) hZ dX12_teeth_8 (by decide) ?_
  refine r_iadd hZ dX12_teeth_9 ?_
  obtain ⟨x2, ex2, H⟩ := ok_bind H
  refine r_aI hZ dX12_teeth_10 ex2 ?_
  have H := ok_some H
  subst H
  exact r_iret hZ hF dX12_teeth_11
def f_X12_shaft  (h : Hp) (a0 : Nat) (a1 : Int32) : Option (Int32) :=
  (gR h a0 11 1).bind fun x1 =>
  (aI h x1 (((J 19) * a1) + (J 2))).bind fun x2 =>
  some x2
set_option maxRecDepth 100000 in
set_option maxHeartbeats 4000000 in
theorem s_X12_shaft {n : Nat} {h : Hp} {a0 : Nat} {a1 : Int32}  {r : Int32} (hf : f_X12_shaft  h a0 a1 = some r) : Ev 2 yX12_shaft cX12_shaft 2 (some .int) [.ref a0, .int a1] n h (some (.int r)) n h := by
  refine Ev_of RX12 rfl (by decide) (Nat.le_of_ble_eq_true rfl) (Nat.le_refl _) (Or.inl rfl) (fun Z hZ hF hN hI => ?_)
  have H : Ok (f_X12_shaft  h a0 a1) (fun y => y = r) := ⟨_, hf, rfl⟩
  unfold f_X12_shaft at H
  refine r_ls (ls' := [(0, .ref a0), (1, .int a1)]) rfl ?_
  refine r_aload_n hZ dX12_shaft_0 rfl ?_
  obtain ⟨x1, ex1, H⟩ := ok_bind H
  refine r_getR hZ fl_X12_13_11 dX12_shaft_1 ex1 ?_
  refine r_bipush (v := (J 19)) hZ dX12_shaft_4 (by decide) ?_
  refine r_iload_n hZ dX12_shaft_6 rfl ?_
  refine r_imul hZ dX12_shaft_7 ?_
  refine r_iconst (v := (J 2)) hZ dX12_shaft_8 (by decide) ?_
  refine r_iadd hZ dX12_shaft_9 ?_
  obtain ⟨x2, ex2, H⟩ := ok_bind H
  refine r_aI hZ dX12_shaft_10 ex2 ?_
  have H := ok_some H
  subst H
  exact r_iret hZ hF dX12_shaft_11
def f_X12_widthOf  (h : Hp) (a0 : Nat) (a1 : Int32) (a2 : Int32) : Option (Int32) :=
  (gR h a0 11 1).bind fun x1 =>
  (aI h x1 ((((J 19) * a1) + (J 3)) + a2)).bind fun x2 =>
  some x2
set_option maxRecDepth 100000 in
set_option maxHeartbeats 4000000 in
theorem s_X12_widthOf {n : Nat} {h : Hp} {a0 : Nat} {a1 : Int32} {a2 : Int32}  {r : Int32} (hf : f_X12_widthOf  h a0 a1 a2 = some r) : Ev 2 yX12_widthOf cX12_widthOf 3 (some .int) [.ref a0, .int a1, .int a2] n h (some (.int r)) n h := by
  refine Ev_of RX12 rfl (by decide) (Nat.le_of_ble_eq_true rfl) (Nat.le_refl _) (Or.inl rfl) (fun Z hZ hF hN hI => ?_)
  have H : Ok (f_X12_widthOf  h a0 a1 a2) (fun y => y = r) := ⟨_, hf, rfl⟩
  unfold f_X12_widthOf at H
  refine r_ls (ls' := [(0, .ref a0), (1, .int a1), (2, .int a2)]) rfl ?_
  refine r_aload_n hZ dX12_widthOf_0 rfl ?_
  obtain ⟨x1, ex1, H⟩ := ok_bind H
  refine r_getR hZ fl_X12_13_11 dX12_widthOf_1 ex1 ?_
  refine r_bipush (v := (J 19)) hZ dX12_widthOf_4 (by decide) ?_
  refine r_iload_n hZ dX12_widthOf_6 rfl ?_
  refine r_imul hZ dX12_widthOf_7 ?_
  refine r_iconst (v := (J 3)) hZ dX12_widthOf_8 (by decide) ?_
  refine r_iadd hZ dX12_widthOf_9 ?_
  refine r_iload_n hZ dX12_widthOf_10 rfl ?_
  refine r_iadd hZ dX12_widthOf_11 ?_
  obtain ⟨x2, ex2, H⟩ := ok_bind H
  refine r_aI hZ dX12_widthOf_12 ex2 ?_
  have H := ok_some H
  subst H
  exact r_iret hZ hF dX12_widthOf_13
def f_X12_meshOf  (h : Hp) (a0 : Nat) (a1 : Int32) (a2 : Int32) : Option (Int32) :=
  (gR h a0 11 1).bind fun x1 =>
  (aI h x1 (((J 228) + ((J 3) * a1)) + a2)).bind fun x2 =>
  some x2
set_option maxRecDepth 100000 in
set_option maxHeartbeats 4000000 in
theorem s_X12_meshOf {n : Nat} {h : Hp} {a0 : Nat} {a1 : Int32} {a2 : Int32}  {r : Int32} (hf : f_X12_meshOf  h a0 a1 a2 = some r) : Ev 2 yX12_meshOf cX12_meshOf 3 (some .int) [.ref a0, .int a1, .int a2] n h (some (.int r)) n h := by
  refine Ev_of RX12 rfl (by decide) (Nat.le_of_ble_eq_true rfl) (Nat.le_refl _) (Or.inl rfl) (fun Z hZ hF hN hI => ?_)
  have H : Ok (f_X12_meshOf  h a0 a1 a2) (fun y => y = r) := ⟨_, hf, rfl⟩
  unfold f_X12_meshOf at H
  refine r_ls (ls' := [(0, .ref a0), (1, .int a1), (2, .int a2)]) rfl ?_
  refine r_aload_n hZ dX12_meshOf_0 rfl ?_
  obtain ⟨x1, ex1, H⟩ := ok_bind H
  refine r_getR hZ fl_X12_13_11 dX12_meshOf_1 ex1 ?_
  refine r_sipush (v := (J 228)) hZ dX12_meshOf_4 (by decide) ?_
  refine r_iconst (v := (J 3)) hZ dX12_meshOf_7 (by decide) ?_
  refine r_iload_n hZ dX12_meshOf_8 rfl ?_
  refine r_imul hZ dX12_meshOf_9 ?_
  refine r_iadd hZ dX12_meshOf_10 ?_
  refine r_iload_n hZ dX12_meshOf_11 rfl ?_
  refine r_iadd hZ dX12_meshOf_12 ?_
  obtain ⟨x2, ex2, H⟩ := ok_bind H
  refine r_aI hZ dX12_meshOf_13 ex2 ?_
  have H := ok_some H
  subst H
  exact r_iret hZ hF dX12_meshOf_14
def f_X12_hard  (h : Hp) (a0 : Nat) (a1 : Int32) : Option (Int32) :=
  (isO h a0 11).bind fun u1 =>
  (f_X12_kind h a0 a1).bind fun r2 =>
  (if r2 = (J 0) then
    some (J 10)
  else
    (if r2 = (J 1) then
      some (J 20)
    else
      (if r2 = (J 2) then
        some (J 5)
      else
        (if r2 = (J 3) then
          some (J 25)
        else
          (isO h a0 11).bind fun u7 =>
          (f_X12_teeth h a0 a1).bind fun r8 =>
          (nz (J 10)).bind fun u9 =>
          some ((J 10) + (r8 / (J 10)))))))
set_option maxRecDepth 100000 in
set_option maxHeartbeats 4000000 in
theorem s_X12_hard {n : Nat} {h : Hp} {a0 : Nat} {a1 : Int32}  {r : Int32} (hf : f_X12_hard  h a0 a1 = some r) : Ev 3 yX12_hard cX12_hard 2 (some .int) [.ref a0, .int a1] n h (some (.int r)) n h := by
  refine Ev_of RX12 rfl (by decide) (Nat.le_of_ble_eq_true rfl) (Nat.le_refl _) (Or.inl rfl) (fun Z hZ hF hN hI => ?_)
  have H : Ok (f_X12_hard  h a0 a1) (fun y => y = r) := ⟨_, hf, rfl⟩
  unfold f_X12_hard at H
  refine r_ls (ls' := [(0, .ref a0), (1, .int a1)]) rfl ?_
  refine r_aload_n hZ dX12_hard_0 rfl ?_
  refine r_iload_n hZ dX12_hard_1 rfl ?_
  obtain ⟨u1, eu1, H⟩ := ok_bind H
  obtain ⟨r2, er2, H⟩ := ok_bind H
  refine r_callV (As := [.int a1]) (rest := []) (st1 := [.int r2]) (N2 := 0) hZ dX12_hard_2 cw_X12_79_X12 rfl eu1 (s_X12_kind er2) rfl rfl (by decide) (Nat.le_of_ble_eq_true rfl) (Nat.le_refl 0) (Nat.le_refl _) (Or.inl rfl) rfl ?_
  by_cases c3 : r2 = (J 0)
  · have hs : R Z 36 [(0, .ref a0), (1, .int a1)] [] n h 0 → R Z 5 [(0, .ref a0), (1, .int a1)] [.int r2] n h 0 := by
      exact fun k => r_tableIn hZ dX12_hard_5 (by rw [c3]; decide) (by rw [c3]; decide) (off := 31) (by rw [c3]; rfl) (by decide) k
    refine hs ?_
    clear hs
    have H := ok_t H c3
    refine r_bipush (v := (J 10)) hZ dX12_hard_36 (by decide) ?_
    have H := ok_some H
    subst H
    exact r_iret hZ hF dX12_hard_38
  · have H := ok_f H c3
    by_cases c4 : r2 = (J 1)
    · have hs : R Z 39 [(0, .ref a0), (1, .int a1)] [] n h 0 → R Z 5 [(0, .ref a0), (1, .int a1)] [.int r2] n h 0 := by
        exact fun k => r_tableIn hZ dX12_hard_5 (by rw [c4]; decide) (by rw [c4]; decide) (off := 34) (by rw [c4]; rfl) (by decide) k
      refine hs ?_
      clear hs
      have H := ok_t H c4
      refine r_bipush (v := (J 20)) hZ dX12_hard_39 (by decide) ?_
      have H := ok_some H
      subst H
      exact r_iret hZ hF dX12_hard_41
    · have H := ok_f H c4
      by_cases c5 : r2 = (J 2)
      · have hs : R Z 42 [(0, .ref a0), (1, .int a1)] [] n h 0 → R Z 5 [(0, .ref a0), (1, .int a1)] [.int r2] n h 0 := by
          exact fun k => r_tableIn hZ dX12_hard_5 (by rw [c5]; decide) (by rw [c5]; decide) (off := 37) (by rw [c5]; rfl) (by decide) k
        refine hs ?_
        clear hs
        have H := ok_t H c5
        refine r_iconst (v := (J 5)) hZ dX12_hard_42 (by decide) ?_
        have H := ok_some H
        subst H
        exact r_iret hZ hF dX12_hard_43
      · have H := ok_f H c5
        by_cases c6 : r2 = (J 3)
        · have hs : R Z 44 [(0, .ref a0), (1, .int a1)] [] n h 0 → R Z 5 [(0, .ref a0), (1, .int a1)] [.int r2] n h 0 := by
            exact fun k => r_tableIn hZ dX12_hard_5 (by rw [c6]; decide) (by rw [c6]; decide) (off := 39) (by rw [c6]; rfl) (by decide) k
          refine hs ?_
          clear hs
          have H := ok_t H c6
          refine r_bipush (v := (J 25)) hZ dX12_hard_44 (by decide) ?_
          have H := ok_some H
          subst H
          exact r_iret hZ hF dX12_hard_46
        · have H := ok_f H c6
          refine r_tableOut (tgt := 47) hZ dX12_hard_5 (by have := sw_n c3; have := sw_n c4; have := sw_n c5; have := sw_n c6; omega) (by decide) ?_
          refine r_bipush (v := (J 10)) hZ dX12_hard_47 (by decide) ?_
          refine r_aload_n hZ dX12_hard_49 rfl ?_
          refine r_iload_n hZ dX12_hard_50 rfl ?_
          obtain ⟨u7, eu7, H⟩ := ok_bind H
          obtain ⟨r8, er8, H⟩ := ok_bind H
          refine r_callV (As := [.int a1]) (rest := [.int (J 10)]) (st1 := [.int r8, .int (J 10)]) (N2 := 0) hZ dX12_hard_51 cw_X12_83_X12 rfl eu7 (s_X12_teeth er8) rfl rfl (by decide) (Nat.le_of_ble_eq_true rfl) (Nat.le_refl 0) (Nat.le_refl _) (Or.inl rfl) rfl ?_
          refine r_bipush (v := (J 10)) hZ dX12_hard_54 (by decide) ?_
          obtain ⟨u9, eu9, H⟩ := ok_bind H
          refine r_idiv hZ dX12_hard_56 (nz_ne eu9) ?_
          refine r_iadd hZ dX12_hard_57 ?_
          have H := ok_some H
          subst H
          exact r_iret hZ hF dX12_hard_58
def f_X12_stiff  (h : Hp) (a0 : Nat) (a1 : Int32) : Option (Int32) :=
  (isO h a0 11).bind fun u1 =>
  (f_X12_kind h a0 a1).bind fun r2 =>
  (if r2 = (J 0) then
    some (J 8)
  else
    (if r2 = (J 2) then
      some (J 6)
    else
      (if r2 = (J 4) then
        some (J 16)
      else
        some (J 12))))
set_option maxRecDepth 100000 in
set_option maxHeartbeats 4000000 in
theorem s_X12_stiff {n : Nat} {h : Hp} {a0 : Nat} {a1 : Int32}  {r : Int32} (hf : f_X12_stiff  h a0 a1 = some r) : Ev 3 yX12_stiff cX12_stiff 2 (some .int) [.ref a0, .int a1] n h (some (.int r)) n h := by
  refine Ev_of RX12 rfl (by decide) (Nat.le_of_ble_eq_true rfl) (Nat.le_refl _) (Or.inl rfl) (fun Z hZ hF hN hI => ?_)
  have H : Ok (f_X12_stiff  h a0 a1) (fun y => y = r) := ⟨_, hf, rfl⟩
  unfold f_X12_stiff at H
  refine r_ls (ls' := [(0, .ref a0), (1, .int a1)]) rfl ?_
  refine r_aload_n hZ dX12_stiff_0 rfl ?_
  refine r_iload_n hZ dX12_stiff_1 rfl ?_
  obtain ⟨u1, eu1, H⟩ := ok_bind H
  obtain ⟨r2, er2, H⟩ := ok_bind H
  refine r_callV (As := [.int a1]) (rest := []) (st1 := [.int r2]) (N2 := 0) hZ dX12_stiff_2 cw_X12_79_X12 rfl eu1 (s_X12_kind er2) rfl rfl (by decide) (Nat.le_of_ble_eq_true rfl) (Nat.le_refl 0) (Nat.le_refl _) (Or.inl rfl) rfl ?_
  by_cases c3 : r2 = (J 0)
  · have hs : R Z 40 [(0, .ref a0), (1, .int a1)] [] n h 0 → R Z 5 [(0, .ref a0), (1, .int a1)] [.int r2] n h 0 := by
      exact fun k => r_tableIn hZ dX12_stiff_5 (by rw [c3]; decide) (by rw [c3]; decide) (off := 35) (by rw [c3]; rfl) (by decide) k
    refine hs ?_
    clear hs
    have H := ok_t H c3
    refine r_bipush (v := (J 8)) hZ dX12_stiff_40 (by decide) ?_
    have H := ok_some H
    subst H
    exact r_iret hZ hF dX12_stiff_42
  · have H := ok_f H c3
    by_cases c4 : r2 = (J 2)
    · have hs : R Z 43 [(0, .ref a0), (1, .int a1)] [] n h 0 → R Z 5 [(0, .ref a0), (1, .int a1)] [.int r2] n h 0 := by
        exact fun k => r_tableIn hZ dX12_stiff_5 (by rw [c4]; decide) (by rw [c4]; decide) (off := 38) (by rw [c4]; rfl) (by decide) k
      refine hs ?_
      clear hs
      have H := ok_t H c4
      refine r_bipush (v := (J 6)) hZ dX12_stiff_43 (by decide) ?_
      have H := ok_some H
      subst H
      exact r_iret hZ hF dX12_stiff_45
    · have H := ok_f H c4
      by_cases c5 : r2 = (J 4)
      · have hs : R Z 46 [(0, .ref a0), (1, .int a1)] [] n h 0 → R Z 5 [(0, .ref a0), (1, .int a1)] [.int r2] n h 0 := by
          exact fun k => r_tableIn hZ dX12_stiff_5 (by rw [c5]; decide) (by rw [c5]; decide) (off := 41) (by rw [c5]; rfl) (by decide) k
        refine hs ?_
        clear hs
        have H := ok_t H c5
        refine r_bipush (v := (J 16)) hZ dX12_stiff_46 (by decide) ?_
        have H := ok_some H
        subst H
        exact r_iret hZ hF dX12_stiff_48
      · have H := ok_f H c5
        have hs : R Z 49 [(0, .ref a0), (1, .int a1)] [] n h 0 → R Z 5 [(0, .ref a0), (1, .int a1)] [.int r2] n h 0 := by
          rcases Decidable.em (r2.toInt < 0 ∨ 4 < r2.toInt) with q | q
          · exact fun k => r_tableOut (tgt := 49) hZ dX12_stiff_5 q (by decide) k
          · have q2 : r2.toInt = 1 ∨ r2.toInt = 3 := by have := sw_n c3; have := sw_n c4; have := sw_n c5; omega
            rcases q2 with e | e
            · exact fun k => r_tableIn hZ dX12_stiff_5 (by rw [e]; decide) (by rw [e]; decide) (off := 44) (by rw [e]; rfl) (by decide) k
            · exact fun k => r_tableIn hZ dX12_stiff_5 (by rw [e]; decide) (by rw [e]; decide) (off := 44) (by rw [e]; rfl) (by decide) k
        refine hs ?_
        clear hs
        refine r_bipush (v := (J 12)) hZ dX12_stiff_49 (by decide) ?_
        have H := ok_some H
        subst H
        exact r_iret hZ hF dX12_stiff_51
def b_X12_thin_5 (h : Hp) (p0 : Nat) (p1 : Int32) (s : Int32 × Int32) : Option ((Int32 × Int32) ⊕ ((Int32))) :=
  (if (J 16) ≤ s.2 then
    some (.inr (s.1))
  else
    (isO h p0 11).bind fun u1 =>
    (f_X12_widthOf h p0 p1 s.2).bind fun r2 =>
    ((if s.1 ≤ r2 then
      some s.1
    else
      (isO h p0 11).bind fun u4 =>
      (f_X12_widthOf h p0 p1 s.2).bind fun r5 =>
      some r5)).bind fun (j3 : Int32) =>
    (some (s.2 + (J 1))).bind fun x7 =>
    some (.inl (j3, x7)))
set_option maxRecDepth 100000 in
set_option maxHeartbeats 4000000 in
theorem l_X12_thin_5 {Z : Zc} (hZ : Fx cX12_thin RX12 4 3 0 Z) {n : Nat} {h : Hp} {p0 : Nat} {p1 : Int32} {P : ((Int32)) → Prop} (hx0 : ∀ e : Int32, P (e) → R Z 38 [(2, .int e)] [] n h 0) : ∀ (m : Nat) (s : Int32 × Int32), Ok (iter (b_X12_thin_5 h p0 p1) m s) P → R Z 5 [(0, .ref p0), (1, .int p1), (2, .int s.1), (3, .int s.2)] [] n h 0 := by
  intro m
  induction m with
  | zero => exact fun s H => ok_iter0 H
  | succ m ih =>
    intro s H
    have H := ok_iter H
    unfold b_X12_thin_5 at H
    refine r_iload_n hZ dX12_thin_5 rfl ?_
    refine r_bipush (v := (J 16)) hZ dX12_thin_6 (by decide) ?_
    refine r_icmp_ge (tgt := 38) hZ dX12_thin_8 (by decide) (fun c8 => ?_) (fun c8 => ?_)
    · have H := ok_t H c8
      exact r_pick [2] (ls' := [(2, .int s.1)]) rfl (hx0 _ (ki_r H))
    · have H := ok_f H c8
      refine r_aload_n hZ dX12_thin_11 rfl ?_
      refine r_iload_n hZ dX12_thin_12 rfl ?_
      refine r_iload_n hZ dX12_thin_13 rfl ?_
      obtain ⟨u1, eu1, H⟩ := ok_bind H
      obtain ⟨r2, er2, H⟩ := ok_bind H
      refine r_callV (As := [.int p1, .int s.2]) (rest := []) (st1 := [.int r2]) (N2 := 0) hZ dX12_thin_14 cw_X12_86_X12 rfl eu1 (s_X12_widthOf er2) rfl rfl (by decide) (Nat.le_of_ble_eq_true rfl) (Nat.le_refl 0) (Nat.le_refl _) (Or.inl rfl) rfl ?_
      refine r_iload_n hZ dX12_thin_17 rfl ?_
      refine ok_join (Q := fun j3 : Int32 => R Z 31 [(0, .ref p0), (1, .int p1), (3, .int s.2)] [.int j3] n h 0) H (fun j3 H => ?_) (fun H => ?_)
      · refine r_istore_n hZ dX12_thin_31 (by decide) (r_pick [0, 1, 2, 3] (ls' := [(0, .ref p0), (1, .int p1), (2, .int j3), (3, .int s.2)]) rfl ?_)
        obtain ⟨x7, ex7, H⟩ := ok_bind H
        refine r_iincE (w := (J 1)) hZ dX12_thin_32 (by decide) rfl (by decide) ex7 (r_pick [0, 1, 2, 3] (ls' := [(0, .ref p0), (1, .int p1), (2, .int j3), (3, .int x7)]) rfl ?_)
        refine r_goto (tgt := 5) hZ dX12_thin_35 (by decide) ?_
        exact r_pick [0, 1, 2, 3] (ls' := [(0, .ref p0), (1, .int p1), (2, .int j3), (3, .int x7)]) rfl (ih _ (ki_l H))
      · refine r_icmp_ge (tgt := 30) hZ dX12_thin_18 (by decide) (fun c6 => ?_) (fun c6 => ?_)
        · have H := ok_t H c6
          refine r_iload_n hZ dX12_thin_30 rfl ?_
          have H := ok_some H
          exact r_pick [0, 1, 3] (ls' := [(0, .ref p0), (1, .int p1), (3, .int s.2)]) rfl H
        · have H := ok_f H c6
          refine r_aload_n hZ dX12_thin_21 rfl ?_
          refine r_iload_n hZ dX12_thin_22 rfl ?_
          refine r_iload_n hZ dX12_thin_23 rfl ?_
          obtain ⟨u4, eu4, H⟩ := ok_bind H
          obtain ⟨r5, er5, H⟩ := ok_bind H
          refine r_callV (As := [.int p1, .int s.2]) (rest := []) (st1 := [.int r5]) (N2 := 0) hZ dX12_thin_24 cw_X12_86_X12 rfl eu4 (s_X12_widthOf er5) rfl rfl (by decide) (Nat.le_of_ble_eq_true rfl) (Nat.le_refl 0) (Nat.le_refl _) (Or.inl rfl) rfl ?_
          refine r_goto (tgt := 31) hZ dX12_thin_27 (by decide) ?_
          have H := ok_some H
          exact r_pick [0, 1, 3] (ls' := [(0, .ref p0), (1, .int p1), (3, .int s.2)]) rfl H
def f_X12_thin  (h : Hp) (a0 : Nat) (a1 : Int32) : Option (Int32) :=
  (some (J 31)).bind fun x1 =>
  (some (J 0)).bind fun x2 =>
  (iter (b_X12_thin_5 h a0 a1) FU (x1, x2)).bind fun e3 =>
  some e3
set_option maxRecDepth 100000 in
set_option maxHeartbeats 4000000 in
theorem s_X12_thin {n : Nat} {h : Hp} {a0 : Nat} {a1 : Int32}  {r : Int32} (hf : f_X12_thin  h a0 a1 = some r) : Ev 3 yX12_thin cX12_thin 4 (some .int) [.ref a0, .int a1] n h (some (.int r)) n h := by
  refine Ev_of RX12 rfl (by decide) (Nat.le_of_ble_eq_true rfl) (Nat.le_refl _) (Or.inl rfl) (fun Z hZ hF hN hI => ?_)
  have H : Ok (f_X12_thin  h a0 a1) (fun y => y = r) := ⟨_, hf, rfl⟩
  unfold f_X12_thin at H
  refine r_ls (ls' := [(0, .ref a0), (1, .int a1)]) rfl ?_
  refine r_bipush (v := (J 31)) hZ dX12_thin_0 (by decide) ?_
  obtain ⟨x1, ex1, H⟩ := ok_bind H
  refine r_topi ex1 ?_
  refine r_istore_n hZ dX12_thin_2 (by decide) (r_pick [0, 1, 2] (ls' := [(0, .ref a0), (1, .int a1), (2, .int x1)]) rfl ?_)
  refine r_iconst (v := (J 0)) hZ dX12_thin_3 (by decide) ?_
  obtain ⟨x2, ex2, H⟩ := ok_bind H
  refine r_topi ex2 ?_
  refine r_istore_n hZ dX12_thin_4 (by decide) (r_pick [0, 1, 2, 3] (ls' := [(0, .ref a0), (1, .int a1), (2, .int x1), (3, .int x2)]) rfl ?_)
  have H := ok_bindK H
  refine r_pick [0, 1, 2, 3] (ls' := [(0, .ref a0), (1, .int a1), (2, .int x1), (3, .int x2)]) rfl (l_X12_thin_5 hZ (fun e3 H => ?_) FU _ H)
  · refine r_iload_n hZ dX12_thin_38 rfl ?_
    have H := ok_some H
    subst H
    exact r_iret hZ hF dX12_thin_39
def b_X12_undercut_4 (h : Hp) (p0 : Nat) (p1 : Int32) (s : Int32 × Int32) : Option ((Int32 × Int32) ⊕ ((Unit) ⊕ (Int32))) :=
  (if (J 15) ≤ s.2 then
    some (.inr (.inl ()))
  else
    (isO h p0 11).bind fun u1 =>
    (f_X12_widthOf h p0 p1 s.2).bind fun r2 =>
    (isO h p0 11).bind fun u3 =>
    (f_X12_widthOf h p0 p1 (s.2 + (J 1))).bind fun r4 =>
    (if r4 ≤ r2 then
      ((if r2 ≤ s.1 then
        some s.1
      else
        some r2)).bind fun (j5 : Int32) =>
      (some (s.2 + (J 1))).bind fun x7 =>
      some (.inl (j5, x7))
    else
      (if s.1 ≤ r2 then
        ((if r2 ≤ s.1 then
          some s.1
        else
          some r2)).bind fun (j8 : Int32) =>
        (some (s.2 + (J 1))).bind fun x10 =>
        some (.inl (j8, x10))
      else
        some (.inr (.inr s.2)))))
set_option maxRecDepth 100000 in
set_option maxHeartbeats 4000000 in
theorem l_X12_undercut_4 {Z : Zc} (hZ : Fx cX12_undercut RX12 5 3 0 Z) {n : Nat} {h : Hp} {p0 : Nat} {p1 : Int32} {P : ((Unit) ⊕ (Int32)) → Prop} (hx0 : ∀ e : Unit, P (.inl e) → R Z 58 [] [] n h 0) (hx1 : ∀ e : Int32, P (.inr e) → R Z 37 [(3, .int e)] [] n h 0) : ∀ (m : Nat) (s : Int32 × Int32), Ok (iter (b_X12_undercut_4 h p0 p1) m s) P → R Z 4 [(0, .ref p0), (1, .int p1), (2, .int s.1), (3, .int s.2)] [] n h 0 := by
  intro m
  induction m with
  | zero => exact fun s H => ok_iter0 H
  | succ m ih =>
    intro s H
    have H := ok_iter H
    unfold b_X12_undercut_4 at H
    refine r_iload_n hZ dX12_undercut_4 rfl ?_
    refine r_bipush (v := (J 15)) hZ dX12_undercut_5 (by decide) ?_
    refine r_icmp_ge (tgt := 58) hZ dX12_undercut_7 (by decide) (fun c13 => ?_) (fun c13 => ?_)
    · have H := ok_t H c13
      exact r_pick [] (ls' := []) rfl (hx0 _ (ki_r H))
    · have H := ok_f H c13
      refine r_aload_n hZ dX12_undercut_10 rfl ?_
      refine r_iload_n hZ dX12_undercut_11 rfl ?_
      refine r_iload_n hZ dX12_undercut_12 rfl ?_
      obtain ⟨u1, eu1, H⟩ := ok_bind H
      obtain ⟨r2, er2, H⟩ := ok_bind H
      refine r_callV (As := [.int p1, .int s.2]) (rest := []) (st1 := [.int r2]) (N2 := 0) hZ dX12_undercut_13 cw_X12_86_X12 rfl eu1 (s_X12_widthOf er2) rfl rfl (by decide) (Nat.le_of_ble_eq_true rfl) (Nat.le_refl 0) (Nat.le_refl _) (Or.inl rfl) rfl ?_
      refine r_istore hZ dX12_undercut_16 (by decide) (r_pick [0, 1, 2, 3, 4] (ls' := [(0, .ref p0), (1, .int p1), (2, .int s.1), (3, .int s.2), (4, .int r2)]) rfl ?_)
      refine r_iload hZ dX12_undercut_18 rfl ?_
      refine r_aload_n hZ dX12_undercut_20 rfl ?_
      refine r_iload_n hZ dX12_undercut_21 rfl ?_
      refine r_iload_n hZ dX12_undercut_22 rfl ?_
      refine r_iconst (v := (J 1)) hZ dX12_undercut_23 (by decide) ?_
      refine r_iadd hZ dX12_undercut_24 ?_
      obtain ⟨u3, eu3, H⟩ := ok_bind H
      obtain ⟨r4, er4, H⟩ := ok_bind H
      refine r_callV (As := [.int p1, .int (s.2 + (J 1))]) (rest := [.int r2]) (st1 := [.int r4, .int r2]) (N2 := 0) hZ dX12_undercut_25 cw_X12_86_X12 rfl eu3 (s_X12_widthOf er4) rfl rfl (by decide) (Nat.le_of_ble_eq_true rfl) (Nat.le_refl 0) (Nat.le_refl _) (Or.inl rfl) rfl ?_
      refine r_icmp_ge (tgt := 39) hZ dX12_undercut_28 (by decide) (fun c12 => ?_) (fun c12 => ?_)
      · have H := ok_t H c12
        refine r_iload hZ dX12_undercut_39 rfl ?_
        refine r_iload_n hZ dX12_undercut_41 rfl ?_
        refine ok_join (Q := fun j5 : Int32 => R Z 51 [(0, .ref p0), (1, .int p1), (3, .int s.2)] [.int j5] n h 0) H (fun j5 H => ?_) (fun H => ?_)
        · refine r_istore_n hZ dX12_undercut_51 (by decide) (r_pick [0, 1, 2, 3] (ls' := [(0, .ref p0), (1, .int p1), (2, .int j5), (3, .int s.2)]) rfl ?_)
          obtain ⟨x7, ex7, H⟩ := ok_bind H
          refine r_iincE (w := (J 1)) hZ dX12_undercut_52 (by decide) rfl (by decide) ex7 (r_pick [0, 1, 2, 3] (ls' := [(0, .ref p0), (1, .int p1), (2, .int j5), (3, .int x7)]) rfl ?_)
          refine r_goto (tgt := 4) hZ dX12_undercut_55 (by decide) ?_
          exact r_pick [0, 1, 2, 3] (ls' := [(0, .ref p0), (1, .int p1), (2, .int j5), (3, .int x7)]) rfl (ih _ (ki_l H))
        · refine r_icmp_le (tgt := 50) hZ dX12_undercut_42 (by decide) (fun c6 => ?_) (fun c6 => ?_)
          · have H := ok_t H c6
            refine r_iload_n hZ dX12_undercut_50 rfl ?_
            have H := ok_some H
            exact r_pick [0, 1, 3] (ls' := [(0, .ref p0), (1, .int p1), (3, .int s.2)]) rfl H
          · have H := ok_f H c6
            refine r_iload hZ dX12_undercut_45 rfl ?_
            refine r_goto (tgt := 51) hZ dX12_undercut_47 (by decide) ?_
            have H := ok_some H
            exact r_pick [0, 1, 3] (ls' := [(0, .ref p0), (1, .int p1), (3, .int s.2)]) rfl H
      · have H := ok_f H c12
        refine r_iload hZ dX12_undercut_31 rfl ?_
        refine r_iload_n hZ dX12_undercut_33 rfl ?_
        refine r_icmp_ge (tgt := 39) hZ dX12_undercut_34 (by decide) (fun c11 => ?_) (fun c11 => ?_)
        · have H := ok_t H c11
          refine r_iload hZ dX12_undercut_39 rfl ?_
          refine r_iload_n hZ dX12_undercut_41 rfl ?_
          refine ok_join (Q := fun j8 : Int32 => R Z 51 [(0, .ref p0), (1, .int p1), (3, .int s.2)] [.int j8] n h 0) H (fun j8 H => ?_) (fun H => ?_)
          · refine r_istore_n hZ dX12_undercut_51 (by decide) (r_pick [0, 1, 2, 3] (ls' := [(0, .ref p0), (1, .int p1), (2, .int j8), (3, .int s.2)]) rfl ?_)
            obtain ⟨x10, ex10, H⟩ := ok_bind H
            refine r_iincE (w := (J 1)) hZ dX12_undercut_52 (by decide) rfl (by decide) ex10 (r_pick [0, 1, 2, 3] (ls' := [(0, .ref p0), (1, .int p1), (2, .int j8), (3, .int x10)]) rfl ?_)
            refine r_goto (tgt := 4) hZ dX12_undercut_55 (by decide) ?_
            exact r_pick [0, 1, 2, 3] (ls' := [(0, .ref p0), (1, .int p1), (2, .int j8), (3, .int x10)]) rfl (ih _ (ki_l H))
          · refine r_icmp_le (tgt := 50) hZ dX12_undercut_42 (by decide) (fun c9 => ?_) (fun c9 => ?_)
            · have H := ok_t H c9
              refine r_iload_n hZ dX12_undercut_50 rfl ?_
              have H := ok_some H
              exact r_pick [0, 1, 3] (ls' := [(0, .ref p0), (1, .int p1), (3, .int s.2)]) rfl H
            · have H := ok_f H c9
              refine r_iload hZ dX12_undercut_45 rfl ?_
              refine r_goto (tgt := 51) hZ dX12_undercut_47 (by decide) ?_
              have H := ok_some H
              exact r_pick [0, 1, 3] (ls' := [(0, .ref p0), (1, .int p1), (3, .int s.2)]) rfl H
        · have H := ok_f H c11
          exact r_pick [3] (ls' := [(3, .int s.2)]) rfl (hx1 _ (ki_r H))
def f_X12_undercut  (h : Hp) (a0 : Nat) (a1 : Int32) : Option (Int32) :=
  (some (J (-1))).bind fun x1 =>
  (some (J 0)).bind fun x2 =>
  (iter (b_X12_undercut_4 h a0 a1) FU (x1, x2)).bind fun e3 =>
  (match e3 with
  | .inl e4 =>
    some (J (-4))
  | .inr e5 =>
    some e5)
set_option maxRecDepth 100000 in
set_option maxHeartbeats 4000000 in
theorem s_X12_undercut {n : Nat} {h : Hp} {a0 : Nat} {a1 : Int32}  {r : Int32} (hf : f_X12_undercut  h a0 a1 = some r) : Ev 3 yX12_undercut cX12_undercut 5 (some .int) [.ref a0, .int a1] n h (some (.int r)) n h := by
  refine Ev_of RX12 rfl (by decide) (Nat.le_of_ble_eq_true rfl) (Nat.le_refl _) (Or.inl rfl) (fun Z hZ hF hN hI => ?_)
  have H : Ok (f_X12_undercut  h a0 a1) (fun y => y = r) := ⟨_, hf, rfl⟩
  unfold f_X12_undercut at H
  refine r_ls (ls' := [(0, .ref a0), (1, .int a1)]) rfl ?_
  refine r_iconst (v := (J (-1))) hZ dX12_undercut_0 (by decide) ?_
  obtain ⟨x1, ex1, H⟩ := ok_bind H
  refine r_topi ex1 ?_
  refine r_istore_n hZ dX12_undercut_1 (by decide) (r_pick [0, 1, 2] (ls' := [(0, .ref a0), (1, .int a1), (2, .int x1)]) rfl ?_)
  refine r_iconst (v := (J 0)) hZ dX12_undercut_2 (by decide) ?_
  obtain ⟨x2, ex2, H⟩ := ok_bind H
  refine r_topi ex2 ?_
  refine r_istore_n hZ dX12_undercut_3 (by decide) (r_pick [0, 1, 2, 3] (ls' := [(0, .ref a0), (1, .int a1), (2, .int x1), (3, .int x2)]) rfl ?_)
  have H := ok_bindK H
  refine r_pick [0, 1, 2, 3] (ls' := [(0, .ref a0), (1, .int a1), (2, .int x1), (3, .int x2)]) rfl (l_X12_undercut_4 hZ (fun e4 H => ?_) (fun e5 H => ?_) FU _ H)
  · refine r_bipush (v := (J (-4))) hZ dX12_undercut_58 (by decide) ?_
    have H := ok_some H
    subst H
    exact r_iret hZ hF dX12_undercut_60
  · refine r_iload_n hZ dX12_undercut_37 rfl ?_
    have H := ok_some H
    subst H
    exact r_iret hZ hF dX12_undercut_38
def f_X12_sign  (h : Hp) (a0 : Nat) : Option (Int32) :=
  (gI h a0 11 12).bind fun x1 =>
  (gI h a0 11 14).bind fun x2 =>
  ((if x2 ≤ x1 then
    some (J (-1000))
  else
    (gR h a0 11 16).bind fun x4 =>
    (gI h a0 11 13).bind fun x5 =>
    (gI h a0 11 12).bind fun x6 =>
    (aI h x4 (x5 + x6)).bind fun x7 =>
    some x7)).bind fun (j3 : Int32) =>
  some j3
set_option maxRecDepth 100000 in
set_option maxHeartbeats 4000000 in
theorem s_X12_sign {n : Nat} {h : Hp} {a0 : Nat}  {r : Int32} (hf : f_X12_sign  h a0 = some r) : Ev 2 yX12_sign cX12_sign 1 (some .int) [.ref a0] n h (some (.int r)) n h := by
  refine Ev_of RX12 rfl (by decide) (Nat.le_of_ble_eq_true rfl) (Nat.le_refl _) (Or.inl rfl) (fun Z hZ hF hN hI => ?_)
  have H : Ok (f_X12_sign  h a0) (fun y => y = r) := ⟨_, hf, rfl⟩
  unfold f_X12_sign at H
  refine r_ls (ls' := [(0, .ref a0)]) rfl ?_
  refine r_aload_n hZ dX12_sign_0 rfl ?_
  obtain ⟨x1, ex1, H⟩ := ok_bind H
  refine r_getI hZ fl_X12_90_11 dX12_sign_1 ex1 ?_
  refine r_aload_n hZ dX12_sign_4 rfl ?_
  obtain ⟨x2, ex2, H⟩ := ok_bind H
  refine r_getI hZ fl_X12_93_11 dX12_sign_5 ex2 ?_
  refine ok_join (Q := fun j3 : Int32 => R Z 31 [] [.int j3] n h 0) H (fun j3 H => ?_) (fun H => ?_)
  · have H := ok_some H
    subst H
    exact r_iret hZ hF dX12_sign_31
  · refine r_icmp_ge (tgt := 28) hZ dX12_sign_8 (by decide) (fun c8 => ?_) (fun c8 => ?_)
    · have H := ok_t H c8
      refine r_sipush (v := (J (-1000))) hZ dX12_sign_28 (by decide) ?_
      have H := ok_some H
      exact r_pick [] (ls' := []) rfl H
    · have H := ok_f H c8
      refine r_aload_n hZ dX12_sign_11 rfl ?_
      obtain ⟨x4, ex4, H⟩ := ok_bind H
      refine r_getR hZ fl_X12_40_11 dX12_sign_12 ex4 ?_
      refine r_aload_n hZ dX12_sign_15 rfl ?_
      obtain ⟨x5, ex5, H⟩ := ok_bind H
      refine r_getI hZ fl_X12_96_11 dX12_sign_16 ex5 ?_
      refine r_aload_n hZ dX12_sign_19 rfl ?_
      obtain ⟨x6, ex6, H⟩ := ok_bind H
      refine r_getI hZ fl_X12_90_11 dX12_sign_20 ex6 ?_
      refine r_iadd hZ dX12_sign_23 ?_
      obtain ⟨x7, ex7, H⟩ := ok_bind H
      refine r_aI hZ dX12_sign_24 ex7 ?_
      refine r_goto (tgt := 31) hZ dX12_sign_25 (by decide) ?_
      have H := ok_some H
      exact r_pick [] (ls' := []) rfl H
def f_X12_takes  (h : Hp) (a0 : Nat) (a1 : Int32) : Option (Int32 × Hp) :=
  (isO h a0 11).bind fun u1 =>
  (f_X12_sign h a0).bind fun r2 =>
  (if r2 = a1 then
    (gI h a0 11 12).bind fun x3 =>
    (pF h a0 11 12 (.int (x3 + (J 1)))).bind fun h4 =>
    some ((J 1), h4)
  else
    some ((J 0), h))
set_option maxRecDepth 100000 in
set_option maxHeartbeats 4000000 in
theorem s_X12_takes {n : Nat} {h : Hp} {a0 : Nat} {a1 : Int32}  {r : Int32 × Hp} (hf : f_X12_takes  h a0 a1 = some r) : Ev 3 yX12_takes cX12_takes 2 (some .boolean) [.ref a0, .int a1] n h (some (.int r.1)) n r.2 := by
  refine Ev_of RX12 rfl (by decide) (Nat.le_of_ble_eq_true rfl) (Nat.le_refl _) (Or.inl rfl) (fun Z hZ hF hN hI => ?_)
  have H : Ok (f_X12_takes  h a0 a1) (fun y => y = r) := ⟨_, hf, rfl⟩
  unfold f_X12_takes at H
  refine r_ls (ls' := [(0, .ref a0), (1, .int a1)]) rfl ?_
  refine r_aload_n hZ dX12_takes_0 rfl ?_
  obtain ⟨u1, eu1, H⟩ := ok_bind H
  obtain ⟨r2, er2, H⟩ := ok_bind H
  refine r_callV (As := []) (rest := []) (st1 := [.int r2]) (N2 := 0) hZ dX12_takes_1 cw_X12_99_X12 rfl eu1 (s_X12_sign er2) rfl rfl (by decide) (Nat.le_of_ble_eq_true rfl) (Nat.le_refl 0) (Nat.le_refl _) (Or.inl rfl) rfl ?_
  refine r_iload_n hZ dX12_takes_4 rfl ?_
  refine r_icmp_eq (tgt := 10) hZ dX12_takes_5 (by decide) (fun c5 => ?_) (fun c5 => ?_)
  · have H := ok_t H c5
    refine r_aload_n hZ dX12_takes_10 rfl ?_
    refine r_dup_a hZ dX12_takes_11 ?_
    obtain ⟨x3, ex3, H⟩ := ok_bind H
    refine r_getI hZ fl_X12_90_11 dX12_takes_12 ex3 ?_
    refine r_iconst (v := (J 1)) hZ dX12_takes_15 (by decide) ?_
    refine r_iadd hZ dX12_takes_16 ?_
    obtain ⟨h4, eh4, H⟩ := ok_bind H
    refine r_putf hZ fl_X12_90_11 dX12_takes_17 eh4 rfl rfl ?_
    refine r_iconst (v := (J 1)) hZ dX12_takes_20 (by decide) ?_
    have H := ok_some H
    subst H
    exact r_zret hZ hF (by decide) dX12_takes_21
  · have H := ok_f H c5
    refine r_iconst (v := (J 0)) hZ dX12_takes_8 (by decide) ?_
    have H := ok_some H
    subst H
    exact r_zret hZ hF (by decide) dX12_takes_9
def f_X12_readsNumber  (h : Hp) (a0 : Nat) : Option (Int32 × Hp) :=
  (isO h a0 11).bind fun u1 =>
  (f_X12_sign h a0).bind fun r2 =>
  (f_X12_isIn (r2.toInt64) (K 48) (K 57)).bind fun r3 =>
  (if r3 = 0 then
    some ((J 0), h)
  else
    (isO h a0 11).bind fun u4 =>
    (f_X12_sign h a0).bind fun r5 =>
    (pF h a0 11 15 (.int (r5 - (J 48)))).bind fun h6 =>
    (gI h6 a0 11 12).bind fun x7 =>
    (pF h6 a0 11 12 (.int (x7 + (J 1)))).bind fun h8 =>
    (gI h8 a0 11 15).bind fun x9 =>
    ((if x9 ≤ 0 then
      some h8
    else
      (isO h8 a0 11).bind fun u11 =>
      (f_X12_sign h8 a0).bind fun r12 =>
      (f_X12_isIn (r12.toInt64) (K 48) (K 57)).bind fun r13 =>
      (if r13 = 0 then
        some h8
      else
        (gI h8 a0 11 15).bind fun x14 =>
        (isO h8 a0 11).bind fun u15 =>
        (f_X12_sign h8 a0).bind fun r16 =>
        (pF h8 a0 11 15 (.int ((((J 10) * x14) + r16) - (J 48)))).bind fun h17 =>
        (gI h17 a0 11 12).bind fun x18 =>
        (pF h17 a0 11 12 (.int (x18 + (J 1)))).bind fun h19 =>
        some h19))).bind fun (j10 : Hp) =>
    some ((J 1), j10))
set_option maxRecDepth 100000 in
set_option maxHeartbeats 4000000 in
theorem s_X12_readsNumber {n : Nat} {h : Hp} {a0 : Nat}  {r : Int32 × Hp} (hf : f_X12_readsNumber  h a0 = some r) : Ev 3 yX12_readsNumber cX12_readsNumber 1 (some .boolean) [.ref a0] n h (some (.int r.1)) n r.2 := by
  refine Ev_of RX12 rfl (by decide) (Nat.le_of_ble_eq_true rfl) (Nat.le_refl _) (Or.inl rfl) (fun Z hZ hF hN hI => ?_)
  have H : Ok (f_X12_readsNumber  h a0) (fun y => y = r) := ⟨_, hf, rfl⟩
  unfold f_X12_readsNumber at H
  refine r_ls (ls' := [(0, .ref a0)]) rfl ?_
  refine r_aload_n hZ dX12_readsNumber_0 rfl ?_
  obtain ⟨u1, eu1, H⟩ := ok_bind H
  obtain ⟨r2, er2, H⟩ := ok_bind H
  refine r_callV (As := []) (rest := []) (st1 := [.int r2]) (N2 := 0) hZ dX12_readsNumber_1 cw_X12_99_X12 rfl eu1 (s_X12_sign er2) rfl rfl (by decide) (Nat.le_of_ble_eq_true rfl) (Nat.le_refl 0) (Nat.le_refl _) (Or.inl rfl) rfl ?_
  refine r_i2l hZ dX12_readsNumber_4 ?_
  refine r_ldc2 (v := (K 48)) hZ wc_X12_103 dX12_readsNumber_5 ?_
  refine r_ldc2 (v := (K 57)) hZ wc_X12_105 dX12_readsNumber_8 ?_
  obtain ⟨r3, er3, H⟩ := ok_bind H
  refine r_callS (As := [.long (r2.toInt64), .long (K 48), .long (K 57)]) (rest := []) (st1 := [.int r3]) (N2 := 0) hZ dX12_readsNumber_11 cw_X12_73 (s_X12_isIn er3) rfl rfl (by decide) (Nat.le_of_ble_eq_true rfl) (Nat.le_refl 0) (Nat.le_refl _) (Or.inl rfl) rfl ?_
  refine r_if_ne (tgt := 19) hZ dX12_readsNumber_14 (by decide) (fun c22 => ?_) (fun c22 => ?_)
  · have H := ok_f H c22
    refine r_aload_n hZ dX12_readsNumber_19 rfl ?_
    refine r_aload_n hZ dX12_readsNumber_20 rfl ?_
    obtain ⟨u4, eu4, H⟩ := ok_bind H
    obtain ⟨r5, er5, H⟩ := ok_bind H
    refine r_callV (As := []) (rest := [.ref a0]) (st1 := [.int r5, .ref a0]) (N2 := 0) hZ dX12_readsNumber_21 cw_X12_99_X12 rfl eu4 (s_X12_sign er5) rfl rfl (by decide) (Nat.le_of_ble_eq_true rfl) (Nat.le_refl 0) (Nat.le_refl _) (Or.inl rfl) rfl ?_
    refine r_bipush (v := (J 48)) hZ dX12_readsNumber_24 (by decide) ?_
    refine r_isub hZ dX12_readsNumber_26 ?_
    obtain ⟨h6, eh6, H⟩ := ok_bind H
    refine r_putf hZ fl_X12_107_11 dX12_readsNumber_27 eh6 rfl rfl ?_
    refine r_aload_n hZ dX12_readsNumber_30 rfl ?_
    refine r_dup_a hZ dX12_readsNumber_31 ?_
    obtain ⟨x7, ex7, H⟩ := ok_bind H
    refine r_getI hZ fl_X12_90_11 dX12_readsNumber_32 ex7 ?_
    refine r_iconst (v := (J 1)) hZ dX12_readsNumber_35 (by decide) ?_
    refine r_iadd hZ dX12_readsNumber_36 ?_
    obtain ⟨h8, eh8, H⟩ := ok_bind H
    refine r_putf hZ fl_X12_90_11 dX12_readsNumber_37 eh8 rfl rfl ?_
    refine r_aload_n hZ dX12_readsNumber_40 rfl ?_
    obtain ⟨x9, ex9, H⟩ := ok_bind H
    refine r_getI hZ fl_X12_107_11 dX12_readsNumber_41 ex9 ?_
    refine ok_join (Q := fun j10 : Hp => R Z 93 [] [] n j10 0) H (fun j10 H => ?_) (fun H => ?_)
    · refine r_iconst (v := (J 1)) hZ dX12_readsNumber_93 (by decide) ?_
      have H := ok_some H
      subst H
      exact r_zret hZ hF (by decide) dX12_readsNumber_94
    · refine r_if_le (tgt := 93) hZ dX12_readsNumber_44 (by decide) (fun c21 => ?_) (fun c21 => ?_)
      · have H := ok_t H c21
        have H := ok_some H
        exact r_pick [] (ls' := []) rfl H
      · have H := ok_f H c21
        refine r_aload_n hZ dX12_readsNumber_47 rfl ?_
        obtain ⟨u11, eu11, H⟩ := ok_bind H
        obtain ⟨r12, er12, H⟩ := ok_bind H
        refine r_callV (As := []) (rest := []) (st1 := [.int r12]) (N2 := 0) hZ dX12_readsNumber_48 cw_X12_99_X12 rfl eu11 (s_X12_sign er12) rfl rfl (by decide) (Nat.le_of_ble_eq_true rfl) (Nat.le_refl 0) (Nat.le_refl _) (Or.inl rfl) rfl ?_
        refine r_i2l hZ dX12_readsNumber_51 ?_
        refine r_ldc2 (v := (K 48)) hZ wc_X12_103 dX12_readsNumber_52 ?_
        refine r_ldc2 (v := (K 57)) hZ wc_X12_105 dX12_readsNumber_55 ?_
        obtain ⟨r13, er13, H⟩ := ok_bind H
        refine r_callS (As := [.long (r12.toInt64), .long (K 48), .long (K 57)]) (rest := []) (st1 := [.int r13]) (N2 := 0) hZ dX12_readsNumber_58 cw_X12_73 (s_X12_isIn er13) rfl rfl (by decide) (Nat.le_of_ble_eq_true rfl) (Nat.le_refl 0) (Nat.le_refl _) (Or.inl rfl) rfl ?_
        refine r_if_eq (tgt := 93) hZ dX12_readsNumber_61 (by decide) (fun c20 => ?_) (fun c20 => ?_)
        · have H := ok_t H c20
          have H := ok_some H
          exact r_pick [] (ls' := []) rfl H
        · have H := ok_f H c20
          refine r_aload_n hZ dX12_readsNumber_64 rfl ?_
          refine r_bipush (v := (J 10)) hZ dX12_readsNumber_65 (by decide) ?_
          refine r_aload_n hZ dX12_readsNumber_67 rfl ?_
          obtain ⟨x14, ex14, H⟩ := ok_bind H
          refine r_getI hZ fl_X12_107_11 dX12_readsNumber_68 ex14 ?_
          refine r_imul hZ dX12_readsNumber_71 ?_
          refine r_aload_n hZ dX12_readsNumber_72 rfl ?_
          obtain ⟨u15, eu15, H⟩ := ok_bind H
          obtain ⟨r16, er16, H⟩ := ok_bind H
          refine r_callV (As := []) (rest := [.int ((J 10) * x14), .ref a0]) (st1 := [.int r16, .int ((J 10) * x14), .ref a0]) (N2 := 0) hZ dX12_readsNumber_73 cw_X12_99_X12 rfl eu15 (s_X12_sign er16) rfl rfl (by decide) (Nat.le_of_ble_eq_true rfl) (Nat.le_refl 0) (Nat.le_refl _) (Or.inl rfl) rfl ?_
          refine r_iadd hZ dX12_readsNumber_76 ?_
          refine r_bipush (v := (J 48)) hZ dX12_readsNumber_77 (by decide) ?_
          refine r_isub hZ dX12_readsNumber_79 ?_
          obtain ⟨h17, eh17, H⟩ := ok_bind H
          refine r_putf hZ fl_X12_107_11 dX12_readsNumber_80 eh17 rfl rfl ?_
          refine r_aload_n hZ dX12_readsNumber_83 rfl ?_
          refine r_dup_a hZ dX12_readsNumber_84 ?_
          obtain ⟨x18, ex18, H⟩ := ok_bind H
          refine r_getI hZ fl_X12_90_11 dX12_readsNumber_85 ex18 ?_
          refine r_iconst (v := (J 1)) hZ dX12_readsNumber_88 (by decide) ?_
          refine r_iadd hZ dX12_readsNumber_89 ?_
          obtain ⟨h19, eh19, H⟩ := ok_bind H
          refine r_putf hZ fl_X12_90_11 dX12_readsNumber_90 eh19 rfl rfl ?_
          have H := ok_some H
          exact r_pick [] (ls' := []) rfl H
  · have H := ok_t H c22
    refine r_iconst (v := (J 0)) hZ dX12_readsNumber_17 (by decide) ?_
    have H := ok_some H
    subst H
    exact r_zret hZ hF (by decide) dX12_readsNumber_18
def b_X12_readsStatement_49 (p0 : Nat) (p2 : Int32) (s : Int32 × Hp) : Option ((Int32 × Hp) ⊕ ((Hp) ⊕ (Hp) ⊕ (Hp))) :=
  (if p2 ≤ s.1 then
    some (.inr (.inl s.2))
  else
    (if s.1 ≤ 0 then
      (isO s.2 p0 11).bind fun u1 =>
      (f_X12_readsNumber s.2 p0).bind fun r2 =>
      (if r2.1 = 0 then
        some (.inr (.inr (.inr r2.2)))
      else
        (gR r2.2 p0 11 17).bind fun x3 =>
        (gI r2.2 p0 11 15).bind fun x4 =>
        (sI r2.2 x3 s.1 x4).bind fun h5 =>
        (some (s.1 + (J 1))).bind fun x6 =>
        some (.inl (x6, h5)))
    else
      (isO s.2 p0 11).bind fun u8 =>
      (f_X12_takes s.2 p0 (J 32)).bind fun r9 =>
      (if r9.1 = 0 then
        some (.inr (.inr (.inl r9.2)))
      else
        (isO r9.2 p0 11).bind fun u10 =>
        (f_X12_readsNumber r9.2 p0).bind fun r11 =>
        (if r11.1 = 0 then
          some (.inr (.inr (.inr r11.2)))
        else
          (gR r11.2 p0 11 17).bind fun x12 =>
          (gI r11.2 p0 11 15).bind fun x13 =>
          (sI r11.2 x12 s.1 x13).bind fun h14 =>
          (some (s.1 + (J 1))).bind fun x15 =>
          some (.inl (x15, h14))))))
set_option maxRecDepth 100000 in
set_option maxHeartbeats 4000000 in
theorem l_X12_readsStatement_49 {Z : Zc} (hZ : Fx cX12_readsStatement RX12 4 4 0 Z) {n : Nat} {p0 : Nat} {p2 : Int32} {P : ((Hp) ⊕ (Hp) ⊕ (Hp)) → Prop} (hx0 : ∀ e : Hp, P (.inl e) → R Z 94 [(0, .ref p0)] [] n e 0) (hx1 : ∀ e : Hp, P (.inr (.inl e)) → R Z 67 [] [] n e 0) (hx2 : ∀ e : Hp, P (.inr (.inr e)) → R Z 76 [] [] n e 0) : ∀ (m : Nat) (s : Int32 × Hp), Ok (iter (b_X12_readsStatement_49 p0 p2) m s) P → R Z 49 [(0, .ref p0), (2, .int p2), (3, .int s.1)] [] n s.2 0 := by
  intro m
  induction m with
  | zero => exact fun s H => ok_iter0 H
  | succ m ih =>
    intro s H
    have H := ok_iter H
    unfold b_X12_readsStatement_49 at H
    refine r_iload_n hZ dX12_readsStatement_49 rfl ?_
    refine r_iload_n hZ dX12_readsStatement_50 rfl ?_
    refine r_icmp_ge (tgt := 94) hZ dX12_readsStatement_51 (by decide) (fun c19 => ?_) (fun c19 => ?_)
    · have H := ok_t H c19
      exact r_pick [0] (ls' := [(0, .ref p0)]) rfl (hx0 _ (ki_r H))
    · have H := ok_f H c19
      refine r_iload_n hZ dX12_readsStatement_54 rfl ?_
      refine r_if_le (tgt := 69) hZ dX12_readsStatement_55 (by decide) (fun c18 => ?_) (fun c18 => ?_)
      · have H := ok_t H c18
        refine r_aload_n hZ dX12_readsStatement_69 rfl ?_
        obtain ⟨u1, eu1, H⟩ := ok_bind H
        obtain ⟨r2, er2, H⟩ := ok_bind H
        refine r_callV (As := []) (rest := []) (st1 := [.int r2.1]) (N2 := 0) hZ dX12_readsStatement_70 cw_X12_114_X12 rfl eu1 (s_X12_readsNumber er2) rfl rfl (by decide) (Nat.le_of_ble_eq_true rfl) (Nat.le_refl 0) (Nat.le_refl _) (Or.inl rfl) rfl ?_
        refine r_if_ne (tgt := 78) hZ dX12_readsStatement_73 (by decide) (fun c7 => ?_) (fun c7 => ?_)
        · have H := ok_f H c7
          refine r_aload_n hZ dX12_readsStatement_78 rfl ?_
          obtain ⟨x3, ex3, H⟩ := ok_bind H
          refine r_getR hZ fl_X12_43_11 dX12_readsStatement_79 ex3 ?_
          refine r_iload_n hZ dX12_readsStatement_82 rfl ?_
          refine r_aload_n hZ dX12_readsStatement_83 rfl ?_
          obtain ⟨x4, ex4, H⟩ := ok_bind H
          refine r_getI hZ fl_X12_107_11 dX12_readsStatement_84 ex4 ?_
          obtain ⟨h5, eh5, H⟩ := ok_bind H
          refine r_sI hZ dX12_readsStatement_87 eh5 ?_
          obtain ⟨x6, ex6, H⟩ := ok_bind H
          refine r_iincE (w := (J 1)) hZ dX12_readsStatement_88 (by decide) rfl (by decide) ex6 (r_pick [0, 2, 3] (ls' := [(0, .ref p0), (2, .int p2), (3, .int x6)]) rfl ?_)
          refine r_goto (tgt := 49) hZ dX12_readsStatement_91 (by decide) ?_
          exact r_pick [0, 2, 3] (ls' := [(0, .ref p0), (2, .int p2), (3, .int x6)]) rfl (ih _ (ki_l H))
        · have H := ok_t H c7
          exact r_pick [] (ls' := []) rfl (hx2 _ (ki_r H))
      · have H := ok_f H c18
        refine r_aload_n hZ dX12_readsStatement_58 rfl ?_
        refine r_bipush (v := (J 32)) hZ dX12_readsStatement_59 (by decide) ?_
        obtain ⟨u8, eu8, H⟩ := ok_bind H
        obtain ⟨r9, er9, H⟩ := ok_bind H
        refine r_callV (As := [.int (J 32)]) (rest := []) (st1 := [.int r9.1]) (N2 := 0) hZ dX12_readsStatement_61 cw_X12_110_X12 rfl eu8 (s_X12_takes er9) rfl rfl (by decide) (Nat.le_of_ble_eq_true rfl) (Nat.le_refl 0) (Nat.le_refl _) (Or.inl rfl) rfl ?_
        refine r_if_ne (tgt := 69) hZ dX12_readsStatement_64 (by decide) (fun c17 => ?_) (fun c17 => ?_)
        · have H := ok_f H c17
          refine r_aload_n hZ dX12_readsStatement_69 rfl ?_
          obtain ⟨u10, eu10, H⟩ := ok_bind H
          obtain ⟨r11, er11, H⟩ := ok_bind H
          refine r_callV (As := []) (rest := []) (st1 := [.int r11.1]) (N2 := 0) hZ dX12_readsStatement_70 cw_X12_114_X12 rfl eu10 (s_X12_readsNumber er11) rfl rfl (by decide) (Nat.le_of_ble_eq_true rfl) (Nat.le_refl 0) (Nat.le_refl _) (Or.inl rfl) rfl ?_
          refine r_if_ne (tgt := 78) hZ dX12_readsStatement_73 (by decide) (fun c16 => ?_) (fun c16 => ?_)
          · have H := ok_f H c16
            refine r_aload_n hZ dX12_readsStatement_78 rfl ?_
            obtain ⟨x12, ex12, H⟩ := ok_bind H
            refine r_getR hZ fl_X12_43_11 dX12_readsStatement_79 ex12 ?_
            refine r_iload_n hZ dX12_readsStatement_82 rfl ?_
            refine r_aload_n hZ dX12_readsStatement_83 rfl ?_
            obtain ⟨x13, ex13, H⟩ := ok_bind H
            refine r_getI hZ fl_X12_107_11 dX12_readsStatement_84 ex13 ?_
            obtain ⟨h14, eh14, H⟩ := ok_bind H
            refine r_sI hZ dX12_readsStatement_87 eh14 ?_
            obtain ⟨x15, ex15, H⟩ := ok_bind H
            refine r_iincE (w := (J 1)) hZ dX12_readsStatement_88 (by decide) rfl (by decide) ex15 (r_pick [0, 2, 3] (ls' := [(0, .ref p0), (2, .int p2), (3, .int x15)]) rfl ?_)
            refine r_goto (tgt := 49) hZ dX12_readsStatement_91 (by decide) ?_
            exact r_pick [0, 2, 3] (ls' := [(0, .ref p0), (2, .int p2), (3, .int x15)]) rfl (ih _ (ki_l H))
          · have H := ok_t H c16
            exact r_pick [] (ls' := []) rfl (hx2 _ (ki_r H))
        · have H := ok_t H c17
          exact r_pick [] (ls' := []) rfl (hx1 _ (ki_r H))
def f_X12_readsStatement  (h : Hp) (a0 : Nat) : Option (Int32 × Hp) :=
  (isO h a0 11).bind fun u1 =>
  (f_X12_sign h a0).bind fun r2 =>
  (if r2 = (J 103) then
    (gI h a0 11 12).bind fun x3 =>
    (pF h a0 11 12 (.int (x3 + (J 1)))).bind fun h4 =>
    ((if r2 = (J 109) then
      some (J 2)
    else
      some (J 3))).bind fun (j5 : Int32) =>
    (some (J 0)).bind fun x7 =>
    (iter (b_X12_readsStatement_49 a0 j5) FU (x7, h4)).bind fun e8 =>
    (match e8 with
    | .inl e9 =>
      (isO e9 a0 11).bind fun u10 =>
      (f_X12_takes e9 a0 (J 59)).bind fun r11 =>
      (bz r11.1).bind fun u12 =>
      some (r11.1, r11.2)
    | .inr e15 =>
      (match e15 with
      | .inl e13 =>
        some ((J 0), e13)
      | .inr e14 =>
        some ((J 0), e14)))
  else
    (if r2 = (J 109) then
      (gI h a0 11 12).bind fun x16 =>
      (pF h a0 11 12 (.int (x16 + (J 1)))).bind fun h17 =>
      ((if r2 = (J 109) then
        some (J 2)
      else
        some (J 3))).bind fun (j18 : Int32) =>
      (some (J 0)).bind fun x20 =>
      (iter (b_X12_readsStatement_49 a0 j18) FU (x20, h17)).bind fun e21 =>
      (match e21 with
      | .inl e22 =>
        (isO e22 a0 11).bind fun u23 =>
        (f_X12_takes e22 a0 (J 59)).bind fun r24 =>
        (bz r24.1).bind fun u25 =>
        some (r24.1, r24.2)
      | .inr e28 =>
        (match e28 with
        | .inl e26 =>
          some ((J 0), e26)
        | .inr e27 =>
          some ((J 0), e27)))
    else
      (if r2 = (J 100) then
        (gI h a0 11 12).bind fun x29 =>
        (pF h a0 11 12 (.int (x29 + (J 1)))).bind fun h30 =>
        ((if r2 = (J 109) then
          some (J 2)
        else
          some (J 3))).bind fun (j31 : Int32) =>
        (some (J 0)).bind fun x33 =>
        (iter (b_X12_readsStatement_49 a0 j31) FU (x33, h30)).bind fun e34 =>
        (match e34 with
        | .inl e35 =>
          (isO e35 a0 11).bind fun u36 =>
          (f_X12_takes e35 a0 (J 59)).bind fun r37 =>
          (bz r37.1).bind fun u38 =>
          some (r37.1, r37.2)
        | .inr e41 =>
          (match e41 with
          | .inl e39 =>
            some ((J 0), e39)
          | .inr e40 =>
            some ((J 0), e40)))
      else
        some ((J 0), h))))
set_option maxRecDepth 100000 in
set_option maxHeartbeats 4000000 in
theorem s_X12_readsStatement {n : Nat} {h : Hp} {a0 : Nat}  {r : Int32 × Hp} (hf : f_X12_readsStatement  h a0 = some r) : Ev 4 yX12_readsStatement cX12_readsStatement 4 (some .boolean) [.ref a0] n h (some (.int r.1)) n r.2 := by
  refine Ev_of RX12 rfl (by decide) (Nat.le_of_ble_eq_true rfl) (Nat.le_refl _) (Or.inl rfl) (fun Z hZ hF hN hI => ?_)
  have H : Ok (f_X12_readsStatement  h a0) (fun y => y = r) := ⟨_, hf, rfl⟩
  unfold f_X12_readsStatement at H
  refine r_ls (ls' := [(0, .ref a0)]) rfl ?_
  refine r_aload_n hZ dX12_readsStatement_0 rfl ?_
  obtain ⟨u1, eu1, H⟩ := ok_bind H
  obtain ⟨r2, er2, H⟩ := ok_bind H
  refine r_callV (As := []) (rest := []) (st1 := [.int r2]) (N2 := 0) hZ dX12_readsStatement_1 cw_X12_99_X12 rfl eu1 (s_X12_sign er2) rfl rfl (by decide) (Nat.le_of_ble_eq_true rfl) (Nat.le_refl 0) (Nat.le_refl _) (Or.inl rfl) rfl ?_
  refine r_istore_n hZ dX12_readsStatement_4 (by decide) (r_pick [0, 1] (ls' := [(0, .ref a0), (1, .int r2)]) rfl ?_)
  refine r_iload_n hZ dX12_readsStatement_5 rfl ?_
  refine r_bipush (v := (J 103)) hZ dX12_readsStatement_6 (by decide) ?_
  refine r_icmp_eq (tgt := 25) hZ dX12_readsStatement_8 (by decide) (fun c44 => ?_) (fun c44 => ?_)
  · have H := ok_t H c44
    refine r_aload_n hZ dX12_readsStatement_25 rfl ?_
    refine r_dup_a hZ dX12_readsStatement_26 ?_
    obtain ⟨x3, ex3, H⟩ := ok_bind H
    refine r_getI hZ fl_X12_90_11 dX12_readsStatement_27 ex3 ?_
    refine r_iconst (v := (J 1)) hZ dX12_readsStatement_30 (by decide) ?_
    refine r_iadd hZ dX12_readsStatement_31 ?_
    obtain ⟨h4, eh4, H⟩ := ok_bind H
    refine r_putf hZ fl_X12_90_11 dX12_readsStatement_32 eh4 rfl rfl ?_
    refine r_iload_n hZ dX12_readsStatement_35 rfl ?_
    refine r_bipush (v := (J 109)) hZ dX12_readsStatement_36 (by decide) ?_
    refine ok_join (Q := fun j5 : Int32 => R Z 46 [(0, .ref a0)] [.int j5] n h4 0) H (fun j5 H => ?_) (fun H => ?_)
    · refine r_istore_n hZ dX12_readsStatement_46 (by decide) (r_pick [0, 2] (ls' := [(0, .ref a0), (2, .int j5)]) rfl ?_)
      refine r_iconst (v := (J 0)) hZ dX12_readsStatement_47 (by decide) ?_
      obtain ⟨x7, ex7, H⟩ := ok_bind H
      refine r_topi ex7 ?_
      refine r_istore_n hZ dX12_readsStatement_48 (by decide) (r_pick [0, 2, 3] (ls' := [(0, .ref a0), (2, .int j5), (3, .int x7)]) rfl ?_)
      have H := ok_bindK H
      refine r_pick [0, 2, 3] (ls' := [(0, .ref a0), (2, .int j5), (3, .int x7)]) rfl (l_X12_readsStatement_49 hZ (fun e9 H => ?_) (fun e13 H => ?_) (fun e14 H => ?_) FU _ H)
      · refine r_aload_n hZ dX12_readsStatement_94 rfl ?_
        refine r_bipush (v := (J 59)) hZ dX12_readsStatement_95 (by decide) ?_
        obtain ⟨u10, eu10, H⟩ := ok_bind H
        obtain ⟨r11, er11, H⟩ := ok_bind H
        refine r_callV (As := [.int (J 59)]) (rest := []) (st1 := [.int r11.1]) (N2 := 0) hZ dX12_readsStatement_97 cw_X12_110_X12 rfl eu10 (s_X12_takes er11) rfl rfl (by decide) (Nat.le_of_ble_eq_true rfl) (Nat.le_refl 0) (Nat.le_refl _) (Or.inl rfl) rfl ?_
        obtain ⟨u12, eu12, H⟩ := ok_bind H
        have H := ok_some H
        subst H
        exact r_zret hZ hF eu12 dX12_readsStatement_100
      · refine r_iconst (v := (J 0)) hZ dX12_readsStatement_67 (by decide) ?_
        have H := ok_some H
        subst H
        exact r_zret hZ hF (by decide) dX12_readsStatement_68
      · refine r_iconst (v := (J 0)) hZ dX12_readsStatement_76 (by decide) ?_
        have H := ok_some H
        subst H
        exact r_zret hZ hF (by decide) dX12_readsStatement_77
    · refine r_icmp_ne (tgt := 45) hZ dX12_readsStatement_38 (by decide) (fun c6 => ?_) (fun c6 => ?_)
      · have H := ok_f H c6
        refine r_iconst (v := (J 3)) hZ dX12_readsStatement_45 (by decide) ?_
        have H := ok_some H
        exact r_pick [0] (ls' := [(0, .ref a0)]) rfl H
      · have H := ok_t H c6
        refine r_iconst (v := (J 2)) hZ dX12_readsStatement_41 (by decide) ?_
        refine r_goto (tgt := 46) hZ dX12_readsStatement_42 (by decide) ?_
        have H := ok_some H
        exact r_pick [0] (ls' := [(0, .ref a0)]) rfl H
  · have H := ok_f H c44
    refine r_iload_n hZ dX12_readsStatement_11 rfl ?_
    refine r_bipush (v := (J 109)) hZ dX12_readsStatement_12 (by decide) ?_
    refine r_icmp_eq (tgt := 25) hZ dX12_readsStatement_14 (by decide) (fun c43 => ?_) (fun c43 => ?_)
    · have H := ok_t H c43
      refine r_aload_n hZ dX12_readsStatement_25 rfl ?_
      refine r_dup_a hZ dX12_readsStatement_26 ?_
      obtain ⟨x16, ex16, H⟩ := ok_bind H
      refine r_getI hZ fl_X12_90_11 dX12_readsStatement_27 ex16 ?_
      refine r_iconst (v := (J 1)) hZ dX12_readsStatement_30 (by decide) ?_
      refine r_iadd hZ dX12_readsStatement_31 ?_
      obtain ⟨h17, eh17, H⟩ := ok_bind H
      refine r_putf hZ fl_X12_90_11 dX12_readsStatement_32 eh17 rfl rfl ?_
      refine r_iload_n hZ dX12_readsStatement_35 rfl ?_
      refine r_bipush (v := (J 109)) hZ dX12_readsStatement_36 (by decide) ?_
      refine ok_join (Q := fun j18 : Int32 => R Z 46 [(0, .ref a0)] [.int j18] n h17 0) H (fun j18 H => ?_) (fun H => ?_)
      · refine r_istore_n hZ dX12_readsStatement_46 (by decide) (r_pick [0, 2] (ls' := [(0, .ref a0), (2, .int j18)]) rfl ?_)
        refine r_iconst (v := (J 0)) hZ dX12_readsStatement_47 (by decide) ?_
        obtain ⟨x20, ex20, H⟩ := ok_bind H
        refine r_topi ex20 ?_
        refine r_istore_n hZ dX12_readsStatement_48 (by decide) (r_pick [0, 2, 3] (ls' := [(0, .ref a0), (2, .int j18), (3, .int x20)]) rfl ?_)
        have H := ok_bindK H
        refine r_pick [0, 2, 3] (ls' := [(0, .ref a0), (2, .int j18), (3, .int x20)]) rfl (l_X12_readsStatement_49 hZ (fun e22 H => ?_) (fun e26 H => ?_) (fun e27 H => ?_) FU _ H)
        · refine r_aload_n hZ dX12_readsStatement_94 rfl ?_
          refine r_bipush (v := (J 59)) hZ dX12_readsStatement_95 (by decide) ?_
          obtain ⟨u23, eu23, H⟩ := ok_bind H
          obtain ⟨r24, er24, H⟩ := ok_bind H
          refine r_callV (As := [.int (J 59)]) (rest := []) (st1 := [.int r24.1]) (N2 := 0) hZ dX12_readsStatement_97 cw_X12_110_X12 rfl eu23 (s_X12_takes er24) rfl rfl (by decide) (Nat.le_of_ble_eq_true rfl) (Nat.le_refl 0) (Nat.le_refl _) (Or.inl rfl) rfl ?_
          obtain ⟨u25, eu25, H⟩ := ok_bind H
          have H := ok_some H
          subst H
          exact r_zret hZ hF eu25 dX12_readsStatement_100
        · refine r_iconst (v := (J 0)) hZ dX12_readsStatement_67 (by decide) ?_
          have H := ok_some H
          subst H
          exact r_zret hZ hF (by decide) dX12_readsStatement_68
        · refine r_iconst (v := (J 0)) hZ dX12_readsStatement_76 (by decide) ?_
          have H := ok_some H
          subst H
          exact r_zret hZ hF (by decide) dX12_readsStatement_77
      · refine r_icmp_ne (tgt := 45) hZ dX12_readsStatement_38 (by decide) (fun c19 => ?_) (fun c19 => ?_)
        · have H := ok_f H c19
          refine r_iconst (v := (J 3)) hZ dX12_readsStatement_45 (by decide) ?_
          have H := ok_some H
          exact r_pick [0] (ls' := [(0, .ref a0)]) rfl H
        · have H := ok_t H c19
          refine r_iconst (v := (J 2)) hZ dX12_readsStatement_41 (by decide) ?_
          refine r_goto (tgt := 46) hZ dX12_readsStatement_42 (by decide) ?_
          have H := ok_some H
          exact r_pick [0] (ls' := [(0, .ref a0)]) rfl H
    · have H := ok_f H c43
      refine r_iload_n hZ dX12_readsStatement_17 rfl ?_
      refine r_bipush (v := (J 100)) hZ dX12_readsStatement_18 (by decide) ?_
      refine r_icmp_eq (tgt := 25) hZ dX12_readsStatement_20 (by decide) (fun c42 => ?_) (fun c42 => ?_)
      · have H := ok_t H c42
        refine r_aload_n hZ dX12_readsStatement_25 rfl ?_
        refine r_dup_a hZ dX12_readsStatement_26 ?_
        obtain ⟨x29, ex29, H⟩ := ok_bind H
        refine r_getI hZ fl_X12_90_11 dX12_readsStatement_27 ex29 ?_
        refine r_iconst (v := (J 1)) hZ dX12_readsStatement_30 (by decide) ?_
        refine r_iadd hZ dX12_readsStatement_31 ?_
        obtain ⟨h30, eh30, H⟩ := ok_bind H
        refine r_putf hZ fl_X12_90_11 dX12_readsStatement_32 eh30 rfl rfl ?_
        refine r_iload_n hZ dX12_readsStatement_35 rfl ?_
        refine r_bipush (v := (J 109)) hZ dX12_readsStatement_36 (by decide) ?_
        refine ok_join (Q := fun j31 : Int32 => R Z 46 [(0, .ref a0)] [.int j31] n h30 0) H (fun j31 H => ?_) (fun H => ?_)
        · refine r_istore_n hZ dX12_readsStatement_46 (by decide) (r_pick [0, 2] (ls' := [(0, .ref a0), (2, .int j31)]) rfl ?_)
          refine r_iconst (v := (J 0)) hZ dX12_readsStatement_47 (by decide) ?_
          obtain ⟨x33, ex33, H⟩ := ok_bind H
          refine r_topi ex33 ?_
          refine r_istore_n hZ dX12_readsStatement_48 (by decide) (r_pick [0, 2, 3] (ls' := [(0, .ref a0), (2, .int j31), (3, .int x33)]) rfl ?_)
          have H := ok_bindK H
          refine r_pick [0, 2, 3] (ls' := [(0, .ref a0), (2, .int j31), (3, .int x33)]) rfl (l_X12_readsStatement_49 hZ (fun e35 H => ?_) (fun e39 H => ?_) (fun e40 H => ?_) FU _ H)
          · refine r_aload_n hZ dX12_readsStatement_94 rfl ?_
            refine r_bipush (v := (J 59)) hZ dX12_readsStatement_95 (by decide) ?_
            obtain ⟨u36, eu36, H⟩ := ok_bind H
            obtain ⟨r37, er37, H⟩ := ok_bind H
            refine r_callV (As := [.int (J 59)]) (rest := []) (st1 := [.int r37.1]) (N2 := 0) hZ dX12_readsStatement_97 cw_X12_110_X12 rfl eu36 (s_X12_takes er37) rfl rfl (by decide) (Nat.le_of_ble_eq_true rfl) (Nat.le_refl 0) (Nat.le_refl _) (Or.inl rfl) rfl ?_
            obtain ⟨u38, eu38, H⟩ := ok_bind H
            have H := ok_some H
            subst H
            exact r_zret hZ hF eu38 dX12_readsStatement_100
          · refine r_iconst (v := (J 0)) hZ dX12_readsStatement_67 (by decide) ?_
            have H := ok_some H
            subst H
            exact r_zret hZ hF (by decide) dX12_readsStatement_68
          · refine r_iconst (v := (J 0)) hZ dX12_readsStatement_76 (by decide) ?_
            have H := ok_some H
            subst H
            exact r_zret hZ hF (by decide) dX12_readsStatement_77
        · refine r_icmp_ne (tgt := 45) hZ dX12_readsStatement_38 (by decide) (fun c32 => ?_) (fun c32 => ?_)
          · have H := ok_f H c32
            refine r_iconst (v := (J 3)) hZ dX12_readsStatement_45 (by decide) ?_
            have H := ok_some H
            exact r_pick [0] (ls' := [(0, .ref a0)]) rfl H
          · have H := ok_t H c32
            refine r_iconst (v := (J 2)) hZ dX12_readsStatement_41 (by decide) ?_
            refine r_goto (tgt := 46) hZ dX12_readsStatement_42 (by decide) ?_
            have H := ok_some H
            exact r_pick [0] (ls' := [(0, .ref a0)]) rfl H
      · have H := ok_f H c42
        refine r_iconst (v := (J 0)) hZ dX12_readsStatement_23 (by decide) ?_
        have H := ok_some H
        subst H
        exact r_zret hZ hF (by decide) dX12_readsStatement_24
def b_X12_between_2 (h : Hp) (p0 : Nat) (p1 : Int32) (p2 : Int32) (s : Int32) : Option ((Int32) ⊕ ((Unit) ⊕ (Int32))) :=
  (gR h p0 11 1).bind fun x1 =>
  (aI h x1 (J 1741)).bind fun x2 =>
  (if x2 ≤ s then
    some (.inr (.inl ()))
  else
    (isO h p0 11).bind fun u3 =>
    (f_X12_meshOf h p0 s (J 0)).bind fun r4 =>
    (if r4 = p1 then
      (isO h p0 11).bind fun u13 =>
      (f_X12_meshOf h p0 s (J 1)).bind fun r14 =>
      (if r14 = p2 then
        some (.inr (.inr s))
      else
        (isO h p0 11).bind fun u15 =>
        (f_X12_meshOf h p0 s (J 0)).bind fun r16 =>
        (if r16 = p2 then
          (isO h p0 11).bind fun u18 =>
          (f_X12_meshOf h p0 s (J 1)).bind fun r19 =>
          (if r19 = p1 then
            some (.inr (.inr s))
          else
            (some (s + (J 1))).bind fun x20 =>
            some (.inl x20))
        else
          (some (s + (J 1))).bind fun x17 =>
          some (.inl x17)))
    else
      (isO h p0 11).bind fun u5 =>
      (f_X12_meshOf h p0 s (J 0)).bind fun r6 =>
      (if r6 = p2 then
        (isO h p0 11).bind fun u8 =>
        (f_X12_meshOf h p0 s (J 1)).bind fun r9 =>
        (if r9 = p1 then
          some (.inr (.inr s))
        else
          (some (s + (J 1))).bind fun x10 =>
          some (.inl x10))
      else
        (some (s + (J 1))).bind fun x7 =>
        some (.inl x7))))
set_option maxRecDepth 100000 in
set_option maxHeartbeats 4000000 in
theorem l_X12_between_2 {Z : Zc} (hZ : Fx cX12_between RX12 4 3 0 Z) {n : Nat} {h : Hp} {p0 : Nat} {p1 : Int32} {p2 : Int32} {P : ((Unit) ⊕ (Int32)) → Prop} (hx0 : ∀ e : Unit, P (.inl e) → R Z 62 [] [] n h 0) (hx1 : ∀ e : Int32, P (.inr e) → R Z 54 [(3, .int e)] [] n h 0) : ∀ (m : Nat) (s : Int32), Ok (iter (b_X12_between_2 h p0 p1 p2) m s) P → R Z 2 [(0, .ref p0), (1, .int p1), (2, .int p2), (3, .int s)] [] n h 0 := by
  intro m
  induction m with
  | zero => exact fun s H => ok_iter0 H
  | succ m ih =>
    intro s H
    have H := ok_iter H
    unfold b_X12_between_2 at H
    refine r_iload_n hZ dX12_between_2 rfl ?_
    refine r_aload_n hZ dX12_between_3 rfl ?_
    obtain ⟨x1, ex1, H⟩ := ok_bind H
    refine r_getR hZ fl_X12_13_11 dX12_between_4 ex1 ?_
    refine r_sipush (v := (J 1741)) hZ dX12_between_7 (by decide) ?_
    obtain ⟨x2, ex2, H⟩ := ok_bind H
    refine r_aI hZ dX12_between_10 ex2 ?_
    refine r_icmp_ge (tgt := 62) hZ dX12_between_11 (by decide) (fun c25 => ?_) (fun c25 => ?_)
    · have H := ok_t H c25
      exact r_pick [] (ls' := []) rfl (hx0 _ (ki_r H))
    · have H := ok_f H c25
      refine r_aload_n hZ dX12_between_14 rfl ?_
      refine r_iload_n hZ dX12_between_15 rfl ?_
      refine r_iconst (v := (J 0)) hZ dX12_between_16 (by decide) ?_
      obtain ⟨u3, eu3, H⟩ := ok_bind H
      obtain ⟨r4, er4, H⟩ := ok_bind H
      refine r_callV (As := [.int s, .int (J 0)]) (rest := []) (st1 := [.int r4]) (N2 := 0) hZ dX12_between_17 cw_X12_118_X12 rfl eu3 (s_X12_meshOf er4) rfl rfl (by decide) (Nat.le_of_ble_eq_true rfl) (Nat.le_refl 0) (Nat.le_refl _) (Or.inl rfl) rfl ?_
      refine r_iload_n hZ dX12_between_20 rfl ?_
      refine r_icmp_ne (tgt := 34) hZ dX12_between_21 (by decide) (fun c24 => ?_) (fun c24 => ?_)
      · have H := ok_f H c24
        refine r_aload_n hZ dX12_between_34 rfl ?_
        refine r_iload_n hZ dX12_between_35 rfl ?_
        refine r_iconst (v := (J 0)) hZ dX12_between_36 (by decide) ?_
        obtain ⟨u5, eu5, H⟩ := ok_bind H
        obtain ⟨r6, er6, H⟩ := ok_bind H
        refine r_callV (As := [.int s, .int (J 0)]) (rest := []) (st1 := [.int r6]) (N2 := 0) hZ dX12_between_37 cw_X12_118_X12 rfl eu5 (s_X12_meshOf er6) rfl rfl (by decide) (Nat.le_of_ble_eq_true rfl) (Nat.le_refl 0) (Nat.le_refl _) (Or.inl rfl) rfl ?_
        refine r_iload_n hZ dX12_between_40 rfl ?_
        refine r_icmp_ne (tgt := 56) hZ dX12_between_41 (by decide) (fun c12 => ?_) (fun c12 => ?_)
        · have H := ok_f H c12
          obtain ⟨x7, ex7, H⟩ := ok_bind H
          refine r_iincE (w := (J 1)) hZ dX12_between_56 (by decide) rfl (by decide) ex7 (r_pick [0, 1, 2, 3] (ls' := [(0, .ref p0), (1, .int p1), (2, .int p2), (3, .int x7)]) rfl ?_)
          refine r_goto (tgt := 2) hZ dX12_between_59 (by decide) ?_
          exact r_pick [0, 1, 2, 3] (ls' := [(0, .ref p0), (1, .int p1), (2, .int p2), (3, .int x7)]) rfl (ih _ (ki_l H))
        · have H := ok_t H c12
          refine r_aload_n hZ dX12_between_44 rfl ?_
          refine r_iload_n hZ dX12_between_45 rfl ?_
          refine r_iconst (v := (J 1)) hZ dX12_between_46 (by decide) ?_
          obtain ⟨u8, eu8, H⟩ := ok_bind H
          obtain ⟨r9, er9, H⟩ := ok_bind H
          refine r_callV (As := [.int s, .int (J 1)]) (rest := []) (st1 := [.int r9]) (N2 := 0) hZ dX12_between_47 cw_X12_118_X12 rfl eu8 (s_X12_meshOf er9) rfl rfl (by decide) (Nat.le_of_ble_eq_true rfl) (Nat.le_refl 0) (Nat.le_refl _) (Or.inl rfl) rfl ?_
          refine r_iload_n hZ dX12_between_50 rfl ?_
          refine r_icmp_ne (tgt := 56) hZ dX12_between_51 (by decide) (fun c11 => ?_) (fun c11 => ?_)
          · have H := ok_f H c11
            obtain ⟨x10, ex10, H⟩ := ok_bind H
            refine r_iincE (w := (J 1)) hZ dX12_between_56 (by decide) rfl (by decide) ex10 (r_pick [0, 1, 2, 3] (ls' := [(0, .ref p0), (1, .int p1), (2, .int p2), (3, .int x10)]) rfl ?_)
            refine r_goto (tgt := 2) hZ dX12_between_59 (by decide) ?_
            exact r_pick [0, 1, 2, 3] (ls' := [(0, .ref p0), (1, .int p1), (2, .int p2), (3, .int x10)]) rfl (ih _ (ki_l H))
          · have H := ok_t H c11
            exact r_pick [3] (ls' := [(3, .int s)]) rfl (hx1 _ (ki_r H))
      · have H := ok_t H c24
        refine r_aload_n hZ dX12_between_24 rfl ?_
        refine r_iload_n hZ dX12_between_25 rfl ?_
        refine r_iconst (v := (J 1)) hZ dX12_between_26 (by decide) ?_
        obtain ⟨u13, eu13, H⟩ := ok_bind H
        obtain ⟨r14, er14, H⟩ := ok_bind H
        refine r_callV (As := [.int s, .int (J 1)]) (rest := []) (st1 := [.int r14]) (N2 := 0) hZ dX12_between_27 cw_X12_118_X12 rfl eu13 (s_X12_meshOf er14) rfl rfl (by decide) (Nat.le_of_ble_eq_true rfl) (Nat.le_refl 0) (Nat.le_refl _) (Or.inl rfl) rfl ?_
        refine r_iload_n hZ dX12_between_30 rfl ?_
        refine r_icmp_eq (tgt := 54) hZ dX12_between_31 (by decide) (fun c23 => ?_) (fun c23 => ?_)
        · have H := ok_t H c23
          exact r_pick [3] (ls' := [(3, .int s)]) rfl (hx1 _ (ki_r H))
        · have H := ok_f H c23
          refine r_aload_n hZ dX12_between_34 rfl ?_
          refine r_iload_n hZ dX12_between_35 rfl ?_
          refine r_iconst (v := (J 0)) hZ dX12_between_36 (by decide) ?_
          obtain ⟨u15, eu15, H⟩ := ok_bind H
          obtain ⟨r16, er16, H⟩ := ok_bind H
          refine r_callV (As := [.int s, .int (J 0)]) (rest := []) (st1 := [.int r16]) (N2 := 0) hZ dX12_between_37 cw_X12_118_X12 rfl eu15 (s_X12_meshOf er16) rfl rfl (by decide) (Nat.le_of_ble_eq_true rfl) (Nat.le_refl 0) (Nat.le_refl _) (Or.inl rfl) rfl ?_
          refine r_iload_n hZ dX12_between_40 rfl ?_
          refine r_icmp_ne (tgt := 56) hZ dX12_between_41 (by decide) (fun c22 => ?_) (fun c22 => ?_)
          · have H := ok_f H c22
            obtain ⟨x17, ex17, H⟩ := ok_bind H
            refine r_iincE (w := (J 1)) hZ dX12_between_56 (by decide) rfl (by decide) ex17 (r_pick [0, 1, 2, 3] (ls' := [(0, .ref p0), (1, .int p1), (2, .int p2), (3, .int x17)]) rfl ?_)
            refine r_goto (tgt := 2) hZ dX12_between_59 (by decide) ?_
            exact r_pick [0, 1, 2, 3] (ls' := [(0, .ref p0), (1, .int p1), (2, .int p2), (3, .int x17)]) rfl (ih _ (ki_l H))
          · have H := ok_t H c22
            refine r_aload_n hZ dX12_between_44 rfl ?_
            refine r_iload_n hZ dX12_between_45 rfl ?_
            refine r_iconst (v := (J 1)) hZ dX12_between_46 (by decide) ?_
            obtain ⟨u18, eu18, H⟩ := ok_bind H
            obtain ⟨r19, er19, H⟩ := ok_bind H
            refine r_callV (As := [.int s, .int (J 1)]) (rest := []) (st1 := [.int r19]) (N2 := 0) hZ dX12_between_47 cw_X12_118_X12 rfl eu18 (s_X12_meshOf er19) rfl rfl (by decide) (Nat.le_of_ble_eq_true rfl) (Nat.le_refl 0) (Nat.le_refl _) (Or.inl rfl) rfl ?_
            refine r_iload_n hZ dX12_between_50 rfl ?_
            refine r_icmp_ne (tgt := 56) hZ dX12_between_51 (by decide) (fun c21 => ?_) (fun c21 => ?_)
            · have H := ok_f H c21
              obtain ⟨x20, ex20, H⟩ := ok_bind H
              refine r_iincE (w := (J 1)) hZ dX12_between_56 (by decide) rfl (by decide) ex20 (r_pick [0, 1, 2, 3] (ls' := [(0, .ref p0), (1, .int p1), (2, .int p2), (3, .int x20)]) rfl ?_)
              refine r_goto (tgt := 2) hZ dX12_between_59 (by decide) ?_
              exact r_pick [0, 1, 2, 3] (ls' := [(0, .ref p0), (1, .int p1), (2, .int p2), (3, .int x20)]) rfl (ih _ (ki_l H))
            · have H := ok_t H c21
              exact r_pick [3] (ls' := [(3, .int s)]) rfl (hx1 _ (ki_r H))
def f_X12_between  (h : Hp) (a0 : Nat) (a1 : Int32) (a2 : Int32) : Option (Int32) :=
  (some (J 0)).bind fun x1 =>
  (iter (b_X12_between_2 h a0 a1 a2) FU x1).bind fun e2 =>
  (match e2 with
  | .inl e3 =>
    some (J (-1))
  | .inr e4 =>
    some e4)
set_option maxRecDepth 100000 in
set_option maxHeartbeats 4000000 in
theorem s_X12_between {n : Nat} {h : Hp} {a0 : Nat} {a1 : Int32} {a2 : Int32}  {r : Int32} (hf : f_X12_between  h a0 a1 a2 = some r) : Ev 3 yX12_between cX12_between 4 (some .int) [.ref a0, .int a1, .int a2] n h (some (.int r)) n h := by
  refine Ev_of RX12 rfl (by decide) (Nat.le_of_ble_eq_true rfl) (Nat.le_refl _) (Or.inl rfl) (fun Z hZ hF hN hI => ?_)
  have H : Ok (f_X12_between  h a0 a1 a2) (fun y => y = r) := ⟨_, hf, rfl⟩
  unfold f_X12_between at H
  refine r_ls (ls' := [(0, .ref a0), (1, .int a1), (2, .int a2)]) rfl ?_
  refine r_iconst (v := (J 0)) hZ dX12_between_0 (by decide) ?_
  obtain ⟨x1, ex1, H⟩ := ok_bind H
  refine r_topi ex1 ?_
  refine r_istore_n hZ dX12_between_1 (by decide) (r_pick [0, 1, 2, 3] (ls' := [(0, .ref a0), (1, .int a1), (2, .int a2), (3, .int x1)]) rfl ?_)
  have H := ok_bindK H
  refine r_pick [0, 1, 2, 3] (ls' := [(0, .ref a0), (1, .int a1), (2, .int a2), (3, .int x1)]) rfl (l_X12_between_2 hZ (fun e3 H => ?_) (fun e4 H => ?_) FU _ H)
  · refine r_iconst (v := (J (-1))) hZ dX12_between_62 (by decide) ?_
    have H := ok_some H
    subst H
    exact r_iret hZ hF dX12_between_63
  · refine r_iload_n hZ dX12_between_54 rfl ?_
    have H := ok_some H
    subst H
    exact r_iret hZ hF dX12_between_55
def b_X12_makesGear_50 (p0 : Nat) (p1 : Int32) (s : Int32 × Hp) : Option ((Int32 × Hp) ⊕ ((Hp))) :=
  (if (J 19) ≤ s.1 then
    some (.inr (s.2))
  else
    (gR s.2 p0 11 1).bind fun x1 =>
    ((if (J 3) ≤ s.1 then
      some (J 31)
    else
      (gR s.2 p0 11 17).bind fun x3 =>
      (aI s.2 x3 s.1).bind fun x4 =>
      some x4)).bind fun (j2 : Int32) =>
    (sI s.2 x1 (((J 19) * p1) + s.1) j2).bind fun h6 =>
    (some (s.1 + (J 1))).bind fun x7 =>
    some (.inl (x7, h6)))
set_option maxRecDepth 100000 in
set_option maxHeartbeats 4000000 in
theorem l_X12_makesGear_50 {Z : Zc} (hZ : Fx cX12_makesGear RX12 3 2 0 Z) {n : Nat} {p0 : Nat} {p1 : Int32} {P : ((Hp)) → Prop} (hx0 : ∀ e : Hp, P (e) → R Z 89 [(0, .ref p0)] [] n e 0) : ∀ (m : Nat) (s : Int32 × Hp), Ok (iter (b_X12_makesGear_50 p0 p1) m s) P → R Z 50 [(0, .ref p0), (1, .int p1), (2, .int s.1)] [] n s.2 0 := by
  intro m
  induction m with
  | zero => exact fun s H => ok_iter0 H
  | succ m ih =>
    intro s H
    have H := ok_iter H
    unfold b_X12_makesGear_50 at H
    refine r_iload_n hZ dX12_makesGear_50 rfl ?_
    refine r_bipush (v := (J 19)) hZ dX12_makesGear_51 (by decide) ?_
    refine r_icmp_ge (tgt := 89) hZ dX12_makesGear_53 (by decide) (fun c8 => ?_) (fun c8 => ?_)
    · have H := ok_t H c8
      exact r_pick [0] (ls' := [(0, .ref p0)]) rfl (hx0 _ (ki_r H))
    · have H := ok_f H c8
      refine r_aload_n hZ dX12_makesGear_56 rfl ?_
      obtain ⟨x1, ex1, H⟩ := ok_bind H
      refine r_getR hZ fl_X12_13_11 dX12_makesGear_57 ex1 ?_
      refine r_bipush (v := (J 19)) hZ dX12_makesGear_60 (by decide) ?_
      refine r_iload_n hZ dX12_makesGear_62 rfl ?_
      refine r_imul hZ dX12_makesGear_63 ?_
      refine r_iload_n hZ dX12_makesGear_64 rfl ?_
      refine r_iadd hZ dX12_makesGear_65 ?_
      refine r_iload_n hZ dX12_makesGear_66 rfl ?_
      refine r_iconst (v := (J 3)) hZ dX12_makesGear_67 (by decide) ?_
      refine ok_join (Q := fun j2 : Int32 => R Z 82 [(0, .ref p0), (1, .int p1), (2, .int s.1)] [.int j2, .int (((J 19) * p1) + s.1), .ref x1] n s.2 0) H (fun j2 H => ?_) (fun H => ?_)
      · obtain ⟨h6, eh6, H⟩ := ok_bind H
        refine r_sI hZ dX12_makesGear_82 eh6 ?_
        obtain ⟨x7, ex7, H⟩ := ok_bind H
        refine r_iincE (w := (J 1)) hZ dX12_makesGear_83 (by decide) rfl (by decide) ex7 (r_pick [0, 1, 2] (ls' := [(0, .ref p0), (1, .int p1), (2, .int x7)]) rfl ?_)
        refine r_goto (tgt := 50) hZ dX12_makesGear_86 (by decide) ?_
        exact r_pick [0, 1, 2] (ls' := [(0, .ref p0), (1, .int p1), (2, .int x7)]) rfl (ih _ (ki_l H))
      · refine r_icmp_ge (tgt := 80) hZ dX12_makesGear_68 (by decide) (fun c5 => ?_) (fun c5 => ?_)
        · have H := ok_t H c5
          refine r_bipush (v := (J 31)) hZ dX12_makesGear_80 (by decide) ?_
          have H := ok_some H
          exact r_pick [0, 1, 2] (ls' := [(0, .ref p0), (1, .int p1), (2, .int s.1)]) rfl H
        · have H := ok_f H c5
          refine r_aload_n hZ dX12_makesGear_71 rfl ?_
          obtain ⟨x3, ex3, H⟩ := ok_bind H
          refine r_getR hZ fl_X12_43_11 dX12_makesGear_72 ex3 ?_
          refine r_iload_n hZ dX12_makesGear_75 rfl ?_
          obtain ⟨x4, ex4, H⟩ := ok_bind H
          refine r_aI hZ dX12_makesGear_76 ex4 ?_
          refine r_goto (tgt := 82) hZ dX12_makesGear_77 (by decide) ?_
          have H := ok_some H
          exact r_pick [0, 1, 2] (ls' := [(0, .ref p0), (1, .int p1), (2, .int s.1)]) rfl H
def f_X12_makesGear  (h : Hp) (a0 : Nat) : Option (Int32 × Hp) :=
  (gR h a0 11 1).bind fun x1 =>
  (aI h x1 (J 1740)).bind fun x2 =>
  (if x2 = (J 12) then
    some ((J 0), h)
  else
    (gR h a0 11 17).bind fun x3 =>
    (aI h x3 (J 0)).bind fun x4 =>
    (if (J 4) < x4 then
      some ((J 0), h)
    else
      (gR h a0 11 17).bind fun x5 =>
      (aI h x5 (J 1)).bind fun x6 =>
      (if x6 < (J 4) then
        some ((J 0), h)
      else
        (gR h a0 11 17).bind fun x7 =>
        (aI h x7 (J 2)).bind fun x8 =>
        (if x8 ≤ (J 7) then
          (some (J 0)).bind fun x9 =>
          (iter (b_X12_makesGear_50 a0 x2) FU (x9, h)).bind fun e10 =>
          (gR e10 a0 11 1).bind fun x11 =>
          (some (J 1740)).bind fun x12 =>
          (aI e10 x11 x12).bind fun x13 =>
          (sI e10 x11 x12 (x13 + (J 1))).bind fun h14 =>
          some ((J 1), h14)
        else
          some ((J 0), h)))))
set_option maxRecDepth 100000 in
set_option maxHeartbeats 4000000 in
theorem s_X12_makesGear {n : Nat} {h : Hp} {a0 : Nat}  {r : Int32 × Hp} (hf : f_X12_makesGear  h a0 = some r) : Ev 2 yX12_makesGear cX12_makesGear 3 (some .boolean) [.ref a0] n h (some (.int r.1)) n r.2 := by
  refine Ev_of RX12 rfl (by decide) (Nat.le_of_ble_eq_true rfl) (Nat.le_refl _) (Or.inl rfl) (fun Z hZ hF hN hI => ?_)
  have H : Ok (f_X12_makesGear  h a0) (fun y => y = r) := ⟨_, hf, rfl⟩
  unfold f_X12_makesGear at H
  refine r_ls (ls' := [(0, .ref a0)]) rfl ?_
  refine r_aload_n hZ dX12_makesGear_0 rfl ?_
  obtain ⟨x1, ex1, H⟩ := ok_bind H
  refine r_getR hZ fl_X12_13_11 dX12_makesGear_1 ex1 ?_
  refine r_sipush (v := (J 1740)) hZ dX12_makesGear_4 (by decide) ?_
  obtain ⟨x2, ex2, H⟩ := ok_bind H
  refine r_aI hZ dX12_makesGear_7 ex2 ?_
  refine r_istore_n hZ dX12_makesGear_8 (by decide) (r_pick [0, 1] (ls' := [(0, .ref a0), (1, .int x2)]) rfl ?_)
  refine r_iload_n hZ dX12_makesGear_9 rfl ?_
  refine r_bipush (v := (J 12)) hZ dX12_makesGear_10 (by decide) ?_
  refine r_icmp_eq (tgt := 46) hZ dX12_makesGear_12 (by decide) (fun c18 => ?_) (fun c18 => ?_)
  · have H := ok_t H c18
    refine r_iconst (v := (J 0)) hZ dX12_makesGear_46 (by decide) ?_
    have H := ok_some H
    subst H
    exact r_zret hZ hF (by decide) dX12_makesGear_47
  · have H := ok_f H c18
    refine r_aload_n hZ dX12_makesGear_15 rfl ?_
    obtain ⟨x3, ex3, H⟩ := ok_bind H
    refine r_getR hZ fl_X12_43_11 dX12_makesGear_16 ex3 ?_
    refine r_iconst (v := (J 0)) hZ dX12_makesGear_19 (by decide) ?_
    obtain ⟨x4, ex4, H⟩ := ok_bind H
    refine r_aI hZ dX12_makesGear_20 ex4 ?_
    refine r_iconst (v := (J 4)) hZ dX12_makesGear_21 (by decide) ?_
    refine r_icmp_gt (tgt := 46) hZ dX12_makesGear_22 (by decide) (fun c17 => ?_) (fun c17 => ?_)
    · have H := ok_t H c17
      refine r_iconst (v := (J 0)) hZ dX12_makesGear_46 (by decide) ?_
      have H := ok_some H
      subst H
      exact r_zret hZ hF (by decide) dX12_makesGear_47
    · have H := ok_f H c17
      refine r_aload_n hZ dX12_makesGear_25 rfl ?_
      obtain ⟨x5, ex5, H⟩ := ok_bind H
      refine r_getR hZ fl_X12_43_11 dX12_makesGear_26 ex5 ?_
      refine r_iconst (v := (J 1)) hZ dX12_makesGear_29 (by decide) ?_
      obtain ⟨x6, ex6, H⟩ := ok_bind H
      refine r_aI hZ dX12_makesGear_30 ex6 ?_
      refine r_iconst (v := (J 4)) hZ dX12_makesGear_31 (by decide) ?_
      refine r_icmp_lt (tgt := 46) hZ dX12_makesGear_32 (by decide) (fun c16 => ?_) (fun c16 => ?_)
      · have H := ok_t H c16
        refine r_iconst (v := (J 0)) hZ dX12_makesGear_46 (by decide) ?_
        have H := ok_some H
        subst H
        exact r_zret hZ hF (by decide) dX12_makesGear_47
      · have H := ok_f H c16
        refine r_aload_n hZ dX12_makesGear_35 rfl ?_
        obtain ⟨x7, ex7, H⟩ := ok_bind H
        refine r_getR hZ fl_X12_43_11 dX12_makesGear_36 ex7 ?_
        refine r_iconst (v := (J 2)) hZ dX12_makesGear_39 (by decide) ?_
        obtain ⟨x8, ex8, H⟩ := ok_bind H
        refine r_aI hZ dX12_makesGear_40 ex8 ?_
        refine r_bipush (v := (J 7)) hZ dX12_makesGear_41 (by decide) ?_
        refine r_icmp_le (tgt := 48) hZ dX12_makesGear_43 (by decide) (fun c15 => ?_) (fun c15 => ?_)
        · have H := ok_t H c15
          refine r_iconst (v := (J 0)) hZ dX12_makesGear_48 (by decide) ?_
          obtain ⟨x9, ex9, H⟩ := ok_bind H
          refine r_topi ex9 ?_
          refine r_istore_n hZ dX12_makesGear_49 (by decide) (r_pick [0, 1, 2] (ls' := [(0, .ref a0), (1, .int x2), (2, .int x9)]) rfl ?_)
          have H := ok_bindK H
          refine r_pick [0, 1, 2] (ls' := [(0, .ref a0), (1, .int x2), (2, .int x9)]) rfl (l_X12_makesGear_50 hZ (fun e10 H => ?_) FU _ H)
          · refine r_aload_n hZ dX12_makesGear_89 rfl ?_
            obtain ⟨x11, ex11, H⟩ := ok_bind H
            refine r_getR hZ fl_X12_13_11 dX12_makesGear_90 ex11 ?_
            refine r_sipush (v := (J 1740)) hZ dX12_makesGear_93 (by decide) ?_
            obtain ⟨x12, ex12, H⟩ := ok_bind H
            refine r_topi ex12 ?_
            refine r_dup2_ia hZ dX12_makesGear_96 ?_
            obtain ⟨x13, ex13, H⟩ := ok_bind H
            refine r_aI hZ dX12_makesGear_97 ex13 ?_
            refine r_iconst (v := (J 1)) hZ dX12_makesGear_98 (by decide) ?_
            refine r_iadd hZ dX12_makesGear_99 ?_
            obtain ⟨h14, eh14, H⟩ := ok_bind H
            refine r_sI hZ dX12_makesGear_100 eh14 ?_
            refine r_iconst (v := (J 1)) hZ dX12_makesGear_101 (by decide) ?_
            have H := ok_some H
            subst H
            exact r_zret hZ hF (by decide) dX12_makesGear_102
        · have H := ok_f H c15
          refine r_iconst (v := (J 0)) hZ dX12_makesGear_46 (by decide) ?_
          have H := ok_some H
          subst H
          exact r_zret hZ hF (by decide) dX12_makesGear_47
def f_X12_makesMesh  (h : Hp) (a0 : Nat) : Option (Int32 × Hp) :=
  (gR h a0 11 17).bind fun x1 =>
  (aI h x1 (J 0)).bind fun x2 =>
  (gR h a0 11 17).bind fun x3 =>
  (aI h x3 (J 1)).bind fun x4 =>
  (gR h a0 11 1).bind fun x5 =>
  (aI h x5 (J 1741)).bind fun x6 =>
  (if x6 = (J 16) then
    some ((J 0), h)
  else
    (isO h a0 11).bind fun u7 =>
    (f_X12_isGear h a0 x2).bind fun r8 =>
    (if r8 = 0 then
      some ((J 0), h)
    else
      (isO h a0 11).bind fun u9 =>
      (f_X12_isGear h a0 x4).bind fun r10 =>
      (if r10 = 0 then
        some ((J 0), h)
      else
        (if x2 = x4 then
          some ((J 0), h)
        else
          (isO h a0 11).bind fun u11 =>
          (f_X12_kind h a0 x2).bind fun r12 =>
          (if r12 = (J 4) then
            (isO h a0 11).bind fun u29 =>
            (f_X12_kind h a0 x4).bind fun r30 =>
            (if r30 = (J 4) then
              some ((J 0), h)
            else
              (isO h a0 11).bind fun u31 =>
              (f_X12_between h a0 x2 x4).bind fun r32 =>
              (if r32 < 0 then
                (gR h a0 11 1).bind fun x33 =>
                (aI h x33 (J 1741)).bind fun x34 =>
                (some ((J 228) + ((J 3) * x34))).bind fun x35 =>
                (gR h a0 11 1).bind fun x36 =>
                (sI h x36 x35 x2).bind fun h37 =>
                (gR h37 a0 11 1).bind fun x38 =>
                (sI h37 x38 (x35 + (J 1)) x4).bind fun h39 =>
                (gR h39 a0 11 1).bind fun x40 =>
                (sI h39 x40 (x35 + (J 2)) (J 62)).bind fun h41 =>
                (gR h41 a0 11 1).bind fun x42 =>
                (some (J 1741)).bind fun x43 =>
                (aI h41 x42 x43).bind fun x44 =>
                (sI h41 x42 x43 (x44 + (J 1))).bind fun h45 =>
                some ((J 1), h45)
              else
                some ((J 0), h)))
          else
            (isO h a0 11).bind fun u13 =>
            (f_X12_between h a0 x2 x4).bind fun r14 =>
            (if r14 < 0 then
              (gR h a0 11 1).bind fun x15 =>
              (aI h x15 (J 1741)).bind fun x16 =>
              (some ((J 228) + ((J 3) * x16))).bind fun x17 =>
              (gR h a0 11 1).bind fun x18 =>
              (sI h x18 x17 x2).bind fun h19 =>
              (gR h19 a0 11 1).bind fun x20 =>
              (sI h19 x20 (x17 + (J 1)) x4).bind fun h21 =>
              (gR h21 a0 11 1).bind fun x22 =>
              (sI h21 x22 (x17 + (J 2)) (J 62)).bind fun h23 =>
              (gR h23 a0 11 1).bind fun x24 =>
              (some (J 1741)).bind fun x25 =>
              (aI h23 x24 x25).bind fun x26 =>
              (sI h23 x24 x25 (x26 + (J 1))).bind fun h27 =>
              some ((J 1), h27)
            else
              some ((J 0), h)))))))
set_option maxRecDepth 100000 in
set_option maxHeartbeats 4000000 in
theorem s_X12_makesMesh {n : Nat} {h : Hp} {a0 : Nat}  {r : Int32 × Hp} (hf : f_X12_makesMesh  h a0 = some r) : Ev 4 yX12_makesMesh cX12_makesMesh 4 (some .boolean) [.ref a0] n h (some (.int r.1)) n r.2 := by
  refine Ev_of RX12 rfl (by decide) (Nat.le_of_ble_eq_true rfl) (Nat.le_refl _) (Or.inl rfl) (fun Z hZ hF hN hI => ?_)
  have H : Ok (f_X12_makesMesh  h a0) (fun y => y = r) := ⟨_, hf, rfl⟩
  unfold f_X12_makesMesh at H
  refine r_ls (ls' := [(0, .ref a0)]) rfl ?_
  refine r_aload_n hZ dX12_makesMesh_0 rfl ?_
  obtain ⟨x1, ex1, H⟩ := ok_bind H
  refine r_getR hZ fl_X12_43_11 dX12_makesMesh_1 ex1 ?_
  refine r_iconst (v := (J 0)) hZ dX12_makesMesh_4 (by decide) ?_
  obtain ⟨x2, ex2, H⟩ := ok_bind H
  refine r_aI hZ dX12_makesMesh_5 ex2 ?_
  refine r_istore_n hZ dX12_makesMesh_6 (by decide) (r_pick [0, 1] (ls' := [(0, .ref a0), (1, .int x2)]) rfl ?_)
  refine r_aload_n hZ dX12_makesMesh_7 rfl ?_
  obtain ⟨x3, ex3, H⟩ := ok_bind H
  refine r_getR hZ fl_X12_43_11 dX12_makesMesh_8 ex3 ?_
  refine r_iconst (v := (J 1)) hZ dX12_makesMesh_11 (by decide) ?_
  obtain ⟨x4, ex4, H⟩ := ok_bind H
  refine r_aI hZ dX12_makesMesh_12 ex4 ?_
  refine r_istore_n hZ dX12_makesMesh_13 (by decide) (r_pick [0, 1, 2] (ls' := [(0, .ref a0), (1, .int x2), (2, .int x4)]) rfl ?_)
  refine r_aload_n hZ dX12_makesMesh_14 rfl ?_
  obtain ⟨x5, ex5, H⟩ := ok_bind H
  refine r_getR hZ fl_X12_13_11 dX12_makesMesh_15 ex5 ?_
  refine r_sipush (v := (J 1741)) hZ dX12_makesMesh_18 (by decide) ?_
  obtain ⟨x6, ex6, H⟩ := ok_bind H
  refine r_aI hZ dX12_makesMesh_21 ex6 ?_
  refine r_bipush (v := (J 16)) hZ dX12_makesMesh_22 (by decide) ?_
  refine r_icmp_eq (tgt := 75) hZ dX12_makesMesh_24 (by decide) (fun c52 => ?_) (fun c52 => ?_)
  · have H := ok_t H c52
    refine r_iconst (v := (J 0)) hZ dX12_makesMesh_75 (by decide) ?_
    have H := ok_some H
    subst H
    exact r_zret hZ hF (by decide) dX12_makesMesh_76
  · have H := ok_f H c52
    refine r_aload_n hZ dX12_makesMesh_27 rfl ?_
    refine r_iload_n hZ dX12_makesMesh_28 rfl ?_
    obtain ⟨u7, eu7, H⟩ := ok_bind H
    obtain ⟨r8, er8, H⟩ := ok_bind H
    refine r_callV (As := [.int x2]) (rest := []) (st1 := [.int r8]) (N2 := 0) hZ dX12_makesMesh_29 cw_X12_121_X12 rfl eu7 (s_X12_isGear er8) rfl rfl (by decide) (Nat.le_of_ble_eq_true rfl) (Nat.le_refl 0) (Nat.le_refl _) (Or.inl rfl) rfl ?_
    refine r_if_eq (tgt := 75) hZ dX12_makesMesh_32 (by decide) (fun c51 => ?_) (fun c51 => ?_)
    · have H := ok_t H c51
      refine r_iconst (v := (J 0)) hZ dX12_makesMesh_75 (by decide) ?_
      have H := ok_some H
      subst H
      exact r_zret hZ hF (by decide) dX12_makesMesh_76
    · have H := ok_f H c51
      refine r_aload_n hZ dX12_makesMesh_35 rfl ?_
      refine r_iload_n hZ dX12_makesMesh_36 rfl ?_
      obtain ⟨u9, eu9, H⟩ := ok_bind H
      obtain ⟨r10, er10, H⟩ := ok_bind H
      refine r_callV (As := [.int x4]) (rest := []) (st1 := [.int r10]) (N2 := 0) hZ dX12_makesMesh_37 cw_X12_121_X12 rfl eu9 (s_X12_isGear er10) rfl rfl (by decide) (Nat.le_of_ble_eq_true rfl) (Nat.le_refl 0) (Nat.le_refl _) (Or.inl rfl) rfl ?_
      refine r_if_eq (tgt := 75) hZ dX12_makesMesh_40 (by decide) (fun c50 => ?_) (fun c50 => ?_)
      · have H := ok_t H c50
        refine r_iconst (v := (J 0)) hZ dX12_makesMesh_75 (by decide) ?_
        have H := ok_some H
        subst H
        exact r_zret hZ hF (by decide) dX12_makesMesh_76
      · have H := ok_f H c50
        refine r_iload_n hZ dX12_makesMesh_43 rfl ?_
        refine r_iload_n hZ dX12_makesMesh_44 rfl ?_
        refine r_icmp_eq (tgt := 75) hZ dX12_makesMesh_45 (by decide) (fun c49 => ?_) (fun c49 => ?_)
        · have H := ok_t H c49
          refine r_iconst (v := (J 0)) hZ dX12_makesMesh_75 (by decide) ?_
          have H := ok_some H
          subst H
          exact r_zret hZ hF (by decide) dX12_makesMesh_76
        · have H := ok_f H c49
          refine r_aload_n hZ dX12_makesMesh_48 rfl ?_
          refine r_iload_n hZ dX12_makesMesh_49 rfl ?_
          obtain ⟨u11, eu11, H⟩ := ok_bind H
          obtain ⟨r12, er12, H⟩ := ok_bind H
          refine r_callV (As := [.int x2]) (rest := []) (st1 := [.int r12]) (N2 := 0) hZ dX12_makesMesh_50 cw_X12_79_X12 rfl eu11 (s_X12_kind er12) rfl rfl (by decide) (Nat.le_of_ble_eq_true rfl) (Nat.le_refl 0) (Nat.le_refl _) (Or.inl rfl) rfl ?_
          refine r_iconst (v := (J 4)) hZ dX12_makesMesh_53 (by decide) ?_
          refine r_icmp_ne (tgt := 66) hZ dX12_makesMesh_54 (by decide) (fun c48 => ?_) (fun c48 => ?_)
          · have H := ok_f H c48
            refine r_aload_n hZ dX12_makesMesh_66 rfl ?_
            refine r_iload_n hZ dX12_makesMesh_67 rfl ?_
            refine r_iload_n hZ dX12_makesMesh_68 rfl ?_
            obtain ⟨u13, eu13, H⟩ := ok_bind H
            obtain ⟨r14, er14, H⟩ := ok_bind H
            refine r_callV (As := [.int x2, .int x4]) (rest := []) (st1 := [.int r14]) (N2 := 0) hZ dX12_makesMesh_69 cw_X12_124_X12 rfl eu13 (s_X12_between er14) rfl rfl (by decide) (Nat.le_of_ble_eq_true rfl) (Nat.le_refl 0) (Nat.le_refl _) (Or.inl rfl) rfl ?_
            refine r_if_lt (tgt := 77) hZ dX12_makesMesh_72 (by decide) (fun c28 => ?_) (fun c28 => ?_)
            · have H := ok_t H c28
              refine r_sipush (v := (J 228)) hZ dX12_makesMesh_77 (by decide) ?_
              refine r_iconst (v := (J 3)) hZ dX12_makesMesh_80 (by decide) ?_
              refine r_aload_n hZ dX12_makesMesh_81 rfl ?_
              obtain ⟨x15, ex15, H⟩ := ok_bind H
              refine r_getR hZ fl_X12_13_11 dX12_makesMesh_82 ex15 ?_
              refine r_sipush (v := (J 1741)) hZ dX12_makesMesh_85 (by decide) ?_
              obtain ⟨x16, ex16, H⟩ := ok_bind H
              refine r_aI hZ dX12_makesMesh_88 ex16 ?_
              refine r_imul hZ dX12_makesMesh_89 ?_
              refine r_iadd hZ dX12_makesMesh_90 ?_
              obtain ⟨x17, ex17, H⟩ := ok_bind H
              refine r_topi ex17 ?_
              refine r_istore_n hZ dX12_makesMesh_91 (by decide) (r_pick [0, 1, 2, 3] (ls' := [(0, .ref a0), (1, .int x2), (2, .int x4), (3, .int x17)]) rfl ?_)
              refine r_aload_n hZ dX12_makesMesh_92 rfl ?_
              obtain ⟨x18, ex18, H⟩ := ok_bind H
              refine r_getR hZ fl_X12_13_11 dX12_makesMesh_93 ex18 ?_
              refine r_iload_n hZ dX12_makesMesh_96 rfl ?_
              refine r_iload_n hZ dX12_makesMesh_97 rfl ?_
              obtain ⟨h19, eh19, H⟩ := ok_bind H
              refine r_sI hZ dX12_makesMesh_98 eh19 ?_
              refine r_aload_n hZ dX12_makesMesh_99 rfl ?_
              obtain ⟨x20, ex20, H⟩ := ok_bind H
              refine r_getR hZ fl_X12_13_11 dX12_makesMesh_100 ex20 ?_
              refine r_iload_n hZ dX12_makesMesh_103 rfl ?_
              refine r_iconst (v := (J 1)) hZ dX12_makesMesh_104 (by decide) ?_
              refine r_iadd hZ dX12_makesMesh_105 ?_
              refine r_iload_n hZ dX12_makesMesh_106 rfl ?_
              obtain ⟨h21, eh21, H⟩ := ok_bind H
              refine r_sI hZ dX12_makesMesh_107 eh21 ?_
              refine r_aload_n hZ dX12_makesMesh_108 rfl ?_
              obtain ⟨x22, ex22, H⟩ := ok_bind H
              refine r_getR hZ fl_X12_13_11 dX12_makesMesh_109 ex22 ?_
              refine r_iload_n hZ dX12_makesMesh_112 rfl ?_
              refine r_iconst (v := (J 2)) hZ dX12_makesMesh_113 (by decide) ?_
              refine r_iadd hZ dX12_makesMesh_114 ?_
              refine r_bipush (v := (J 62)) hZ dX12_makesMesh_115 (by decide) ?_
              obtain ⟨h23, eh23, H⟩ := ok_bind H
              refine r_sI hZ dX12_makesMesh_117 eh23 ?_
              refine r_aload_n hZ dX12_makesMesh_118 rfl ?_
              obtain ⟨x24, ex24, H⟩ := ok_bind H
              refine r_getR hZ fl_X12_13_11 dX12_makesMesh_119 ex24 ?_
              refine r_sipush (v := (J 1741)) hZ dX12_makesMesh_122 (by decide) ?_
              obtain ⟨x25, ex25, H⟩ := ok_bind H
              refine r_topi ex25 ?_
              refine r_dup2_ia hZ dX12_makesMesh_125 ?_
              obtain ⟨x26, ex26, H⟩ := ok_bind H
              refine r_aI hZ dX12_makesMesh_126 ex26 ?_
              refine r_iconst (v := (J 1)) hZ dX12_makesMesh_127 (by decide) ?_
              refine r_iadd hZ dX12_makesMesh_128 ?_
              obtain ⟨h27, eh27, H⟩ := ok_bind H
              refine r_sI hZ dX12_makesMesh_129 eh27 ?_
              refine r_iconst (v := (J 1)) hZ dX12_makesMesh_130 (by decide) ?_
              have H := ok_some H
              subst H
              exact r_zret hZ hF (by decide) dX12_makesMesh_131
            · have H := ok_f H c28
              refine r_iconst (v := (J 0)) hZ dX12_makesMesh_75 (by decide) ?_
              have H := ok_some H
              subst H
              exact r_zret hZ hF (by decide) dX12_makesMesh_76
          · have H := ok_t H c48
            refine r_aload_n hZ dX12_makesMesh_57 rfl ?_
            refine r_iload_n hZ dX12_makesMesh_58 rfl ?_
            obtain ⟨u29, eu29, H⟩ := ok_bind H
            obtain ⟨r30, er30, H⟩ := ok_bind H
            refine r_callV (As := [.int x4]) (rest := []) (st1 := [.int r30]) (N2 := 0) hZ dX12_makesMesh_59 cw_X12_79_X12 rfl eu29 (s_X12_kind er30) rfl rfl (by decide) (Nat.le_of_ble_eq_true rfl) (Nat.le_refl 0) (Nat.le_refl _) (Or.inl rfl) rfl ?_
            refine r_iconst (v := (J 4)) hZ dX12_makesMesh_62 (by decide) ?_
            refine r_icmp_eq (tgt := 75) hZ dX12_makesMesh_63 (by decide) (fun c47 => ?_) (fun c47 => ?_)
            · have H := ok_t H c47
              refine r_iconst (v := (J 0)) hZ dX12_makesMesh_75 (by decide) ?_
              have H := ok_some H
              subst H
              exact r_zret hZ hF (by decide) dX12_makesMesh_76
            · have H := ok_f H c47
              refine r_aload_n hZ dX12_makesMesh_66 rfl ?_
              refine r_iload_n hZ dX12_makesMesh_67 rfl ?_
              refine r_iload_n hZ dX12_makesMesh_68 rfl ?_
              obtain ⟨u31, eu31, H⟩ := ok_bind H
              obtain ⟨r32, er32, H⟩ := ok_bind H
              refine r_callV (As := [.int x2, .int x4]) (rest := []) (st1 := [.int r32]) (N2 := 0) hZ dX12_makesMesh_69 cw_X12_124_X12 rfl eu31 (s_X12_between er32) rfl rfl (by decide) (Nat.le_of_ble_eq_true rfl) (Nat.le_refl 0) (Nat.le_refl _) (Or.inl rfl) rfl ?_
              refine r_if_lt (tgt := 77) hZ dX12_makesMesh_72 (by decide) (fun c46 => ?_) (fun c46 => ?_)
              · have H := ok_t H c46
                refine r_sipush (v := (J 228)) hZ dX12_makesMesh_77 (by decide) ?_
                refine r_iconst (v := (J 3)) hZ dX12_makesMesh_80 (by decide) ?_
                refine r_aload_n hZ dX12_makesMesh_81 rfl ?_
                obtain ⟨x33, ex33, H⟩ := ok_bind H
                refine r_getR hZ fl_X12_13_11 dX12_makesMesh_82 ex33 ?_
                refine r_sipush (v := (J 1741)) hZ dX12_makesMesh_85 (by decide) ?_
                obtain ⟨x34, ex34, H⟩ := ok_bind H
                refine r_aI hZ dX12_makesMesh_88 ex34 ?_
                refine r_imul hZ dX12_makesMesh_89 ?_
                refine r_iadd hZ dX12_makesMesh_90 ?_
                obtain ⟨x35, ex35, H⟩ := ok_bind H
                refine r_topi ex35 ?_
                refine r_istore_n hZ dX12_makesMesh_91 (by decide) (r_pick [0, 1, 2, 3] (ls' := [(0, .ref a0), (1, .int x2), (2, .int x4), (3, .int x35)]) rfl ?_)
                refine r_aload_n hZ dX12_makesMesh_92 rfl ?_
                obtain ⟨x36, ex36, H⟩ := ok_bind H
                refine r_getR hZ fl_X12_13_11 dX12_makesMesh_93 ex36 ?_
                refine r_iload_n hZ dX12_makesMesh_96 rfl ?_
                refine r_iload_n hZ dX12_makesMesh_97 rfl ?_
                obtain ⟨h37, eh37, H⟩ := ok_bind H
                refine r_sI hZ dX12_makesMesh_98 eh37 ?_
                refine r_aload_n hZ dX12_makesMesh_99 rfl ?_
                obtain ⟨x38, ex38, H⟩ := ok_bind H
                refine r_getR hZ fl_X12_13_11 dX12_makesMesh_100 ex38 ?_
                refine r_iload_n hZ dX12_makesMesh_103 rfl ?_
                refine r_iconst (v := (J 1)) hZ dX12_makesMesh_104 (by decide) ?_
                refine r_iadd hZ dX12_makesMesh_105 ?_
                refine r_iload_n hZ dX12_makesMesh_106 rfl ?_
                obtain ⟨h39, eh39, H⟩ := ok_bind H
                refine r_sI hZ dX12_makesMesh_107 eh39 ?_
                refine r_aload_n hZ dX12_makesMesh_108 rfl ?_
                obtain ⟨x40, ex40, H⟩ := ok_bind H
                refine r_getR hZ fl_X12_13_11 dX12_makesMesh_109 ex40 ?_
                refine r_iload_n hZ dX12_makesMesh_112 rfl ?_
                refine r_iconst (v := (J 2)) hZ dX12_makesMesh_113 (by decide) ?_
                refine r_iadd hZ dX12_makesMesh_114 ?_
                refine r_bipush (v := (J 62)) hZ dX12_makesMesh_115 (by decide) ?_
                obtain ⟨h41, eh41, H⟩ := ok_bind H
                refine r_sI hZ dX12_makesMesh_117 eh41 ?_
                refine r_aload_n hZ dX12_makesMesh_118 rfl ?_
                obtain ⟨x42, ex42, H⟩ := ok_bind H
                refine r_getR hZ fl_X12_13_11 dX12_makesMesh_119 ex42 ?_
                refine r_sipush (v := (J 1741)) hZ dX12_makesMesh_122 (by decide) ?_
                obtain ⟨x43, ex43, H⟩ := ok_bind H
                refine r_topi ex43 ?_
                refine r_dup2_ia hZ dX12_makesMesh_125 ?_
                obtain ⟨x44, ex44, H⟩ := ok_bind H
                refine r_aI hZ dX12_makesMesh_126 ex44 ?_
                refine r_iconst (v := (J 1)) hZ dX12_makesMesh_127 (by decide) ?_
                refine r_iadd hZ dX12_makesMesh_128 ?_
                obtain ⟨h45, eh45, H⟩ := ok_bind H
                refine r_sI hZ dX12_makesMesh_129 eh45 ?_
                refine r_iconst (v := (J 1)) hZ dX12_makesMesh_130 (by decide) ?_
                have H := ok_some H
                subst H
                exact r_zret hZ hF (by decide) dX12_makesMesh_131
              · have H := ok_f H c46
                refine r_iconst (v := (J 0)) hZ dX12_makesMesh_75 (by decide) ?_
                have H := ok_some H
                subst H
                exact r_zret hZ hF (by decide) dX12_makesMesh_76
def f_X12_makesRoom  (h : Hp) (a0 : Nat) : Option (Int32 × Hp) :=
  (gR h a0 11 17).bind fun x1 =>
  (aI h x1 (J 0)).bind fun x2 =>
  (gR h a0 11 17).bind fun x3 =>
  (aI h x3 (J 1)).bind fun x4 =>
  (isO h a0 11).bind fun u5 =>
  (f_X12_between h a0 x2 x4).bind fun r6 =>
  (if r6 < 0 then
    some ((J 0), h)
  else
    (gR h a0 11 17).bind fun x7 =>
    (aI h x7 (J 2)).bind fun x8 =>
    (if x8 ≤ (J 62) then
      (gR h a0 11 1).bind fun x9 =>
      (gR h a0 11 17).bind fun x10 =>
      (aI h x10 (J 2)).bind fun x11 =>
      (sI h x9 (((J 228) + ((J 3) * r6)) + (J 2)) x11).bind fun h12 =>
      some ((J 1), h12)
    else
      some ((J 0), h)))
set_option maxRecDepth 100000 in
set_option maxHeartbeats 4000000 in
theorem s_X12_makesRoom {n : Nat} {h : Hp} {a0 : Nat}  {r : Int32 × Hp} (hf : f_X12_makesRoom  h a0 = some r) : Ev 4 yX12_makesRoom cX12_makesRoom 2 (some .boolean) [.ref a0] n h (some (.int r.1)) n r.2 := by
  refine Ev_of RX12 rfl (by decide) (Nat.le_of_ble_eq_true rfl) (Nat.le_refl _) (Or.inl rfl) (fun Z hZ hF hN hI => ?_)
  have H : Ok (f_X12_makesRoom  h a0) (fun y => y = r) := ⟨_, hf, rfl⟩
  unfold f_X12_makesRoom at H
  refine r_ls (ls' := [(0, .ref a0)]) rfl ?_
  refine r_aload_n hZ dX12_makesRoom_0 rfl ?_
  refine r_aload_n hZ dX12_makesRoom_1 rfl ?_
  obtain ⟨x1, ex1, H⟩ := ok_bind H
  refine r_getR hZ fl_X12_43_11 dX12_makesRoom_2 ex1 ?_
  refine r_iconst (v := (J 0)) hZ dX12_makesRoom_5 (by decide) ?_
  obtain ⟨x2, ex2, H⟩ := ok_bind H
  refine r_aI hZ dX12_makesRoom_6 ex2 ?_
  refine r_aload_n hZ dX12_makesRoom_7 rfl ?_
  obtain ⟨x3, ex3, H⟩ := ok_bind H
  refine r_getR hZ fl_X12_43_11 dX12_makesRoom_8 ex3 ?_
  refine r_iconst (v := (J 1)) hZ dX12_makesRoom_11 (by decide) ?_
  obtain ⟨x4, ex4, H⟩ := ok_bind H
  refine r_aI hZ dX12_makesRoom_12 ex4 ?_
  obtain ⟨u5, eu5, H⟩ := ok_bind H
  obtain ⟨r6, er6, H⟩ := ok_bind H
  refine r_callV (As := [.int x2, .int x4]) (rest := []) (st1 := [.int r6]) (N2 := 0) hZ dX12_makesRoom_13 cw_X12_124_X12 rfl eu5 (s_X12_between er6) rfl rfl (by decide) (Nat.le_of_ble_eq_true rfl) (Nat.le_refl 0) (Nat.le_refl _) (Or.inl rfl) rfl ?_
  refine r_istore_n hZ dX12_makesRoom_16 (by decide) (r_pick [0, 1] (ls' := [(0, .ref a0), (1, .int r6)]) rfl ?_)
  refine r_iload_n hZ dX12_makesRoom_17 rfl ?_
  refine r_if_lt (tgt := 32) hZ dX12_makesRoom_18 (by decide) (fun c14 => ?_) (fun c14 => ?_)
  · have H := ok_t H c14
    refine r_iconst (v := (J 0)) hZ dX12_makesRoom_32 (by decide) ?_
    have H := ok_some H
    subst H
    exact r_zret hZ hF (by decide) dX12_makesRoom_33
  · have H := ok_f H c14
    refine r_aload_n hZ dX12_makesRoom_21 rfl ?_
    obtain ⟨x7, ex7, H⟩ := ok_bind H
    refine r_getR hZ fl_X12_43_11 dX12_makesRoom_22 ex7 ?_
    refine r_iconst (v := (J 2)) hZ dX12_makesRoom_25 (by decide) ?_
    obtain ⟨x8, ex8, H⟩ := ok_bind H
    refine r_aI hZ dX12_makesRoom_26 ex8 ?_
    refine r_bipush (v := (J 62)) hZ dX12_makesRoom_27 (by decide) ?_
    refine r_icmp_le (tgt := 34) hZ dX12_makesRoom_29 (by decide) (fun c13 => ?_) (fun c13 => ?_)
    · have H := ok_t H c13
      refine r_aload_n hZ dX12_makesRoom_34 rfl ?_
      obtain ⟨x9, ex9, H⟩ := ok_bind H
      refine r_getR hZ fl_X12_13_11 dX12_makesRoom_35 ex9 ?_
      refine r_sipush (v := (J 228)) hZ dX12_makesRoom_38 (by decide) ?_
      refine r_iconst (v := (J 3)) hZ dX12_makesRoom_41 (by decide) ?_
      refine r_iload_n hZ dX12_makesRoom_42 rfl ?_
      refine r_imul hZ dX12_makesRoom_43 ?_
      refine r_iadd hZ dX12_makesRoom_44 ?_
      refine r_iconst (v := (J 2)) hZ dX12_makesRoom_45 (by decide) ?_
      refine r_iadd hZ dX12_makesRoom_46 ?_
      refine r_aload_n hZ dX12_makesRoom_47 rfl ?_
      obtain ⟨x10, ex10, H⟩ := ok_bind H
      refine r_getR hZ fl_X12_43_11 dX12_makesRoom_48 ex10 ?_
      refine r_iconst (v := (J 2)) hZ dX12_makesRoom_51 (by decide) ?_
      obtain ⟨x11, ex11, H⟩ := ok_bind H
      refine r_aI hZ dX12_makesRoom_52 ex11 ?_
      obtain ⟨h12, eh12, H⟩ := ok_bind H
      refine r_sI hZ dX12_makesRoom_53 eh12 ?_
      refine r_iconst (v := (J 1)) hZ dX12_makesRoom_54 (by decide) ?_
      have H := ok_some H
      subst H
      exact r_zret hZ hF (by decide) dX12_makesRoom_55
    · have H := ok_f H c13
      refine r_iconst (v := (J 0)) hZ dX12_makesRoom_32 (by decide) ?_
      have H := ok_some H
      subst H
      exact r_zret hZ hF (by decide) dX12_makesRoom_33
def f_X12_wrongRow  (h : Hp) (a0 : Nat) (a1 : Int32) (a2 : Int32) : Option (Int32) :=
  (f_X12_isShelf a1).bind fun r1 =>
  ((if r1 = 0 then
    some (J (-1))
  else
    (gR h a0 11 4).bind fun x3 =>
    (aI h x3 a1).bind fun x4 =>
    (if x4 = 0 then
      some (J (-11))
    else
      (gR h a0 11 4).bind fun x5 =>
      (aI h x5 a1).bind fun x6 =>
      (if x6 = (J 2) then
        (if a2 < 0 then
          some (J 0)
        else
          (gR h a0 11 5).bind fun x7 =>
          (aI h x7 a1).bind fun x8 =>
          (if x8 = a2 then
            some (J 0)
          else
            some (J (-12))))
      else
        some (J (-12)))))).bind fun (j2 : Int32) =>
  some j2
set_option maxRecDepth 100000 in
set_option maxHeartbeats 4000000 in
theorem s_X12_wrongRow {n : Nat} {h : Hp} {a0 : Nat} {a1 : Int32} {a2 : Int32}  {r : Int32} (hf : f_X12_wrongRow  h a0 a1 a2 = some r) : Ev 4 yX12_wrongRow cX12_wrongRow 3 (some .int) [.ref a0, .int a1, .int a2] n h (some (.int r)) n h := by
  refine Ev_of RX12 rfl (by decide) (Nat.le_of_ble_eq_true rfl) (Nat.le_refl _) (Or.inl rfl) (fun Z hZ hF hN hI => ?_)
  have H : Ok (f_X12_wrongRow  h a0 a1 a2) (fun y => y = r) := ⟨_, hf, rfl⟩
  unfold f_X12_wrongRow at H
  refine r_ls (ls' := [(0, .ref a0), (1, .int a1), (2, .int a2)]) rfl ?_
  refine r_iload_n hZ dX12_wrongRow_0 rfl ?_
  obtain ⟨r1, er1, H⟩ := ok_bind H
  refine r_callS (As := [.int a1]) (rest := []) (st1 := [.int r1]) (N2 := 0) hZ dX12_wrongRow_1 cw_X12_127 (s_X12_isShelf er1) rfl rfl (by decide) (Nat.le_of_ble_eq_true rfl) (Nat.le_refl 0) (Nat.le_refl _) (Or.inl rfl) rfl ?_
  refine ok_join (Q := fun j2 : Int32 => R Z 55 [] [.int j2] n h 0) H (fun j2 H => ?_) (fun H => ?_)
  · have H := ok_some H
    subst H
    exact r_iret hZ hF dX12_wrongRow_55
  · refine r_if_ne (tgt := 11) hZ dX12_wrongRow_4 (by decide) (fun c13 => ?_) (fun c13 => ?_)
    · have H := ok_f H c13
      refine r_aload_n hZ dX12_wrongRow_11 rfl ?_
      obtain ⟨x3, ex3, H⟩ := ok_bind H
      refine r_getR hZ fl_X12_22_11 dX12_wrongRow_12 ex3 ?_
      refine r_iload_n hZ dX12_wrongRow_15 rfl ?_
      obtain ⟨x4, ex4, H⟩ := ok_bind H
      refine r_aI hZ dX12_wrongRow_16 ex4 ?_
      refine r_if_ne (tgt := 25) hZ dX12_wrongRow_17 (by decide) (fun c12 => ?_) (fun c12 => ?_)
      · have H := ok_f H c12
        refine r_aload_n hZ dX12_wrongRow_25 rfl ?_
        obtain ⟨x5, ex5, H⟩ := ok_bind H
        refine r_getR hZ fl_X12_22_11 dX12_wrongRow_26 ex5 ?_
        refine r_iload_n hZ dX12_wrongRow_29 rfl ?_
        obtain ⟨x6, ex6, H⟩ := ok_bind H
        refine r_aI hZ dX12_wrongRow_30 ex6 ?_
        refine r_iconst (v := (J 2)) hZ dX12_wrongRow_31 (by decide) ?_
        refine r_icmp_ne (tgt := 49) hZ dX12_wrongRow_32 (by decide) (fun c11 => ?_) (fun c11 => ?_)
        · have H := ok_f H c11
          refine r_bipush (v := (J (-12))) hZ dX12_wrongRow_49 (by decide) ?_
          refine r_goto (tgt := 55) hZ dX12_wrongRow_51 (by decide) ?_
          have H := ok_some H
          exact r_pick [] (ls' := []) rfl H
        · have H := ok_t H c11
          refine r_iload_n hZ dX12_wrongRow_35 rfl ?_
          refine r_if_lt (tgt := 54) hZ dX12_wrongRow_36 (by decide) (fun c10 => ?_) (fun c10 => ?_)
          · have H := ok_t H c10
            refine r_iconst (v := (J 0)) hZ dX12_wrongRow_54 (by decide) ?_
            have H := ok_some H
            exact r_pick [] (ls' := []) rfl H
          · have H := ok_f H c10
            refine r_aload_n hZ dX12_wrongRow_39 rfl ?_
            obtain ⟨x7, ex7, H⟩ := ok_bind H
            refine r_getR hZ fl_X12_25_11 dX12_wrongRow_40 ex7 ?_
            refine r_iload_n hZ dX12_wrongRow_43 rfl ?_
            obtain ⟨x8, ex8, H⟩ := ok_bind H
            refine r_aI hZ dX12_wrongRow_44 ex8 ?_
            refine r_iload_n hZ dX12_wrongRow_45 rfl ?_
            refine r_icmp_eq (tgt := 54) hZ dX12_wrongRow_46 (by decide) (fun c9 => ?_) (fun c9 => ?_)
            · have H := ok_t H c9
              refine r_iconst (v := (J 0)) hZ dX12_wrongRow_54 (by decide) ?_
              have H := ok_some H
              exact r_pick [] (ls' := []) rfl H
            · have H := ok_f H c9
              refine r_bipush (v := (J (-12))) hZ dX12_wrongRow_49 (by decide) ?_
              refine r_goto (tgt := 55) hZ dX12_wrongRow_51 (by decide) ?_
              have H := ok_some H
              exact r_pick [] (ls' := []) rfl H
      · have H := ok_t H c12
        refine r_bipush (v := (J (-11))) hZ dX12_wrongRow_20 (by decide) ?_
        refine r_goto (tgt := 55) hZ dX12_wrongRow_22 (by decide) ?_
        have H := ok_some H
        exact r_pick [] (ls' := []) rfl H
    · have H := ok_t H c13
      refine r_iconst (v := (J (-1))) hZ dX12_wrongRow_7 (by decide) ?_
      refine r_goto (tgt := 55) hZ dX12_wrongRow_8 (by decide) ?_
      have H := ok_some H
      exact r_pick [] (ls' := []) rfl H
def f_X12_opens  (h : Hp) (a0 : Nat) (a1 : Int32) : Option (Hp) :=
  (gR h a0 11 7).bind fun x1 =>
  (pF h a0 11 16 (.ref x1)).bind fun h2 =>
  (pF h2 a0 11 13 (.int ((J 120) * a1))).bind fun h3 =>
  (gR h3 a0 11 6).bind fun x4 =>
  (aI h3 x4 a1).bind fun x5 =>
  (pF h3 a0 11 14 (.int x5)).bind fun h6 =>
  (pF h6 a0 11 12 (.int (J 0))).bind fun h7 =>
  some h7
set_option maxRecDepth 100000 in
set_option maxHeartbeats 4000000 in
theorem s_X12_opens {n : Nat} {h : Hp} {a0 : Nat} {a1 : Int32}  {r : Hp} (hf : f_X12_opens  h a0 a1 = some r) : Ev 2 yX12_opens cX12_opens 2 none [.ref a0, .int a1] n h none n r := by
  refine Ev_of RX12 rfl (by decide) (Nat.le_of_ble_eq_true rfl) (Nat.le_refl _) (Or.inl rfl) (fun Z hZ hF hN hI => ?_)
  have H : Ok (f_X12_opens  h a0 a1) (fun y => y = r) := ⟨_, hf, rfl⟩
  unfold f_X12_opens at H
  refine r_ls (ls' := [(0, .ref a0), (1, .int a1)]) rfl ?_
  refine r_aload_n hZ dX12_opens_0 rfl ?_
  refine r_aload_n hZ dX12_opens_1 rfl ?_
  obtain ⟨x1, ex1, H⟩ := ok_bind H
  refine r_getR hZ fl_X12_31_11 dX12_opens_2 ex1 ?_
  obtain ⟨h2, eh2, H⟩ := ok_bind H
  refine r_putf hZ fl_X12_40_11 dX12_opens_5 eh2 rfl rfl ?_
  refine r_aload_n hZ dX12_opens_8 rfl ?_
  refine r_bipush (v := (J 120)) hZ dX12_opens_9 (by decide) ?_
  refine r_iload_n hZ dX12_opens_11 rfl ?_
  refine r_imul hZ dX12_opens_12 ?_
  obtain ⟨h3, eh3, H⟩ := ok_bind H
  refine r_putf hZ fl_X12_96_11 dX12_opens_13 eh3 rfl rfl ?_
  refine r_aload_n hZ dX12_opens_16 rfl ?_
  refine r_aload_n hZ dX12_opens_17 rfl ?_
  obtain ⟨x4, ex4, H⟩ := ok_bind H
  refine r_getR hZ fl_X12_28_11 dX12_opens_18 ex4 ?_
  refine r_iload_n hZ dX12_opens_21 rfl ?_
  obtain ⟨x5, ex5, H⟩ := ok_bind H
  refine r_aI hZ dX12_opens_22 ex5 ?_
  obtain ⟨h6, eh6, H⟩ := ok_bind H
  refine r_putf hZ fl_X12_93_11 dX12_opens_23 eh6 rfl rfl ?_
  refine r_aload_n hZ dX12_opens_26 rfl ?_
  refine r_iconst (v := (J 0)) hZ dX12_opens_27 (by decide) ?_
  obtain ⟨h7, eh7, H⟩ := ok_bind H
  refine r_putf hZ fl_X12_90_11 dX12_opens_28 eh7 rfl rfl ?_
  have H := ok_some H
  subst H
  exact r_ret hZ hF dX12_opens_31
def b_X12_text_18 (p0 : Nat) (s : Hp) : Option ((Hp) ⊕ ((Hp) ⊕ (Hp))) :=
  (isO s p0 11).bind fun u1 =>
  (f_X12_readsStatement s p0).bind fun r2 =>
  (if r2.1 = 0 then
    some (.inr (.inl r2.2))
  else
    (gI r2.2 p0 11 12).bind fun x3 =>
    (gI r2.2 p0 11 14).bind fun x4 =>
    (if x3 < x4 then
      some (.inl r2.2)
    else
      some (.inr (.inr r2.2))))
set_option maxRecDepth 100000 in
set_option maxHeartbeats 4000000 in
theorem l_X12_text_18 {Z : Zc} (hZ : Fx cX12_text RX12 8 5 0 Z) {n : Nat} {p0 : Nat} {P : ((Hp) ⊕ (Hp)) → Prop} (hx0 : ∀ e : Hp, P (.inl e) → R Z 25 [(0, .ref p0)] [] n e 0) (hx1 : ∀ e : Hp, P (.inr e) → R Z 45 [(0, .ref p0)] [] n e 0) : ∀ (m : Nat) (s : Hp), Ok (iter (b_X12_text_18 p0) m s) P → R Z 18 [(0, .ref p0)] [] n s 0 := by
  intro m
  induction m with
  | zero => exact fun s H => ok_iter0 H
  | succ m ih =>
    intro s H
    have H := ok_iter H
    unfold b_X12_text_18 at H
    refine r_aload_n hZ dX12_text_18 rfl ?_
    obtain ⟨u1, eu1, H⟩ := ok_bind H
    obtain ⟨r2, er2, H⟩ := ok_bind H
    refine r_callV (As := []) (rest := []) (st1 := [.int r2.1]) (N2 := 0) hZ dX12_text_19 cw_X12_137_X12 rfl eu1 (s_X12_readsStatement er2) rfl rfl (by decide) (Nat.le_of_ble_eq_true rfl) (Nat.le_refl 0) (Nat.le_refl _) (Or.inl rfl) rfl ?_
    refine r_if_ne (tgt := 34) hZ dX12_text_22 (by decide) (fun c6 => ?_) (fun c6 => ?_)
    · have H := ok_f H c6
      refine r_aload_n hZ dX12_text_34 rfl ?_
      obtain ⟨x3, ex3, H⟩ := ok_bind H
      refine r_getI hZ fl_X12_90_11 dX12_text_35 ex3 ?_
      refine r_aload_n hZ dX12_text_38 rfl ?_
      obtain ⟨x4, ex4, H⟩ := ok_bind H
      refine r_getI hZ fl_X12_93_11 dX12_text_39 ex4 ?_
      refine r_icmp_lt (tgt := 18) hZ dX12_text_42 (by decide) (fun c5 => ?_) (fun c5 => ?_)
      · have H := ok_t H c5
        exact r_pick [0] (ls' := [(0, .ref p0)]) rfl (ih _ (ki_l H))
      · have H := ok_f H c5
        exact r_pick [0] (ls' := [(0, .ref p0)]) rfl (hx1 _ (ki_r H))
    · have H := ok_t H c6
      exact r_pick [0] (ls' := [(0, .ref p0)]) rfl (hx0 _ (ki_r H))
def b_X12_text_47 (p0 : Nat) (s : Int32 × Hp) : Option ((Int32 × Hp) ⊕ ((Hp))) :=
  (if (J 1744) ≤ s.1 then
    some (.inr (s.2))
  else
    (gR s.2 p0 11 3).bind fun x1 =>
    (gR s.2 p0 11 1).bind fun x2 =>
    (aI s.2 x2 s.1).bind fun x3 =>
    (sI s.2 x1 s.1 x3).bind fun h4 =>
    (some (s.1 + (J 1))).bind fun x5 =>
    some (.inl (x5, h4)))
set_option maxRecDepth 100000 in
set_option maxHeartbeats 4000000 in
theorem l_X12_text_47 {Z : Zc} (hZ : Fx cX12_text RX12 8 5 0 Z) {n : Nat} {p0 : Nat} {P : ((Hp)) → Prop} (hx0 : ∀ e : Hp, P (e) → R Z 72 [(0, .ref p0)] [] n e 0) : ∀ (m : Nat) (s : Int32 × Hp), Ok (iter (b_X12_text_47 p0) m s) P → R Z 47 [(0, .ref p0), (3, .int s.1)] [] n s.2 0 := by
  intro m
  induction m with
  | zero => exact fun s H => ok_iter0 H
  | succ m ih =>
    intro s H
    have H := ok_iter H
    unfold b_X12_text_47 at H
    refine r_iload_n hZ dX12_text_47 rfl ?_
    refine r_sipush (v := (J 1744)) hZ dX12_text_48 (by decide) ?_
    refine r_icmp_ge (tgt := 72) hZ dX12_text_51 (by decide) (fun c6 => ?_) (fun c6 => ?_)
    · have H := ok_t H c6
      exact r_pick [0] (ls' := [(0, .ref p0)]) rfl (hx0 _ (ki_r H))
    · have H := ok_f H c6
      refine r_aload_n hZ dX12_text_54 rfl ?_
      obtain ⟨x1, ex1, H⟩ := ok_bind H
      refine r_getR hZ fl_X12_19_11 dX12_text_55 ex1 ?_
      refine r_iload_n hZ dX12_text_58 rfl ?_
      refine r_aload_n hZ dX12_text_59 rfl ?_
      obtain ⟨x2, ex2, H⟩ := ok_bind H
      refine r_getR hZ fl_X12_13_11 dX12_text_60 ex2 ?_
      refine r_iload_n hZ dX12_text_63 rfl ?_
      obtain ⟨x3, ex3, H⟩ := ok_bind H
      refine r_aI hZ dX12_text_64 ex3 ?_
      obtain ⟨h4, eh4, H⟩ := ok_bind H
      refine r_sI hZ dX12_text_65 eh4 ?_
      obtain ⟨x5, ex5, H⟩ := ok_bind H
      refine r_iincE (w := (J 1)) hZ dX12_text_66 (by decide) rfl (by decide) ex5 (r_pick [0, 3] (ls' := [(0, .ref p0), (3, .int x5)]) rfl ?_)
      refine r_goto (tgt := 47) hZ dX12_text_69 (by decide) ?_
      exact r_pick [0, 3] (ls' := [(0, .ref p0), (3, .int x5)]) rfl (ih _ (ki_l H))
def b_X12_text_79 (p0 : Nat) (s : Int32 × Hp) : Option ((Int32 × Hp) ⊕ ((Int32 × Hp) ⊕ (Int32 × Hp))) :=
  (gI s.2 p0 11 12).bind fun x1 =>
  (gI s.2 p0 11 14).bind fun x2 =>
  (if x2 ≤ x1 then
    some (.inr (.inl (s.1, s.2)))
  else
    (gI s.2 p0 11 12).bind fun x3 =>
    (isO s.2 p0 11).bind fun u4 =>
    (f_X12_sign s.2 p0).bind fun r5 =>
    (isO s.2 p0 11).bind fun u6 =>
    (f_X12_readsStatement s.2 p0).bind fun r7 =>
    ((if r5 = (J 103) then
      (isO r7.2 p0 11).bind fun u14 =>
      (f_X12_makesGear r7.2 p0).bind fun r15 =>
      some (r15.1, r15.2)
    else
      (if r5 = (J 109) then
        (isO r7.2 p0 11).bind fun u11 =>
        (f_X12_makesMesh r7.2 p0).bind fun r12 =>
        some (r12.1, r12.2)
      else
        (isO r7.2 p0 11).bind fun u9 =>
        (f_X12_makesRoom r7.2 p0).bind fun r10 =>
        some (r10.1, r10.2)))).bind fun (j8 : Int32 × Hp) =>
    (some (s.1 + (J 1))).bind fun x17 =>
    (if j8.1 = 0 then
      some (.inr (.inr (x3, j8.2)))
    else
      some (.inl (x17, j8.2))))
set_option maxRecDepth 100000 in
set_option maxHeartbeats 4000000 in
theorem l_X12_text_79 {Z : Zc} (hZ : Fx cX12_text RX12 8 5 0 Z) {n : Nat} {p0 : Nat} {P : ((Int32 × Hp) ⊕ (Int32 × Hp)) → Prop} (hx0 : ∀ e : Int32 × Hp, P (.inl e) → R Z 191 [(3, .int e.1)] [] n e.2 0) (hx1 : ∀ e : Int32 × Hp, P (.inr e) → R Z 153 [(0, .ref p0), (4, .int e.1)] [] n e.2 0) : ∀ (m : Nat) (s : Int32 × Hp), Ok (iter (b_X12_text_79 p0) m s) P → R Z 79 [(0, .ref p0), (3, .int s.1)] [] n s.2 0 := by
  intro m
  induction m with
  | zero => exact fun s H => ok_iter0 H
  | succ m ih =>
    intro s H
    have H := ok_iter H
    unfold b_X12_text_79 at H
    refine r_aload_n hZ dX12_text_79 rfl ?_
    obtain ⟨x1, ex1, H⟩ := ok_bind H
    refine r_getI hZ fl_X12_90_11 dX12_text_80 ex1 ?_
    refine r_aload_n hZ dX12_text_83 rfl ?_
    obtain ⟨x2, ex2, H⟩ := ok_bind H
    refine r_getI hZ fl_X12_93_11 dX12_text_84 ex2 ?_
    refine r_icmp_ge (tgt := 191) hZ dX12_text_87 (by decide) (fun c19 => ?_) (fun c19 => ?_)
    · have H := ok_t H c19
      exact r_pick [3] (ls' := [(3, .int s.1)]) rfl (hx0 _ (ki_r H))
    · have H := ok_f H c19
      refine r_aload_n hZ dX12_text_90 rfl ?_
      obtain ⟨x3, ex3, H⟩ := ok_bind H
      refine r_getI hZ fl_X12_90_11 dX12_text_91 ex3 ?_
      refine r_istore hZ dX12_text_94 (by decide) (r_pick [0, 3, 4] (ls' := [(0, .ref p0), (3, .int s.1), (4, .int x3)]) rfl ?_)
      refine r_aload_n hZ dX12_text_96 rfl ?_
      obtain ⟨u4, eu4, H⟩ := ok_bind H
      obtain ⟨r5, er5, H⟩ := ok_bind H
      refine r_callV (As := []) (rest := []) (st1 := [.int r5]) (N2 := 0) hZ dX12_text_97 cw_X12_99_X12 rfl eu4 (s_X12_sign er5) rfl rfl (by decide) (Nat.le_of_ble_eq_true rfl) (Nat.le_refl 0) (Nat.le_refl _) (Or.inl rfl) rfl ?_
      refine r_istore hZ dX12_text_100 (by decide) (r_pick [0, 3, 4, 5] (ls' := [(0, .ref p0), (3, .int s.1), (4, .int x3), (5, .int r5)]) rfl ?_)
      refine r_aload_n hZ dX12_text_102 rfl ?_
      obtain ⟨u6, eu6, H⟩ := ok_bind H
      obtain ⟨r7, er7, H⟩ := ok_bind H
      refine r_callV (As := []) (rest := []) (st1 := [.int r7.1]) (N2 := 0) hZ dX12_text_103 cw_X12_137_X12 rfl eu6 (s_X12_readsStatement er7) rfl rfl (by decide) (Nat.le_of_ble_eq_true rfl) (Nat.le_refl 0) (Nat.le_refl _) (Or.inl rfl) rfl ?_
      refine r_istore hZ dX12_text_106 (by decide) (r_pick [0, 3, 4, 5] (ls' := [(0, .ref p0), (3, .int s.1), (4, .int x3), (5, .int r5)]) rfl ?_)
      refine r_iload hZ dX12_text_108 rfl ?_
      refine r_bipush (v := (J 103)) hZ dX12_text_110 (by decide) ?_
      refine ok_join (Q := fun j8 : Int32 × Hp => R Z 140 [(0, .ref p0), (3, .int s.1), (4, .int x3)] [.int j8.1] n j8.2 0) H (fun j8 H => ?_) (fun H => ?_)
      · refine r_istore hZ dX12_text_140 (by decide) (r_pick [0, 3, 4, 6] (ls' := [(0, .ref p0), (3, .int s.1), (4, .int x3), (6, .int j8.1)]) rfl ?_)
        obtain ⟨x17, ex17, H⟩ := ok_bind H
        refine r_iincE (w := (J 1)) hZ dX12_text_142 (by decide) rfl (by decide) ex17 (r_pick [0, 3, 4, 6] (ls' := [(0, .ref p0), (3, .int x17), (4, .int x3), (6, .int j8.1)]) rfl ?_)
        refine r_iload hZ dX12_text_145 rfl ?_
        refine r_if_eq (tgt := 153) hZ dX12_text_147 (by decide) (fun c18 => ?_) (fun c18 => ?_)
        · have H := ok_t H c18
          exact r_pick [0, 4] (ls' := [(0, .ref p0), (4, .int x3)]) rfl (hx1 _ (ki_r H))
        · have H := ok_f H c18
          refine r_goto (tgt := 79) hZ dX12_text_150 (by decide) ?_
          exact r_pick [0, 3] (ls' := [(0, .ref p0), (3, .int x17)]) rfl (ih _ (ki_l H))
      · refine r_icmp_ne (tgt := 122) hZ dX12_text_112 (by decide) (fun c16 => ?_) (fun c16 => ?_)
        · have H := ok_f H c16
          refine r_iload hZ dX12_text_122 rfl ?_
          refine r_bipush (v := (J 109)) hZ dX12_text_124 (by decide) ?_
          refine r_icmp_ne (tgt := 136) hZ dX12_text_126 (by decide) (fun c13 => ?_) (fun c13 => ?_)
          · have H := ok_f H c13
            refine r_aload_n hZ dX12_text_136 rfl ?_
            obtain ⟨u9, eu9, H⟩ := ok_bind H
            obtain ⟨r10, er10, H⟩ := ok_bind H
            refine r_callV (As := []) (rest := []) (st1 := [.int r10.1]) (N2 := 0) hZ dX12_text_137 cw_X12_146_X12 rfl eu9 (s_X12_makesRoom er10) rfl rfl (by decide) (Nat.le_of_ble_eq_true rfl) (Nat.le_refl 0) (Nat.le_refl _) (Or.inl rfl) rfl ?_
            have H := ok_some H
            exact r_pick [0, 3, 4] (ls' := [(0, .ref p0), (3, .int s.1), (4, .int x3)]) rfl H
          · have H := ok_t H c13
            refine r_aload_n hZ dX12_text_129 rfl ?_
            obtain ⟨u11, eu11, H⟩ := ok_bind H
            obtain ⟨r12, er12, H⟩ := ok_bind H
            refine r_callV (As := []) (rest := []) (st1 := [.int r12.1]) (N2 := 0) hZ dX12_text_130 cw_X12_143_X12 rfl eu11 (s_X12_makesMesh er12) rfl rfl (by decide) (Nat.le_of_ble_eq_true rfl) (Nat.le_refl 0) (Nat.le_refl _) (Or.inl rfl) rfl ?_
            refine r_goto (tgt := 140) hZ dX12_text_133 (by decide) ?_
            have H := ok_some H
            exact r_pick [0, 3, 4] (ls' := [(0, .ref p0), (3, .int s.1), (4, .int x3)]) rfl H
        · have H := ok_t H c16
          refine r_aload_n hZ dX12_text_115 rfl ?_
          obtain ⟨u14, eu14, H⟩ := ok_bind H
          obtain ⟨r15, er15, H⟩ := ok_bind H
          refine r_callV (As := []) (rest := []) (st1 := [.int r15.1]) (N2 := 0) hZ dX12_text_116 cw_X12_140_X12 rfl eu14 (s_X12_makesGear er15) rfl rfl (by decide) (Nat.le_of_ble_eq_true rfl) (Nat.le_refl 0) (Nat.le_refl _) (Or.inl rfl) rfl ?_
          refine r_goto (tgt := 140) hZ dX12_text_119 (by decide) ?_
          have H := ok_some H
          exact r_pick [0, 3, 4] (ls' := [(0, .ref p0), (3, .int s.1), (4, .int x3)]) rfl H
def b_X12_text_156 (p0 : Nat) (p4 : Int32) (s : Int32 × Hp) : Option ((Int32 × Hp) ⊕ ((Hp))) :=
  (if (J 1744) ≤ s.1 then
    some (.inr (s.2))
  else
    (gR s.2 p0 11 1).bind fun x1 =>
    (gR s.2 p0 11 3).bind fun x2 =>
    (aI s.2 x2 s.1).bind fun x3 =>
    (sI s.2 x1 s.1 x3).bind fun h4 =>
    (some (s.1 + (J 1))).bind fun x5 =>
    some (.inl (x5, h4)))
set_option maxRecDepth 100000 in
set_option maxHeartbeats 4000000 in
theorem l_X12_text_156 {Z : Zc} (hZ : Fx cX12_text RX12 8 5 0 Z) {n : Nat} {p0 : Nat} {p4 : Int32} {P : ((Hp)) → Prop} (hx0 : ∀ e : Hp, P (e) → R Z 184 [(4, .int p4)] [] n e 0) : ∀ (m : Nat) (s : Int32 × Hp), Ok (iter (b_X12_text_156 p0 p4) m s) P → R Z 156 [(0, .ref p0), (4, .int p4), (7, .int s.1)] [] n s.2 0 := by
  intro m
  induction m with
  | zero => exact fun s H => ok_iter0 H
  | succ m ih =>
    intro s H
    have H := ok_iter H
    unfold b_X12_text_156 at H
    refine r_iload hZ dX12_text_156 rfl ?_
    refine r_sipush (v := (J 1744)) hZ dX12_text_158 (by decide) ?_
    refine r_icmp_ge (tgt := 184) hZ dX12_text_161 (by decide) (fun c6 => ?_) (fun c6 => ?_)
    · have H := ok_t H c6
      exact r_pick [4] (ls' := [(4, .int p4)]) rfl (hx0 _ (ki_r H))
    · have H := ok_f H c6
      refine r_aload_n hZ dX12_text_164 rfl ?_
      obtain ⟨x1, ex1, H⟩ := ok_bind H
      refine r_getR hZ fl_X12_13_11 dX12_text_165 ex1 ?_
      refine r_iload hZ dX12_text_168 rfl ?_
      refine r_aload_n hZ dX12_text_170 rfl ?_
      obtain ⟨x2, ex2, H⟩ := ok_bind H
      refine r_getR hZ fl_X12_19_11 dX12_text_171 ex2 ?_
      refine r_iload hZ dX12_text_174 rfl ?_
      obtain ⟨x3, ex3, H⟩ := ok_bind H
      refine r_aI hZ dX12_text_176 ex3 ?_
      obtain ⟨h4, eh4, H⟩ := ok_bind H
      refine r_sI hZ dX12_text_177 eh4 ?_
      obtain ⟨x5, ex5, H⟩ := ok_bind H
      refine r_iincE (w := (J 1)) hZ dX12_text_178 (by decide) rfl (by decide) ex5 (r_pick [0, 4, 7] (ls' := [(0, .ref p0), (4, .int p4), (7, .int x5)]) rfl ?_)
      refine r_goto (tgt := 156) hZ dX12_text_181 (by decide) ?_
      exact r_pick [0, 4, 7] (ls' := [(0, .ref p0), (4, .int p4), (7, .int x5)]) rfl (ih _ (ki_l H))
def f_X12_text  (h : Hp) (a0 : Nat) (a1 : Int32) : Option (Int32 × Hp) :=
  (isO h a0 11).bind fun u1 =>
  (f_X12_wrongRow h a0 a1 (J 0)).bind fun r2 =>
  (if r2 = 0 then
    (isO h a0 11).bind fun u3 =>
    (f_X12_opens h a0 a1).bind fun r4 =>
    (iter (b_X12_text_18 a0) FU r4).bind fun e5 =>
    (match e5 with
    | .inl e6 =>
      (gI e6 a0 11 12).bind fun x7 =>
      some (((J (-1000)) - x7), e6)
    | .inr e8 =>
      (some (J 0)).bind fun x9 =>
      (iter (b_X12_text_47 a0) FU (x9, e8)).bind fun e10 =>
      (pF e10 a0 11 12 (.int (J 0))).bind fun h11 =>
      (some (J 0)).bind fun x12 =>
      (iter (b_X12_text_79 a0) FU (x12, h11)).bind fun e13 =>
      (match e13 with
      | .inl e14 =>
        some (e14.1, e14.2)
      | .inr e15 =>
        (some (J 0)).bind fun x16 =>
        (iter (b_X12_text_156 a0 e15.1) FU (x16, e15.2)).bind fun e17 =>
        some (((J (-2000)) - e15.1), e17)))
  else
    some (r2, h))
set_option maxRecDepth 100000 in
set_option maxHeartbeats 4000000 in
theorem s_X12_text {n : Nat} {h : Hp} {a0 : Nat} {a1 : Int32}  {r : Int32 × Hp} (hf : f_X12_text  h a0 a1 = some r) : Ev 5 yX12_text cX12_text 8 (some .int) [.ref a0, .int a1] n h (some (.int r.1)) n r.2 := by
  refine Ev_of RX12 rfl (by decide) (Nat.le_of_ble_eq_true rfl) (Nat.le_refl _) (Or.inl rfl) (fun Z hZ hF hN hI => ?_)
  have H : Ok (f_X12_text  h a0 a1) (fun y => y = r) := ⟨_, hf, rfl⟩
  unfold f_X12_text at H
  refine r_ls (ls' := [(0, .ref a0), (1, .int a1)]) rfl ?_
  refine r_aload_n hZ dX12_text_0 rfl ?_
  refine r_iload_n hZ dX12_text_1 rfl ?_
  refine r_iconst (v := (J 0)) hZ dX12_text_2 (by decide) ?_
  obtain ⟨u1, eu1, H⟩ := ok_bind H
  obtain ⟨r2, er2, H⟩ := ok_bind H
  refine r_callV (As := [.int a1, .int (J 0)]) (rest := []) (st1 := [.int r2]) (N2 := 0) hZ dX12_text_3 cw_X12_130_X12 rfl eu1 (s_X12_wrongRow er2) rfl rfl (by decide) (Nat.le_of_ble_eq_true rfl) (Nat.le_refl 0) (Nat.le_refl _) (Or.inl rfl) rfl ?_
  refine r_istore_n hZ dX12_text_6 (by decide) (r_pick [0, 1, 2] (ls' := [(0, .ref a0), (1, .int a1), (2, .int r2)]) rfl ?_)
  refine r_iload_n hZ dX12_text_7 rfl ?_
  refine r_if_eq (tgt := 13) hZ dX12_text_8 (by decide) (fun c18 => ?_) (fun c18 => ?_)
  · have H := ok_t H c18
    refine r_aload_n hZ dX12_text_13 rfl ?_
    refine r_iload_n hZ dX12_text_14 rfl ?_
    obtain ⟨u3, eu3, H⟩ := ok_bind H
    obtain ⟨r4, er4, H⟩ := ok_bind H
    refine r_callV (As := [.int a1]) (rest := []) (st1 := []) (N2 := 0) hZ dX12_text_15 cw_X12_133_X12 rfl eu3 (s_X12_opens er4) rfl rfl (by decide) (Nat.le_of_ble_eq_true rfl) (Nat.le_refl 0) (Nat.le_refl _) (Or.inl rfl) rfl ?_
    have H := ok_bindK H
    refine r_pick [0] (ls' := [(0, .ref a0)]) rfl (l_X12_text_18 hZ (fun e6 H => ?_) (fun e8 H => ?_) FU _ H)
    · refine r_sipush (v := (J (-1000))) hZ dX12_text_25 (by decide) ?_
      refine r_aload_n hZ dX12_text_28 rfl ?_
      obtain ⟨x7, ex7, H⟩ := ok_bind H
      refine r_getI hZ fl_X12_90_11 dX12_text_29 ex7 ?_
      refine r_isub hZ dX12_text_32 ?_
      have H := ok_some H
      subst H
      exact r_iret hZ hF dX12_text_33
    · refine r_iconst (v := (J 0)) hZ dX12_text_45 (by decide) ?_
      obtain ⟨x9, ex9, H⟩ := ok_bind H
      refine r_topi ex9 ?_
      refine r_istore_n hZ dX12_text_46 (by decide) (r_pick [0, 3] (ls' := [(0, .ref a0), (3, .int x9)]) rfl ?_)
      have H := ok_bindK H
      refine r_pick [0, 3] (ls' := [(0, .ref a0), (3, .int x9)]) rfl (l_X12_text_47 hZ (fun e10 H => ?_) FU _ H)
      · refine r_aload_n hZ dX12_text_72 rfl ?_
        refine r_iconst (v := (J 0)) hZ dX12_text_73 (by decide) ?_
        obtain ⟨h11, eh11, H⟩ := ok_bind H
        refine r_putf hZ fl_X12_90_11 dX12_text_74 eh11 rfl rfl ?_
        refine r_iconst (v := (J 0)) hZ dX12_text_77 (by decide) ?_
        obtain ⟨x12, ex12, H⟩ := ok_bind H
        refine r_topi ex12 ?_
        refine r_istore_n hZ dX12_text_78 (by decide) (r_pick [0, 3] (ls' := [(0, .ref a0), (3, .int x12)]) rfl ?_)
        have H := ok_bindK H
        refine r_pick [0, 3] (ls' := [(0, .ref a0), (3, .int x12)]) rfl (l_X12_text_79 hZ (fun e14 H => ?_) (fun e15 H => ?_) FU _ H)
        · refine r_iload_n hZ dX12_text_191 rfl ?_
          have H := ok_some H
          subst H
          exact r_iret hZ hF dX12_text_192
        · refine r_iconst (v := (J 0)) hZ dX12_text_153 (by decide) ?_
          obtain ⟨x16, ex16, H⟩ := ok_bind H
          refine r_topi ex16 ?_
          refine r_istore hZ dX12_text_154 (by decide) (r_pick [0, 4, 7] (ls' := [(0, .ref a0), (4, .int e15.1), (7, .int x16)]) rfl ?_)
          have H := ok_bindK H
          refine r_pick [0, 4, 7] (ls' := [(0, .ref a0), (4, .int e15.1), (7, .int x16)]) rfl (l_X12_text_156 hZ (fun e17 H => ?_) FU _ H)
          · refine r_sipush (v := (J (-2000))) hZ dX12_text_184 (by decide) ?_
            refine r_iload hZ dX12_text_187 rfl ?_
            refine r_isub hZ dX12_text_189 ?_
            have H := ok_some H
            subst H
            exact r_iret hZ hF dX12_text_190
  · have H := ok_f H c18
    refine r_iload_n hZ dX12_text_11 rfl ?_
    have H := ok_some H
    subst H
    exact r_iret hZ hF dX12_text_12
def f_X12_gear  (h : Hp) (a0 : Nat) (a1 : Int32) (a2 : Int32) : Option (Int32) :=
  (isO h a0 11).bind fun u1 =>
  (f_X12_isGear h a0 a1).bind fun r2 =>
  (if r2 = 0 then
    some (J (-1))
  else
    (if a2 = (J 0) ∨ a2 = (J 1) ∨ a2 = (J 2) then
      (gR h a0 11 1).bind fun x3 =>
      (aI h x3 (((J 19) * a1) + a2)).bind fun x4 =>
      some x4
    else
      (if a2 = (J 3) then
        (isO h a0 11).bind fun u8 =>
        (f_X12_hard h a0 a1).bind fun r9 =>
        some r9
      else
        (if a2 = (J 4) then
          (isO h a0 11).bind fun u11 =>
          (f_X12_stiff h a0 a1).bind fun r12 =>
          some r12
        else
          (if a2 = (J 5) then
            (isO h a0 11).bind fun u14 =>
            (f_X12_thin h a0 a1).bind fun r15 =>
            some r15
          else
            (if a2 = (J 6) then
              (isO h a0 11).bind fun u17 =>
              (f_X12_widthOf h a0 a1 (J 15)).bind fun r18 =>
              some r18
            else
              (if a2 = (J 7) then
                (isO h a0 11).bind fun u20 =>
                (f_X12_undercut h a0 a1).bind fun r21 =>
                some r21
              else
                some (J (-1)))))))))
set_option maxRecDepth 100000 in
set_option maxHeartbeats 4000000 in
theorem s_X12_gear {n : Nat} {h : Hp} {a0 : Nat} {a1 : Int32} {a2 : Int32}  {r : Int32} (hf : f_X12_gear  h a0 a1 a2 = some r) : Ev 4 yX12_gear cX12_gear 3 (some .int) [.ref a0, .int a1, .int a2] n h (some (.int r)) n h := by
  refine Ev_of RX12 rfl (by decide) (Nat.le_of_ble_eq_true rfl) (Nat.le_refl _) (Or.inl rfl) (fun Z hZ hF hN hI => ?_)
  have H : Ok (f_X12_gear  h a0 a1 a2) (fun y => y = r) := ⟨_, hf, rfl⟩
  unfold f_X12_gear at H
  refine r_ls (ls' := [(0, .ref a0), (1, .int a1), (2, .int a2)]) rfl ?_
  refine r_aload_n hZ dX12_gear_0 rfl ?_
  refine r_iload_n hZ dX12_gear_1 rfl ?_
  obtain ⟨u1, eu1, H⟩ := ok_bind H
  obtain ⟨r2, er2, H⟩ := ok_bind H
  refine r_callV (As := [.int a1]) (rest := []) (st1 := [.int r2]) (N2 := 0) hZ dX12_gear_2 cw_X12_121_X12 rfl eu1 (s_X12_isGear er2) rfl rfl (by decide) (Nat.le_of_ble_eq_true rfl) (Nat.le_refl 0) (Nat.le_refl _) (Or.inl rfl) rfl ?_
  refine r_if_ne (tgt := 10) hZ dX12_gear_5 (by decide) (fun c23 => ?_) (fun c23 => ?_)
  · have H := ok_f H c23
    refine r_iload_n hZ dX12_gear_10 rfl ?_
    by_cases c5 : a2 = (J 0) ∨ a2 = (J 1) ∨ a2 = (J 2)
    · have hs : R Z 56 [(0, .ref a0), (1, .int a1), (2, .int a2)] [] n h 0 → R Z 11 [(0, .ref a0), (1, .int a1), (2, .int a2)] [.int a2] n h 0 := by
        rcases c5 with c5 | c5 | c5
        · exact fun k => r_tableIn hZ dX12_gear_11 (by rw [c5]; decide) (by rw [c5]; decide) (off := 45) (by rw [c5]; rfl) (by decide) k
        · exact fun k => r_tableIn hZ dX12_gear_11 (by rw [c5]; decide) (by rw [c5]; decide) (off := 45) (by rw [c5]; rfl) (by decide) k
        · exact fun k => r_tableIn hZ dX12_gear_11 (by rw [c5]; decide) (by rw [c5]; decide) (off := 45) (by rw [c5]; rfl) (by decide) k
      refine hs ?_
      clear hs
      have H := ok_t H c5
      refine r_aload_n hZ dX12_gear_56 rfl ?_
      obtain ⟨x3, ex3, H⟩ := ok_bind H
      refine r_getR hZ fl_X12_13_11 dX12_gear_57 ex3 ?_
      refine r_bipush (v := (J 19)) hZ dX12_gear_60 (by decide) ?_
      refine r_iload_n hZ dX12_gear_62 rfl ?_
      refine r_imul hZ dX12_gear_63 ?_
      refine r_iload_n hZ dX12_gear_64 rfl ?_
      refine r_iadd hZ dX12_gear_65 ?_
      obtain ⟨x4, ex4, H⟩ := ok_bind H
      refine r_aI hZ dX12_gear_66 ex4 ?_
      have H := ok_some H
      subst H
      exact r_iret hZ hF dX12_gear_67
    · have H := ok_f H c5
      have c7 := fun q => c5 (Or.inr (Or.inr q))
      have c6 := fun q => c5 (Or.inr (Or.inl q))
      have c5 := fun q => c5 (Or.inl q)
      by_cases c10 : a2 = (J 3)
      · have hs : R Z 68 [(0, .ref a0), (1, .int a1), (2, .int a2)] [] n h 0 → R Z 11 [(0, .ref a0), (1, .int a1), (2, .int a2)] [.int a2] n h 0 := by
          exact fun k => r_tableIn hZ dX12_gear_11 (by rw [c10]; decide) (by rw [c10]; decide) (off := 57) (by rw [c10]; rfl) (by decide) k
        refine hs ?_
        clear hs
        have H := ok_t H c10
        refine r_aload_n hZ dX12_gear_68 rfl ?_
        refine r_iload_n hZ dX12_gear_69 rfl ?_
        obtain ⟨u8, eu8, H⟩ := ok_bind H
        obtain ⟨r9, er9, H⟩ := ok_bind H
        refine r_callV (As := [.int a1]) (rest := []) (st1 := [.int r9]) (N2 := 0) hZ dX12_gear_70 cw_X12_149_X12 rfl eu8 (s_X12_hard er9) rfl rfl (by decide) (Nat.le_of_ble_eq_true rfl) (Nat.le_refl 0) (Nat.le_refl _) (Or.inl rfl) rfl ?_
        have H := ok_some H
        subst H
        exact r_iret hZ hF dX12_gear_73
      · have H := ok_f H c10
        by_cases c13 : a2 = (J 4)
        · have hs : R Z 74 [(0, .ref a0), (1, .int a1), (2, .int a2)] [] n h 0 → R Z 11 [(0, .ref a0), (1, .int a1), (2, .int a2)] [.int a2] n h 0 := by
            exact fun k => r_tableIn hZ dX12_gear_11 (by rw [c13]; decide) (by rw [c13]; decide) (off := 63) (by rw [c13]; rfl) (by decide) k
          refine hs ?_
          clear hs
          have H := ok_t H c13
          refine r_aload_n hZ dX12_gear_74 rfl ?_
          refine r_iload_n hZ dX12_gear_75 rfl ?_
          obtain ⟨u11, eu11, H⟩ := ok_bind H
          obtain ⟨r12, er12, H⟩ := ok_bind H
          refine r_callV (As := [.int a1]) (rest := []) (st1 := [.int r12]) (N2 := 0) hZ dX12_gear_76 cw_X12_152_X12 rfl eu11 (s_X12_stiff er12) rfl rfl (by decide) (Nat.le_of_ble_eq_true rfl) (Nat.le_refl 0) (Nat.le_refl _) (Or.inl rfl) rfl ?_
          have H := ok_some H
          subst H
          exact r_iret hZ hF dX12_gear_79
        · have H := ok_f H c13
          by_cases c16 : a2 = (J 5)
          · have hs : R Z 80 [(0, .ref a0), (1, .int a1), (2, .int a2)] [] n h 0 → R Z 11 [(0, .ref a0), (1, .int a1), (2, .int a2)] [.int a2] n h 0 := by
              exact fun k => r_tableIn hZ dX12_gear_11 (by rw [c16]; decide) (by rw [c16]; decide) (off := 69) (by rw [c16]; rfl) (by decide) k
            refine hs ?_
            clear hs
            have H := ok_t H c16
            refine r_aload_n hZ dX12_gear_80 rfl ?_
            refine r_iload_n hZ dX12_gear_81 rfl ?_
            obtain ⟨u14, eu14, H⟩ := ok_bind H
            obtain ⟨r15, er15, H⟩ := ok_bind H
            refine r_callV (As := [.int a1]) (rest := []) (st1 := [.int r15]) (N2 := 0) hZ dX12_gear_82 cw_X12_155_X12 rfl eu14 (s_X12_thin er15) rfl rfl (by decide) (Nat.le_of_ble_eq_true rfl) (Nat.le_refl 0) (Nat.le_refl _) (Or.inl rfl) rfl ?_
            have H := ok_some H
            subst H
            exact r_iret hZ hF dX12_gear_85
          · have H := ok_f H c16
            by_cases c19 : a2 = (J 6)
            · have hs : R Z 86 [(0, .ref a0), (1, .int a1), (2, .int a2)] [] n h 0 → R Z 11 [(0, .ref a0), (1, .int a1), (2, .int a2)] [.int a2] n h 0 := by
                exact fun k => r_tableIn hZ dX12_gear_11 (by rw [c19]; decide) (by rw [c19]; decide) (off := 75) (by rw [c19]; rfl) (by decide) k
              refine hs ?_
              clear hs
              have H := ok_t H c19
              refine r_aload_n hZ dX12_gear_86 rfl ?_
              refine r_iload_n hZ dX12_gear_87 rfl ?_
              refine r_bipush (v := (J 15)) hZ dX12_gear_88 (by decide) ?_
              obtain ⟨u17, eu17, H⟩ := ok_bind H
              obtain ⟨r18, er18, H⟩ := ok_bind H
              refine r_callV (As := [.int a1, .int (J 15)]) (rest := []) (st1 := [.int r18]) (N2 := 0) hZ dX12_gear_90 cw_X12_86_X12 rfl eu17 (s_X12_widthOf er18) rfl rfl (by decide) (Nat.le_of_ble_eq_true rfl) (Nat.le_refl 0) (Nat.le_refl _) (Or.inl rfl) rfl ?_
              have H := ok_some H
              subst H
              exact r_iret hZ hF dX12_gear_93
            · have H := ok_f H c19
              by_cases c22 : a2 = (J 7)
              · have hs : R Z 94 [(0, .ref a0), (1, .int a1), (2, .int a2)] [] n h 0 → R Z 11 [(0, .ref a0), (1, .int a1), (2, .int a2)] [.int a2] n h 0 := by
                  exact fun k => r_tableIn hZ dX12_gear_11 (by rw [c22]; decide) (by rw [c22]; decide) (off := 83) (by rw [c22]; rfl) (by decide) k
                refine hs ?_
                clear hs
                have H := ok_t H c22
                refine r_aload_n hZ dX12_gear_94 rfl ?_
                refine r_iload_n hZ dX12_gear_95 rfl ?_
                obtain ⟨u20, eu20, H⟩ := ok_bind H
                obtain ⟨r21, er21, H⟩ := ok_bind H
                refine r_callV (As := [.int a1]) (rest := []) (st1 := [.int r21]) (N2 := 0) hZ dX12_gear_96 cw_X12_158_X12 rfl eu20 (s_X12_undercut er21) rfl rfl (by decide) (Nat.le_of_ble_eq_true rfl) (Nat.le_refl 0) (Nat.le_refl _) (Or.inl rfl) rfl ?_
                have H := ok_some H
                subst H
                exact r_iret hZ hF dX12_gear_99
              · have H := ok_f H c22
                refine r_tableOut (tgt := 100) hZ dX12_gear_11 (by have := sw_n c5; have := sw_n c6; have := sw_n c7; have := sw_n c10; have := sw_n c13; have := sw_n c16; have := sw_n c19; have := sw_n c22; omega) (by decide) ?_
                refine r_iconst (v := (J (-1))) hZ dX12_gear_100 (by decide) ?_
                have H := ok_some H
                subst H
                exact r_iret hZ hF dX12_gear_101
  · have H := ok_t H c23
    refine r_iconst (v := (J (-1))) hZ dX12_gear_8 (by decide) ?_
    have H := ok_some H
    subst H
    exact r_iret hZ hF dX12_gear_9
def f_X12_width  (h : Hp) (a0 : Nat) (a1 : Int32) (a2 : Int32) : Option (Int32) :=
  (isO h a0 11).bind fun u1 =>
  (f_X12_isGear h a0 a1).bind fun r2 =>
  ((if r2 = 0 then
    some (J (-1))
  else
    (f_X12_isIn (a2.toInt64) (K 0) (K 15)).bind fun r4 =>
    (if r4 = 0 then
      some (J (-1))
    else
      (isO h a0 11).bind fun u5 =>
      (f_X12_widthOf h a0 a1 a2).bind fun r6 =>
      some r6))).bind fun (j3 : Int32) =>
  some j3
set_option maxRecDepth 100000 in
set_option maxHeartbeats 4000000 in
theorem s_X12_width {n : Nat} {h : Hp} {a0 : Nat} {a1 : Int32} {a2 : Int32}  {r : Int32} (hf : f_X12_width  h a0 a1 a2 = some r) : Ev 4 yX12_width cX12_width 3 (some .int) [.ref a0, .int a1, .int a2] n h (some (.int r)) n h := by
  refine Ev_of RX12 rfl (by decide) (Nat.le_of_ble_eq_true rfl) (Nat.le_refl _) (Or.inl rfl) (fun Z hZ hF hN hI => ?_)
  have H : Ok (f_X12_width  h a0 a1 a2) (fun y => y = r) := ⟨_, hf, rfl⟩
  unfold f_X12_width at H
  refine r_ls (ls' := [(0, .ref a0), (1, .int a1), (2, .int a2)]) rfl ?_
  refine r_aload_n hZ dX12_width_0 rfl ?_
  refine r_iload_n hZ dX12_width_1 rfl ?_
  obtain ⟨u1, eu1, H⟩ := ok_bind H
  obtain ⟨r2, er2, H⟩ := ok_bind H
  refine r_callV (As := [.int a1]) (rest := []) (st1 := [.int r2]) (N2 := 0) hZ dX12_width_2 cw_X12_121_X12 rfl eu1 (s_X12_isGear er2) rfl rfl (by decide) (Nat.le_of_ble_eq_true rfl) (Nat.le_refl 0) (Nat.le_refl _) (Or.inl rfl) rfl ?_
  refine ok_join (Q := fun j3 : Int32 => R Z 30 [] [.int j3] n h 0) H (fun j3 H => ?_) (fun H => ?_)
  · have H := ok_some H
    subst H
    exact r_iret hZ hF dX12_width_30
  · refine r_if_eq (tgt := 29) hZ dX12_width_5 (by decide) (fun c8 => ?_) (fun c8 => ?_)
    · have H := ok_t H c8
      refine r_iconst (v := (J (-1))) hZ dX12_width_29 (by decide) ?_
      have H := ok_some H
      exact r_pick [] (ls' := []) rfl H
    · have H := ok_f H c8
      refine r_iload_n hZ dX12_width_8 rfl ?_
      refine r_i2l hZ dX12_width_9 ?_
      refine r_lconst (v := (K 0)) hZ dX12_width_10 (by decide) ?_
      refine r_ldc2 (v := (K 15)) hZ wc_X12_161 dX12_width_11 ?_
      obtain ⟨r4, er4, H⟩ := ok_bind H
      refine r_callS (As := [.long (a2.toInt64), .long (K 0), .long (K 15)]) (rest := []) (st1 := [.int r4]) (N2 := 0) hZ dX12_width_14 cw_X12_73 (s_X12_isIn er4) rfl rfl (by decide) (Nat.le_of_ble_eq_true rfl) (Nat.le_refl 0) (Nat.le_refl _) (Or.inl rfl) rfl ?_
      refine r_if_eq (tgt := 29) hZ dX12_width_17 (by decide) (fun c7 => ?_) (fun c7 => ?_)
      · have H := ok_t H c7
        refine r_iconst (v := (J (-1))) hZ dX12_width_29 (by decide) ?_
        have H := ok_some H
        exact r_pick [] (ls' := []) rfl H
      · have H := ok_f H c7
        refine r_aload_n hZ dX12_width_20 rfl ?_
        refine r_iload_n hZ dX12_width_21 rfl ?_
        refine r_iload_n hZ dX12_width_22 rfl ?_
        obtain ⟨u5, eu5, H⟩ := ok_bind H
        obtain ⟨r6, er6, H⟩ := ok_bind H
        refine r_callV (As := [.int a1, .int a2]) (rest := []) (st1 := [.int r6]) (N2 := 0) hZ dX12_width_23 cw_X12_86_X12 rfl eu5 (s_X12_widthOf er6) rfl rfl (by decide) (Nat.le_of_ble_eq_true rfl) (Nat.le_refl 0) (Nat.le_refl _) (Or.inl rfl) rfl ?_
        refine r_goto (tgt := 30) hZ dX12_width_26 (by decide) ?_
        have H := ok_some H
        exact r_pick [] (ls' := []) rfl H
def f_X12_mesh  (h : Hp) (a0 : Nat) (a1 : Int32) (a2 : Int32) : Option (Int32) :=
  (isO h a0 11).bind fun u1 =>
  (f_X12_isMesh h a0 a1).bind fun r2 =>
  ((if r2 = 0 then
    some (J (-1))
  else
    (f_X12_isIn (a2.toInt64) (K 0) (K 2)).bind fun r4 =>
    (if r4 = 0 then
      some (J (-1))
    else
      (isO h a0 11).bind fun u5 =>
      (f_X12_meshOf h a0 a1 a2).bind fun r6 =>
      some r6))).bind fun (j3 : Int32) =>
  some j3
set_option maxRecDepth 100000 in
set_option maxHeartbeats 4000000 in
theorem s_X12_mesh {n : Nat} {h : Hp} {a0 : Nat} {a1 : Int32} {a2 : Int32}  {r : Int32} (hf : f_X12_mesh  h a0 a1 a2 = some r) : Ev 4 yX12_mesh cX12_mesh 3 (some .int) [.ref a0, .int a1, .int a2] n h (some (.int r)) n h := by
  refine Ev_of RX12 rfl (by decide) (Nat.le_of_ble_eq_true rfl) (Nat.le_refl _) (Or.inl rfl) (fun Z hZ hF hN hI => ?_)
  have H : Ok (f_X12_mesh  h a0 a1 a2) (fun y => y = r) := ⟨_, hf, rfl⟩
  unfold f_X12_mesh at H
  refine r_ls (ls' := [(0, .ref a0), (1, .int a1), (2, .int a2)]) rfl ?_
  refine r_aload_n hZ dX12_mesh_0 rfl ?_
  refine r_iload_n hZ dX12_mesh_1 rfl ?_
  obtain ⟨u1, eu1, H⟩ := ok_bind H
  obtain ⟨r2, er2, H⟩ := ok_bind H
  refine r_callV (As := [.int a1]) (rest := []) (st1 := [.int r2]) (N2 := 0) hZ dX12_mesh_2 cw_X12_163_X12 rfl eu1 (s_X12_isMesh er2) rfl rfl (by decide) (Nat.le_of_ble_eq_true rfl) (Nat.le_refl 0) (Nat.le_refl _) (Or.inl rfl) rfl ?_
  refine ok_join (Q := fun j3 : Int32 => R Z 30 [] [.int j3] n h 0) H (fun j3 H => ?_) (fun H => ?_)
  · have H := ok_some H
    subst H
    exact r_iret hZ hF dX12_mesh_30
  · refine r_if_eq (tgt := 29) hZ dX12_mesh_5 (by decide) (fun c8 => ?_) (fun c8 => ?_)
    · have H := ok_t H c8
      refine r_iconst (v := (J (-1))) hZ dX12_mesh_29 (by decide) ?_
      have H := ok_some H
      exact r_pick [] (ls' := []) rfl H
    · have H := ok_f H c8
      refine r_iload_n hZ dX12_mesh_8 rfl ?_
      refine r_i2l hZ dX12_mesh_9 ?_
      refine r_lconst (v := (K 0)) hZ dX12_mesh_10 (by decide) ?_
      refine r_ldc2 (v := (K 2)) hZ wc_X12_166 dX12_mesh_11 ?_
      obtain ⟨r4, er4, H⟩ := ok_bind H
      refine r_callS (As := [.long (a2.toInt64), .long (K 0), .long (K 2)]) (rest := []) (st1 := [.int r4]) (N2 := 0) hZ dX12_mesh_14 cw_X12_73 (s_X12_isIn er4) rfl rfl (by decide) (Nat.le_of_ble_eq_true rfl) (Nat.le_refl 0) (Nat.le_refl _) (Or.inl rfl) rfl ?_
      refine r_if_eq (tgt := 29) hZ dX12_mesh_17 (by decide) (fun c7 => ?_) (fun c7 => ?_)
      · have H := ok_t H c7
        refine r_iconst (v := (J (-1))) hZ dX12_mesh_29 (by decide) ?_
        have H := ok_some H
        exact r_pick [] (ls' := []) rfl H
      · have H := ok_f H c7
        refine r_aload_n hZ dX12_mesh_20 rfl ?_
        refine r_iload_n hZ dX12_mesh_21 rfl ?_
        refine r_iload_n hZ dX12_mesh_22 rfl ?_
        obtain ⟨u5, eu5, H⟩ := ok_bind H
        obtain ⟨r6, er6, H⟩ := ok_bind H
        refine r_callV (As := [.int a1, .int a2]) (rest := []) (st1 := [.int r6]) (N2 := 0) hZ dX12_mesh_23 cw_X12_118_X12 rfl eu5 (s_X12_meshOf er6) rfl rfl (by decide) (Nat.le_of_ble_eq_true rfl) (Nat.le_refl 0) (Nat.le_refl _) (Or.inl rfl) rfl ?_
        refine r_goto (tgt := 30) hZ dX12_mesh_26 (by decide) ?_
        have H := ok_some H
        exact r_pick [] (ls' := []) rfl H
def b_X12_common_17  (s : Int64 × Int64) : Option ((Int64 × Int64) ⊕ ((Int64))) :=
  (if (lg_cmp s.2 (K 0)) = 0 then
    some (.inr (s.1))
  else
    (nzL s.2).bind fun u1 =>
    (some (s.1 - s.1 / s.2 * s.2)).bind fun x2 =>
    some (.inl (s.2, x2)))
set_option maxRecDepth 100000 in
set_option maxHeartbeats 4000000 in
theorem l_X12_common_17 {Z : Zc} (hZ : Fx cX12_common RX12 10 2 0 Z) {n : Nat} {h : Hp}  {P : ((Int64)) → Prop} (hx0 : ∀ e : Int64, P (e) → R Z 42 [(4, .long e)] [] n h 0) : ∀ (m : Nat) (s : Int64 × Int64), Ok (iter (b_X12_common_17 ) m s) P → R Z 17 [(4, .long s.1), (6, .long s.2)] [] n h 0 := by
  intro m
  induction m with
  | zero => exact fun s H => ok_iter0 H
  | succ m ih =>
    intro s H
    have H := ok_iter H
    unfold b_X12_common_17 at H
    refine r_lload hZ dX12_common_17 rfl ?_
    refine r_lconst (v := (K 0)) hZ dX12_common_19 (by decide) ?_
    refine r_lcmp hZ dX12_common_20 ?_
    refine r_if_eq (tgt := 42) hZ dX12_common_21 (by decide) (fun c3 => ?_) (fun c3 => ?_)
    · have H := ok_t H c3
      exact r_pick [4] (ls' := [(4, .long s.1)]) rfl (hx0 _ (ki_r H))
    · have H := ok_f H c3
      refine r_lload hZ dX12_common_24 rfl ?_
      refine r_lload hZ dX12_common_26 rfl ?_
      obtain ⟨u1, eu1, H⟩ := ok_bind H
      refine r_lrem hZ dX12_common_28 (nzL_ne eu1) ?_
      obtain ⟨x2, ex2, H⟩ := ok_bind H
      refine r_topl ex2 ?_
      refine r_lstore hZ dX12_common_29 (by decide) (r_pick [6, 8] (ls' := [(6, .long s.2), (8, .long x2)]) rfl ?_)
      refine r_lload hZ dX12_common_31 rfl ?_
      refine r_lstore hZ dX12_common_33 (by decide) (r_pick [4, 8] (ls' := [(4, .long s.2), (8, .long x2)]) rfl ?_)
      refine r_lload hZ dX12_common_35 rfl ?_
      refine r_lstore hZ dX12_common_37 (by decide) (r_pick [4, 6] (ls' := [(4, .long s.2), (6, .long x2)]) rfl ?_)
      refine r_goto (tgt := 17) hZ dX12_common_39 (by decide) ?_
      exact r_pick [4, 6] (ls' := [(4, .long s.2), (6, .long x2)]) rfl (ih _ (ki_l H))
def f_X12_common  (a0 : Int64) (a2 : Int64) : Option (Int64) :=
  ((if 0 ≤ (lg_cmp a0 (K 0)) then
    some a0
  else
    some (-a0))).bind fun (j1 : Int64) =>
  (iter (b_X12_common_17) FU (j1, a2)).bind fun e3 =>
  some e3
set_option maxRecDepth 100000 in
set_option maxHeartbeats 4000000 in
theorem s_X12_common {n : Nat} {h : Hp} {a0 : Int64} {a2 : Int64}  {r : Int64} (hf : f_X12_common  a0 a2 = some r) : Ev 2 yX12_common cX12_common 10 (some .long) [.long a0, .long a2] n h (some (.long r)) n h := by
  refine Ev_of RX12 rfl (by decide) (Nat.le_of_ble_eq_true rfl) (Nat.le_refl _) (Or.inl rfl) (fun Z hZ hF hN hI => ?_)
  have H : Ok (f_X12_common  a0 a2) (fun y => y = r) := ⟨_, hf, rfl⟩
  unfold f_X12_common at H
  refine r_ls (ls' := [(0, .long a0), (2, .long a2)]) rfl ?_
  refine r_lload_n hZ dX12_common_0 rfl ?_
  refine r_lconst (v := (K 0)) hZ dX12_common_1 (by decide) ?_
  refine r_lcmp hZ dX12_common_2 ?_
  refine ok_join (Q := fun j1 : Int64 => R Z 12 [(2, .long a2)] [.long j1] n h 0) H (fun j1 H => ?_) (fun H => ?_)
  · refine r_lstore hZ dX12_common_12 (by decide) (r_pick [2, 4] (ls' := [(2, .long a2), (4, .long j1)]) rfl ?_)
    refine r_lload_n hZ dX12_common_14 rfl ?_
    refine r_lstore hZ dX12_common_15 (by decide) (r_pick [4, 6] (ls' := [(4, .long j1), (6, .long a2)]) rfl ?_)
    have H := ok_bindK H
    refine r_pick [4, 6] (ls' := [(4, .long j1), (6, .long a2)]) rfl (l_X12_common_17 hZ (fun e3 H => ?_) FU _ H)
    · refine r_lload hZ dX12_common_42 rfl ?_
      have H := ok_some H
      subst H
      exact r_lret hZ hF dX12_common_44
  · refine r_if_ge (tgt := 11) hZ dX12_common_3 (by decide) (fun c2 => ?_) (fun c2 => ?_)
    · have H := ok_t H c2
      refine r_lload_n hZ dX12_common_11 rfl ?_
      have H := ok_some H
      exact r_pick [2] (ls' := [(2, .long a2)]) rfl H
    · have H := ok_f H c2
      refine r_lload_n hZ dX12_common_6 rfl ?_
      refine r_lneg hZ dX12_common_7 ?_
      refine r_goto (tgt := 12) hZ dX12_common_8 (by decide) ?_
      have H := ok_some H
      exact r_pick [2] (ls' := [(2, .long a2)]) rfl H
def f_X12_follows  (h : Hp) (a0 : Nat) (a1 : Int32) (a2 : Int32) (a3 : Int32) : Option (Hp) :=
  (isO h a0 11).bind fun u1 =>
  (f_X12_kind h a0 a2).bind fun r2 =>
  ((if r2 = (J 4) then
    some (K 1)
  else
    (isO h a0 11).bind fun u4 =>
    (f_X12_kind h a0 a3).bind fun r5 =>
    (if r5 = (J 4) then
      some (K 1)
    else
      some (K (-1))))).bind fun (j3 : Int64) =>
  (gR h a0 11 19).bind fun x8 =>
  (aL h x8 a1).bind fun x9 =>
  (isO h a0 11).bind fun u10 =>
  (f_X12_teeth h a0 a2).bind fun r11 =>
  (some ((x9 * (r11.toInt64)) * j3)).bind fun x12 =>
  (gR h a0 11 20).bind fun x13 =>
  (aL h x13 a1).bind fun x14 =>
  (isO h a0 11).bind fun u15 =>
  (f_X12_teeth h a0 a3).bind fun r16 =>
  (some (x14 * (r16.toInt64))).bind fun x17 =>
  (f_X12_common x12 x17).bind fun r18 =>
  (nzL r18).bind fun u19 =>
  (pF h a0 11 22 (.long (x12 / r18))).bind fun h20 =>
  (nzL r18).bind fun u21 =>
  (pF h20 a0 11 23 (.long (x17 / r18))).bind fun h22 =>
  some h22
set_option maxRecDepth 100000 in
set_option maxHeartbeats 4000000 in
theorem s_X12_follows {n : Nat} {h : Hp} {a0 : Nat} {a1 : Int32} {a2 : Int32} {a3 : Int32}  {r : Hp} (hf : f_X12_follows  h a0 a1 a2 a3 = some r) : Ev 3 yX12_follows cX12_follows 12 none [.ref a0, .int a1, .int a2, .int a3] n h none n r := by
  refine Ev_of RX12 rfl (by decide) (Nat.le_of_ble_eq_true rfl) (Nat.le_refl _) (Or.inl rfl) (fun Z hZ hF hN hI => ?_)
  have H : Ok (f_X12_follows  h a0 a1 a2 a3) (fun y => y = r) := ⟨_, hf, rfl⟩
  unfold f_X12_follows at H
  refine r_ls (ls' := [(0, .ref a0), (1, .int a1), (2, .int a2), (3, .int a3)]) rfl ?_
  refine r_aload_n hZ dX12_follows_0 rfl ?_
  refine r_iload_n hZ dX12_follows_1 rfl ?_
  obtain ⟨u1, eu1, H⟩ := ok_bind H
  obtain ⟨r2, er2, H⟩ := ok_bind H
  refine r_callV (As := [.int a2]) (rest := []) (st1 := [.int r2]) (N2 := 0) hZ dX12_follows_2 cw_X12_79_X12 rfl eu1 (s_X12_kind er2) rfl rfl (by decide) (Nat.le_of_ble_eq_true rfl) (Nat.le_refl 0) (Nat.le_refl _) (Or.inl rfl) rfl ?_
  refine r_iconst (v := (J 4)) hZ dX12_follows_5 (by decide) ?_
  refine ok_join (Q := fun j3 : Int64 => R Z 25 [(0, .ref a0), (1, .int a1), (2, .int a2), (3, .int a3)] [.long j3] n h 0) H (fun j3 H => ?_) (fun H => ?_)
  · refine r_lstore hZ dX12_follows_25 (by decide) (r_pick [0, 1, 2, 3, 4] (ls' := [(0, .ref a0), (1, .int a1), (2, .int a2), (3, .int a3), (4, .long j3)]) rfl ?_)
    refine r_aload_n hZ dX12_follows_27 rfl ?_
    obtain ⟨x8, ex8, H⟩ := ok_bind H
    refine r_getR hZ fl_X12_49_11 dX12_follows_28 ex8 ?_
    refine r_iload_n hZ dX12_follows_31 rfl ?_
    obtain ⟨x9, ex9, H⟩ := ok_bind H
    refine r_aL hZ dX12_follows_32 ex9 ?_
    refine r_aload_n hZ dX12_follows_33 rfl ?_
    refine r_iload_n hZ dX12_follows_34 rfl ?_
    obtain ⟨u10, eu10, H⟩ := ok_bind H
    obtain ⟨r11, er11, H⟩ := ok_bind H
    refine r_callV (As := [.int a2]) (rest := [.long x9]) (st1 := [.int r11, .long x9]) (N2 := 0) hZ dX12_follows_35 cw_X12_83_X12 rfl eu10 (s_X12_teeth er11) rfl rfl (by decide) (Nat.le_of_ble_eq_true rfl) (Nat.le_refl 0) (Nat.le_refl _) (Or.inl rfl) rfl ?_
    refine r_i2l hZ dX12_follows_38 ?_
    refine r_lmul hZ dX12_follows_39 ?_
    refine r_lload hZ dX12_follows_40 rfl ?_
    refine r_lmul hZ dX12_follows_42 ?_
    obtain ⟨x12, ex12, H⟩ := ok_bind H
    refine r_topl ex12 ?_
    refine r_lstore hZ dX12_follows_43 (by decide) (r_pick [0, 1, 3, 6] (ls' := [(0, .ref a0), (1, .int a1), (3, .int a3), (6, .long x12)]) rfl ?_)
    refine r_aload_n hZ dX12_follows_45 rfl ?_
    obtain ⟨x13, ex13, H⟩ := ok_bind H
    refine r_getR hZ fl_X12_53_11 dX12_follows_46 ex13 ?_
    refine r_iload_n hZ dX12_follows_49 rfl ?_
    obtain ⟨x14, ex14, H⟩ := ok_bind H
    refine r_aL hZ dX12_follows_50 ex14 ?_
    refine r_aload_n hZ dX12_follows_51 rfl ?_
    refine r_iload_n hZ dX12_follows_52 rfl ?_
    obtain ⟨u15, eu15, H⟩ := ok_bind H
    obtain ⟨r16, er16, H⟩ := ok_bind H
    refine r_callV (As := [.int a3]) (rest := [.long x14]) (st1 := [.int r16, .long x14]) (N2 := 0) hZ dX12_follows_53 cw_X12_83_X12 rfl eu15 (s_X12_teeth er16) rfl rfl (by decide) (Nat.le_of_ble_eq_true rfl) (Nat.le_refl 0) (Nat.le_refl _) (Or.inl rfl) rfl ?_
    refine r_i2l hZ dX12_follows_56 ?_
    refine r_lmul hZ dX12_follows_57 ?_
    obtain ⟨x17, ex17, H⟩ := ok_bind H
    refine r_topl ex17 ?_
    refine r_lstore hZ dX12_follows_58 (by decide) (r_pick [0, 6, 8] (ls' := [(0, .ref a0), (6, .long x12), (8, .long x17)]) rfl ?_)
    refine r_lload hZ dX12_follows_60 rfl ?_
    refine r_lload hZ dX12_follows_62 rfl ?_
    obtain ⟨r18, er18, H⟩ := ok_bind H
    refine r_callS (As := [.long x12, .long x17]) (rest := []) (st1 := [.long r18]) (N2 := 0) hZ dX12_follows_64 cw_X12_170 (s_X12_common er18) rfl rfl (by decide) (Nat.le_of_ble_eq_true rfl) (Nat.le_refl 0) (Nat.le_refl _) (Or.inl rfl) rfl ?_
    refine r_lstore hZ dX12_follows_67 (by decide) (r_pick [0, 6, 8, 10] (ls' := [(0, .ref a0), (6, .long x12), (8, .long x17), (10, .long r18)]) rfl ?_)
    refine r_aload_n hZ dX12_follows_69 rfl ?_
    refine r_lload hZ dX12_follows_70 rfl ?_
    refine r_lload hZ dX12_follows_72 rfl ?_
    obtain ⟨u19, eu19, H⟩ := ok_bind H
    refine r_ldiv hZ dX12_follows_74 (nzL_ne eu19) ?_
    obtain ⟨h20, eh20, H⟩ := ok_bind H
    refine r_putf hZ fl_X12_174_11 dX12_follows_75 eh20 rfl rfl ?_
    refine r_aload_n hZ dX12_follows_78 rfl ?_
    refine r_lload hZ dX12_follows_79 rfl ?_
    refine r_lload hZ dX12_follows_81 rfl ?_
    obtain ⟨u21, eu21, H⟩ := ok_bind H
    refine r_ldiv hZ dX12_follows_83 (nzL_ne eu21) ?_
    obtain ⟨h22, eh22, H⟩ := ok_bind H
    refine r_putf hZ fl_X12_178_11 dX12_follows_84 eh22 rfl rfl ?_
    have H := ok_some H
    subst H
    exact r_ret hZ hF dX12_follows_87
  · refine r_icmp_eq (tgt := 18) hZ dX12_follows_6 (by decide) (fun c7 => ?_) (fun c7 => ?_)
    · have H := ok_t H c7
      refine r_lconst (v := (K 1)) hZ dX12_follows_18 (by decide) ?_
      refine r_goto (tgt := 25) hZ dX12_follows_19 (by decide) ?_
      have H := ok_some H
      exact r_pick [0, 1, 2, 3] (ls' := [(0, .ref a0), (1, .int a1), (2, .int a2), (3, .int a3)]) rfl H
    · have H := ok_f H c7
      refine r_aload_n hZ dX12_follows_9 rfl ?_
      refine r_iload_n hZ dX12_follows_10 rfl ?_
      obtain ⟨u4, eu4, H⟩ := ok_bind H
      obtain ⟨r5, er5, H⟩ := ok_bind H
      refine r_callV (As := [.int a3]) (rest := []) (st1 := [.int r5]) (N2 := 0) hZ dX12_follows_11 cw_X12_79_X12 rfl eu4 (s_X12_kind er5) rfl rfl (by decide) (Nat.le_of_ble_eq_true rfl) (Nat.le_refl 0) (Nat.le_refl _) (Or.inl rfl) rfl ?_
      refine r_iconst (v := (J 4)) hZ dX12_follows_14 (by decide) ?_
      refine r_icmp_ne (tgt := 22) hZ dX12_follows_15 (by decide) (fun c6 => ?_) (fun c6 => ?_)
      · have H := ok_f H c6
        refine r_ldc2 (v := (K (-1))) hZ wc_X12_168 dX12_follows_22 ?_
        have H := ok_some H
        exact r_pick [0, 1, 2, 3] (ls' := [(0, .ref a0), (1, .int a1), (2, .int a2), (3, .int a3)]) rfl H
      · have H := ok_t H c6
        refine r_lconst (v := (K 1)) hZ dX12_follows_18 (by decide) ?_
        refine r_goto (tgt := 25) hZ dX12_follows_19 (by decide) ?_
        have H := ok_some H
        exact r_pick [0, 1, 2, 3] (ls' := [(0, .ref a0), (1, .int a1), (2, .int a2), (3, .int a3)]) rfl H
def b_X12_goes_46 (p0 : Nat) (p1 : Int32) (p3 : Int32) (s : Int32 × Int32 × Hp) : Option ((Int32 × Int32 × Hp) ⊕ ((Int32 × Hp))) :=
  (if (J 2) ≤ s.2.1 then
    some (.inr ((s.1, s.2.2)))
  else
    (isO s.2.2 p0 11).bind fun u1 =>
    (f_X12_meshOf s.2.2 p0 p3 s.2.1).bind fun r2 =>
    (isO s.2.2 p0 11).bind fun u3 =>
    (f_X12_meshOf s.2.2 p0 p3 ((J 1) - s.2.1)).bind fun r4 =>
    (gR s.2.2 p0 11 18).bind fun x5 =>
    (isO s.2.2 p0 11).bind fun u6 =>
    (f_X12_shaft s.2.2 p0 r2).bind fun r7 =>
    (aI s.2.2 x5 r7).bind fun x8 =>
    ((if x8 = p1 then
      (isO s.2.2 p0 11).bind fun u10 =>
      (f_X12_shaft s.2.2 p0 r2).bind fun r11 =>
      (isO s.2.2 p0 11).bind fun u12 =>
      (f_X12_follows s.2.2 p0 r11 r2 r4).bind fun r13 =>
      (isO r13 p0 11).bind fun u14 =>
      (f_X12_shaft r13 p0 r4).bind fun r15 =>
      (gR r13 p0 11 18).bind fun x16 =>
      (aI r13 x16 r15).bind fun x17 =>
      (if 0 ≤ x17 then
        (gR r13 p0 11 19).bind fun x18 =>
        (aL r13 x18 r15).bind fun x19 =>
        (gL r13 p0 11 22).bind fun x20 =>
        (if (lg_cmp x19 x20) = 0 then
          (gR r13 p0 11 20).bind fun x23 =>
          (aL r13 x23 r15).bind fun x24 =>
          (gL r13 p0 11 23).bind fun x25 =>
          (if (lg_cmp x24 x25) = 0 then
            some (s.1, r13)
          else
            (gR r13 p0 11 21).bind fun x26 =>
            (sZ r13 x26 p1 (J 1)).bind fun h27 =>
            some (s.1, h27))
        else
          (gR r13 p0 11 21).bind fun x21 =>
          (sZ r13 x21 p1 (J 1)).bind fun h22 =>
          some (s.1, h22))
      else
        (gR r13 p0 11 18).bind fun x30 =>
        (sI r13 x30 r15 p1).bind fun h31 =>
        (gR h31 p0 11 19).bind fun x32 =>
        (gL h31 p0 11 22).bind fun x33 =>
        (sL h31 x32 r15 x33).bind fun h34 =>
        (gR h34 p0 11 20).bind fun x35 =>
        (gL h34 p0 11 23).bind fun x36 =>
        (sL h34 x35 r15 x36).bind fun h37 =>
        (some (J 1)).bind fun x38 =>
        some (x38, h37))
    else
      some (s.1, s.2.2))).bind fun (j9 : Int32 × Hp) =>
    (some (s.2.1 + (J 1))).bind fun x41 =>
    some (.inl (j9.1, x41, j9.2)))
set_option maxRecDepth 100000 in
set_option maxHeartbeats 4000000 in
theorem l_X12_goes_46 {Z : Zc} (hZ : Fx cX12_goes RX12 8 4 0 Z) {n : Nat} {p0 : Nat} {p1 : Int32} {p3 : Int32} {P : ((Int32 × Hp)) → Prop} (hx0 : ∀ e : Int32 × Hp, P (e) → R Z 200 [(0, .ref p0), (1, .int p1), (2, .int e.1), (3, .int p3)] [] n e.2 0) : ∀ (m : Nat) (s : Int32 × Int32 × Hp), Ok (iter (b_X12_goes_46 p0 p1 p3) m s) P → R Z 46 [(0, .ref p0), (1, .int p1), (2, .int s.1), (3, .int p3), (4, .int s.2.1)] [] n s.2.2 0 := by
  intro m
  induction m with
  | zero => exact fun s H => ok_iter0 H
  | succ m ih =>
    intro s H
    have H := ok_iter H
    unfold b_X12_goes_46 at H
    refine r_iload hZ dX12_goes_46 rfl ?_
    refine r_iconst (v := (J 2)) hZ dX12_goes_48 (by decide) ?_
    refine r_icmp_ge (tgt := 200) hZ dX12_goes_49 (by decide) (fun c42 => ?_) (fun c42 => ?_)
    · have H := ok_t H c42
      exact r_pick [0, 1, 2, 3] (ls' := [(0, .ref p0), (1, .int p1), (2, .int s.1), (3, .int p3)]) rfl (hx0 _ (ki_r H))
    · have H := ok_f H c42
      refine r_aload_n hZ dX12_goes_52 rfl ?_
      refine r_iload_n hZ dX12_goes_53 rfl ?_
      refine r_iload hZ dX12_goes_54 rfl ?_
      obtain ⟨u1, eu1, H⟩ := ok_bind H
      obtain ⟨r2, er2, H⟩ := ok_bind H
      refine r_callV (As := [.int p3, .int s.2.1]) (rest := []) (st1 := [.int r2]) (N2 := 0) hZ dX12_goes_56 cw_X12_118_X12 rfl eu1 (s_X12_meshOf er2) rfl rfl (by decide) (Nat.le_of_ble_eq_true rfl) (Nat.le_refl 0) (Nat.le_refl _) (Or.inl rfl) rfl ?_
      refine r_istore hZ dX12_goes_59 (by decide) (r_pick [0, 1, 2, 3, 4, 5] (ls' := [(0, .ref p0), (1, .int p1), (2, .int s.1), (3, .int p3), (4, .int s.2.1), (5, .int r2)]) rfl ?_)
      refine r_aload_n hZ dX12_goes_61 rfl ?_
      refine r_iload_n hZ dX12_goes_62 rfl ?_
      refine r_iconst (v := (J 1)) hZ dX12_goes_63 (by decide) ?_
      refine r_iload hZ dX12_goes_64 rfl ?_
      refine r_isub hZ dX12_goes_66 ?_
      obtain ⟨u3, eu3, H⟩ := ok_bind H
      obtain ⟨r4, er4, H⟩ := ok_bind H
      refine r_callV (As := [.int p3, .int ((J 1) - s.2.1)]) (rest := []) (st1 := [.int r4]) (N2 := 0) hZ dX12_goes_67 cw_X12_118_X12 rfl eu3 (s_X12_meshOf er4) rfl rfl (by decide) (Nat.le_of_ble_eq_true rfl) (Nat.le_refl 0) (Nat.le_refl _) (Or.inl rfl) rfl ?_
      refine r_istore hZ dX12_goes_70 (by decide) (r_pick [0, 1, 2, 3, 4, 5, 6] (ls' := [(0, .ref p0), (1, .int p1), (2, .int s.1), (3, .int p3), (4, .int s.2.1), (5, .int r2), (6, .int r4)]) rfl ?_)
      refine r_aload_n hZ dX12_goes_72 rfl ?_
      obtain ⟨x5, ex5, H⟩ := ok_bind H
      refine r_getR hZ fl_X12_46_11 dX12_goes_73 ex5 ?_
      refine r_aload_n hZ dX12_goes_76 rfl ?_
      refine r_iload hZ dX12_goes_77 rfl ?_
      obtain ⟨u6, eu6, H⟩ := ok_bind H
      obtain ⟨r7, er7, H⟩ := ok_bind H
      refine r_callV (As := [.int r2]) (rest := [.ref x5]) (st1 := [.int r7, .ref x5]) (N2 := 0) hZ dX12_goes_79 cw_X12_181_X12 rfl eu6 (s_X12_shaft er7) rfl rfl (by decide) (Nat.le_of_ble_eq_true rfl) (Nat.le_refl 0) (Nat.le_refl _) (Or.inl rfl) rfl ?_
      obtain ⟨x8, ex8, H⟩ := ok_bind H
      refine r_aI hZ dX12_goes_82 ex8 ?_
      refine r_iload_n hZ dX12_goes_83 rfl ?_
      refine ok_join (Q := fun j9 : Int32 × Hp => R Z 194 [(0, .ref p0), (1, .int p1), (2, .int j9.1), (3, .int p3), (4, .int s.2.1)] [] n j9.2 0) H (fun j9 H => ?_) (fun H => ?_)
      · obtain ⟨x41, ex41, H⟩ := ok_bind H
        refine r_iincE (w := (J 1)) hZ dX12_goes_194 (by decide) rfl (by decide) ex41 (r_pick [0, 1, 2, 3, 4] (ls' := [(0, .ref p0), (1, .int p1), (2, .int j9.1), (3, .int p3), (4, .int x41)]) rfl ?_)
        refine r_goto (tgt := 46) hZ dX12_goes_197 (by decide) ?_
        exact r_pick [0, 1, 2, 3, 4] (ls' := [(0, .ref p0), (1, .int p1), (2, .int j9.1), (3, .int p3), (4, .int x41)]) rfl (ih _ (ki_l H))
      · refine r_icmp_eq (tgt := 90) hZ dX12_goes_84 (by decide) (fun c40 => ?_) (fun c40 => ?_)
        · have H := ok_t H c40
          refine r_aload_n hZ dX12_goes_90 rfl ?_
          refine r_aload_n hZ dX12_goes_91 rfl ?_
          refine r_iload hZ dX12_goes_92 rfl ?_
          obtain ⟨u10, eu10, H⟩ := ok_bind H
          obtain ⟨r11, er11, H⟩ := ok_bind H
          refine r_callV (As := [.int r2]) (rest := [.ref p0]) (st1 := [.int r11, .ref p0]) (N2 := 0) hZ dX12_goes_94 cw_X12_181_X12 rfl eu10 (s_X12_shaft er11) rfl rfl (by decide) (Nat.le_of_ble_eq_true rfl) (Nat.le_refl 0) (Nat.le_refl _) (Or.inl rfl) rfl ?_
          refine r_iload hZ dX12_goes_97 rfl ?_
          refine r_iload hZ dX12_goes_99 rfl ?_
          obtain ⟨u12, eu12, H⟩ := ok_bind H
          obtain ⟨r13, er13, H⟩ := ok_bind H
          refine r_callV (As := [.int r11, .int r2, .int r4]) (rest := []) (st1 := []) (N2 := 0) hZ dX12_goes_101 cw_X12_184_X12 rfl eu12 (s_X12_follows er13) rfl rfl (by decide) (Nat.le_of_ble_eq_true rfl) (Nat.le_refl 0) (Nat.le_refl _) (Or.inl rfl) rfl ?_
          refine r_aload_n hZ dX12_goes_104 rfl ?_
          refine r_iload hZ dX12_goes_105 rfl ?_
          obtain ⟨u14, eu14, H⟩ := ok_bind H
          obtain ⟨r15, er15, H⟩ := ok_bind H
          refine r_callV (As := [.int r4]) (rest := []) (st1 := [.int r15]) (N2 := 0) hZ dX12_goes_107 cw_X12_181_X12 rfl eu14 (s_X12_shaft er15) rfl rfl (by decide) (Nat.le_of_ble_eq_true rfl) (Nat.le_refl 0) (Nat.le_refl _) (Or.inl rfl) rfl ?_
          refine r_istore hZ dX12_goes_110 (by decide) (r_pick [0, 1, 2, 3, 4, 7] (ls' := [(0, .ref p0), (1, .int p1), (2, .int s.1), (3, .int p3), (4, .int s.2.1), (7, .int r15)]) rfl ?_)
          refine r_aload_n hZ dX12_goes_112 rfl ?_
          obtain ⟨x16, ex16, H⟩ := ok_bind H
          refine r_getR hZ fl_X12_46_11 dX12_goes_113 ex16 ?_
          refine r_iload hZ dX12_goes_116 rfl ?_
          obtain ⟨x17, ex17, H⟩ := ok_bind H
          refine r_aI hZ dX12_goes_118 ex17 ?_
          refine r_if_ge (tgt := 157) hZ dX12_goes_119 (by decide) (fun c39 => ?_) (fun c39 => ?_)
          · have H := ok_t H c39
            refine r_aload_n hZ dX12_goes_157 rfl ?_
            obtain ⟨x18, ex18, H⟩ := ok_bind H
            refine r_getR hZ fl_X12_49_11 dX12_goes_158 ex18 ?_
            refine r_iload hZ dX12_goes_161 rfl ?_
            obtain ⟨x19, ex19, H⟩ := ok_bind H
            refine r_aL hZ dX12_goes_163 ex19 ?_
            refine r_aload_n hZ dX12_goes_164 rfl ?_
            obtain ⟨x20, ex20, H⟩ := ok_bind H
            refine r_getL hZ fl_X12_174_11 dX12_goes_165 ex20 ?_
            refine r_lcmp hZ dX12_goes_168 ?_
            refine r_if_ne (tgt := 187) hZ dX12_goes_169 (by decide) (fun c29 => ?_) (fun c29 => ?_)
            · have H := ok_f H c29
              refine r_aload_n hZ dX12_goes_187 rfl ?_
              obtain ⟨x21, ex21, H⟩ := ok_bind H
              refine r_getR hZ fl_X12_56_11 dX12_goes_188 ex21 ?_
              refine r_iload_n hZ dX12_goes_191 rfl ?_
              refine r_iconst (v := (J 1)) hZ dX12_goes_192 (by decide) ?_
              obtain ⟨h22, eh22, H⟩ := ok_bind H
              refine r_sZ hZ dX12_goes_193 eh22 ?_
              have H := ok_some H
              exact r_pick [0, 1, 2, 3, 4] (ls' := [(0, .ref p0), (1, .int p1), (2, .int s.1), (3, .int p3), (4, .int s.2.1)]) rfl H
            · have H := ok_t H c29
              refine r_aload_n hZ dX12_goes_172 rfl ?_
              obtain ⟨x23, ex23, H⟩ := ok_bind H
              refine r_getR hZ fl_X12_53_11 dX12_goes_173 ex23 ?_
              refine r_iload hZ dX12_goes_176 rfl ?_
              obtain ⟨x24, ex24, H⟩ := ok_bind H
              refine r_aL hZ dX12_goes_178 ex24 ?_
              refine r_aload_n hZ dX12_goes_179 rfl ?_
              obtain ⟨x25, ex25, H⟩ := ok_bind H
              refine r_getL hZ fl_X12_178_11 dX12_goes_180 ex25 ?_
              refine r_lcmp hZ dX12_goes_183 ?_
              refine r_if_eq (tgt := 194) hZ dX12_goes_184 (by decide) (fun c28 => ?_) (fun c28 => ?_)
              · have H := ok_t H c28
                have H := ok_some H
                exact r_pick [0, 1, 2, 3, 4] (ls' := [(0, .ref p0), (1, .int p1), (2, .int s.1), (3, .int p3), (4, .int s.2.1)]) rfl H
              · have H := ok_f H c28
                refine r_aload_n hZ dX12_goes_187 rfl ?_
                obtain ⟨x26, ex26, H⟩ := ok_bind H
                refine r_getR hZ fl_X12_56_11 dX12_goes_188 ex26 ?_
                refine r_iload_n hZ dX12_goes_191 rfl ?_
                refine r_iconst (v := (J 1)) hZ dX12_goes_192 (by decide) ?_
                obtain ⟨h27, eh27, H⟩ := ok_bind H
                refine r_sZ hZ dX12_goes_193 eh27 ?_
                have H := ok_some H
                exact r_pick [0, 1, 2, 3, 4] (ls' := [(0, .ref p0), (1, .int p1), (2, .int s.1), (3, .int p3), (4, .int s.2.1)]) rfl H
          · have H := ok_f H c39
            refine r_aload_n hZ dX12_goes_122 rfl ?_
            obtain ⟨x30, ex30, H⟩ := ok_bind H
            refine r_getR hZ fl_X12_46_11 dX12_goes_123 ex30 ?_
            refine r_iload hZ dX12_goes_126 rfl ?_
            refine r_iload_n hZ dX12_goes_128 rfl ?_
            obtain ⟨h31, eh31, H⟩ := ok_bind H
            refine r_sI hZ dX12_goes_129 eh31 ?_
            refine r_aload_n hZ dX12_goes_130 rfl ?_
            obtain ⟨x32, ex32, H⟩ := ok_bind H
            refine r_getR hZ fl_X12_49_11 dX12_goes_131 ex32 ?_
            refine r_iload hZ dX12_goes_134 rfl ?_
            refine r_aload_n hZ dX12_goes_136 rfl ?_
            obtain ⟨x33, ex33, H⟩ := ok_bind H
            refine r_getL hZ fl_X12_174_11 dX12_goes_137 ex33 ?_
            obtain ⟨h34, eh34, H⟩ := ok_bind H
            refine r_sL hZ dX12_goes_140 eh34 ?_
            refine r_aload_n hZ dX12_goes_141 rfl ?_
            obtain ⟨x35, ex35, H⟩ := ok_bind H
            refine r_getR hZ fl_X12_53_11 dX12_goes_142 ex35 ?_
            refine r_iload hZ dX12_goes_145 rfl ?_
            refine r_aload_n hZ dX12_goes_147 rfl ?_
            obtain ⟨x36, ex36, H⟩ := ok_bind H
            refine r_getL hZ fl_X12_178_11 dX12_goes_148 ex36 ?_
            obtain ⟨h37, eh37, H⟩ := ok_bind H
            refine r_sL hZ dX12_goes_151 eh37 ?_
            refine r_iconst (v := (J 1)) hZ dX12_goes_152 (by decide) ?_
            obtain ⟨x38, ex38, H⟩ := ok_bind H
            refine r_topi ex38 ?_
            refine r_istore_n hZ dX12_goes_153 (by decide) (r_pick [0, 1, 2, 3, 4] (ls' := [(0, .ref p0), (1, .int p1), (2, .int x38), (3, .int p3), (4, .int s.2.1)]) rfl ?_)
            refine r_goto (tgt := 194) hZ dX12_goes_154 (by decide) ?_
            have H := ok_some H
            exact r_pick [0, 1, 2, 3, 4] (ls' := [(0, .ref p0), (1, .int p1), (2, .int x38), (3, .int p3), (4, .int s.2.1)]) rfl H
        · have H := ok_f H c40
          refine r_goto (tgt := 194) hZ dX12_goes_87 (by decide) ?_
          have H := ok_some H
          exact r_pick [0, 1, 2, 3, 4] (ls' := [(0, .ref p0), (1, .int p1), (2, .int s.1), (3, .int p3), (4, .int s.2.1)]) rfl H
def b_X12_goes_31 (p0 : Nat) (p1 : Int32) (s : Int32 × Int32 × Hp) : Option ((Int32 × Int32 × Hp) ⊕ ((Int32 × Hp))) :=
  (gR s.2.2 p0 11 1).bind fun x1 =>
  (aI s.2.2 x1 (J 1741)).bind fun x2 =>
  (if x2 ≤ s.2.1 then
    some (.inr ((s.1, s.2.2)))
  else
    (some (J 0)).bind fun x3 =>
    (iter (b_X12_goes_46 p0 p1 s.2.1) FU (s.1, x3, s.2.2)).bind fun e4 =>
    (some (s.2.1 + (J 1))).bind fun x5 =>
    some (.inl (e4.1, x5, e4.2)))
set_option maxRecDepth 100000 in
set_option maxHeartbeats 4000000 in
theorem l_X12_goes_31 {Z : Zc} (hZ : Fx cX12_goes RX12 8 4 0 Z) {n : Nat} {p0 : Nat} {p1 : Int32} {P : ((Int32 × Hp)) → Prop} (hx0 : ∀ e : Int32 × Hp, P (e) → R Z 206 [(0, .ref p0), (1, .int p1), (2, .int e.1)] [] n e.2 0) : ∀ (m : Nat) (s : Int32 × Int32 × Hp), Ok (iter (b_X12_goes_31 p0 p1) m s) P → R Z 31 [(0, .ref p0), (1, .int p1), (2, .int s.1), (3, .int s.2.1)] [] n s.2.2 0 := by
  intro m
  induction m with
  | zero => exact fun s H => ok_iter0 H
  | succ m ih =>
    intro s H
    have H := ok_iter H
    unfold b_X12_goes_31 at H
    refine r_iload_n hZ dX12_goes_31 rfl ?_
    refine r_aload_n hZ dX12_goes_32 rfl ?_
    obtain ⟨x1, ex1, H⟩ := ok_bind H
    refine r_getR hZ fl_X12_13_11 dX12_goes_33 ex1 ?_
    refine r_sipush (v := (J 1741)) hZ dX12_goes_36 (by decide) ?_
    obtain ⟨x2, ex2, H⟩ := ok_bind H
    refine r_aI hZ dX12_goes_39 ex2 ?_
    refine r_icmp_ge (tgt := 206) hZ dX12_goes_40 (by decide) (fun c6 => ?_) (fun c6 => ?_)
    · have H := ok_t H c6
      exact r_pick [0, 1, 2] (ls' := [(0, .ref p0), (1, .int p1), (2, .int s.1)]) rfl (hx0 _ (ki_r H))
    · have H := ok_f H c6
      refine r_iconst (v := (J 0)) hZ dX12_goes_43 (by decide) ?_
      obtain ⟨x3, ex3, H⟩ := ok_bind H
      refine r_topi ex3 ?_
      refine r_istore hZ dX12_goes_44 (by decide) (r_pick [0, 1, 2, 3, 4] (ls' := [(0, .ref p0), (1, .int p1), (2, .int s.1), (3, .int s.2.1), (4, .int x3)]) rfl ?_)
      have H := ok_bindK H
      refine r_pick [0, 1, 2, 3, 4] (ls' := [(0, .ref p0), (1, .int p1), (2, .int s.1), (3, .int s.2.1), (4, .int x3)]) rfl (l_X12_goes_46 hZ (fun e4 H => ?_) FU _ H)
      · obtain ⟨x5, ex5, H⟩ := ok_bind H
        refine r_iincE (w := (J 1)) hZ dX12_goes_200 (by decide) rfl (by decide) ex5 (r_pick [0, 1, 2, 3] (ls' := [(0, .ref p0), (1, .int p1), (2, .int e4.1), (3, .int x5)]) rfl ?_)
        refine r_goto (tgt := 31) hZ dX12_goes_203 (by decide) ?_
        exact r_pick [0, 1, 2, 3] (ls' := [(0, .ref p0), (1, .int p1), (2, .int e4.1), (3, .int x5)]) rfl (ih _ (ki_l H))
def b_X12_goes_23 (p0 : Nat) (p1 : Int32) (s : Int32 × Hp) : Option ((Int32 × Hp) ⊕ ((Hp))) :=
  (if s.1 = 0 then
    some (.inr (s.2))
  else
    (some (J 0)).bind fun x1 =>
    (some (J 0)).bind fun x2 =>
    (iter (b_X12_goes_31 p0 p1) FU (x1, x2, s.2)).bind fun e3 =>
    some (.inl (e3.1, e3.2)))
set_option maxRecDepth 100000 in
set_option maxHeartbeats 4000000 in
theorem l_X12_goes_23 {Z : Zc} (hZ : Fx cX12_goes RX12 8 4 0 Z) {n : Nat} {p0 : Nat} {p1 : Int32} {P : ((Hp)) → Prop} (hx0 : ∀ e : Hp, P (e) → R Z 209 [] [] n e 0) : ∀ (m : Nat) (s : Int32 × Hp), Ok (iter (b_X12_goes_23 p0 p1) m s) P → R Z 23 [(0, .ref p0), (1, .int p1), (2, .int s.1)] [] n s.2 0 := by
  intro m
  induction m with
  | zero => exact fun s H => ok_iter0 H
  | succ m ih =>
    intro s H
    have H := ok_iter H
    unfold b_X12_goes_23 at H
    refine r_iload_n hZ dX12_goes_23 rfl ?_
    refine r_if_eq (tgt := 209) hZ dX12_goes_24 (by decide) (fun c4 => ?_) (fun c4 => ?_)
    · have H := ok_t H c4
      exact r_pick [] (ls' := []) rfl (hx0 _ (ki_r H))
    · have H := ok_f H c4
      refine r_iconst (v := (J 0)) hZ dX12_goes_27 (by decide) ?_
      obtain ⟨x1, ex1, H⟩ := ok_bind H
      refine r_topi ex1 ?_
      refine r_istore_n hZ dX12_goes_28 (by decide) (r_pick [0, 1, 2] (ls' := [(0, .ref p0), (1, .int p1), (2, .int x1)]) rfl ?_)
      refine r_iconst (v := (J 0)) hZ dX12_goes_29 (by decide) ?_
      obtain ⟨x2, ex2, H⟩ := ok_bind H
      refine r_topi ex2 ?_
      refine r_istore_n hZ dX12_goes_30 (by decide) (r_pick [0, 1, 2, 3] (ls' := [(0, .ref p0), (1, .int p1), (2, .int x1), (3, .int x2)]) rfl ?_)
      have H := ok_bindK H
      refine r_pick [0, 1, 2, 3] (ls' := [(0, .ref p0), (1, .int p1), (2, .int x1), (3, .int x2)]) rfl (l_X12_goes_31 hZ (fun e3 H => ?_) FU _ H)
      · refine r_goto (tgt := 23) hZ dX12_goes_206 (by decide) ?_
        exact r_pick [0, 1, 2] (ls' := [(0, .ref p0), (1, .int p1), (2, .int e3.1)]) rfl (ih _ (ki_l H))
def f_X12_goes  (h : Hp) (a0 : Nat) (a1 : Int32) : Option (Hp) :=
  (gR h a0 11 18).bind fun x1 =>
  (sI h x1 a1 a1).bind fun h2 =>
  (gR h2 a0 11 19).bind fun x3 =>
  (sL h2 x3 a1 (K 1)).bind fun h4 =>
  (gR h4 a0 11 20).bind fun x5 =>
  (sL h4 x5 a1 (K 1)).bind fun h6 =>
  (some (J 1)).bind fun x7 =>
  (iter (b_X12_goes_23 a0 a1) FU (x7, h6)).bind fun e8 =>
  some e8
set_option maxRecDepth 100000 in
set_option maxHeartbeats 4000000 in
theorem s_X12_goes {n : Nat} {h : Hp} {a0 : Nat} {a1 : Int32}  {r : Hp} (hf : f_X12_goes  h a0 a1 = some r) : Ev 4 yX12_goes cX12_goes 8 none [.ref a0, .int a1] n h none n r := by
  refine Ev_of RX12 rfl (by decide) (Nat.le_of_ble_eq_true rfl) (Nat.le_refl _) (Or.inl rfl) (fun Z hZ hF hN hI => ?_)
  have H : Ok (f_X12_goes  h a0 a1) (fun y => y = r) := ⟨_, hf, rfl⟩
  unfold f_X12_goes at H
  refine r_ls (ls' := [(0, .ref a0), (1, .int a1)]) rfl ?_
  refine r_aload_n hZ dX12_goes_0 rfl ?_
  obtain ⟨x1, ex1, H⟩ := ok_bind H
  refine r_getR hZ fl_X12_46_11 dX12_goes_1 ex1 ?_
  refine r_iload_n hZ dX12_goes_4 rfl ?_
  refine r_iload_n hZ dX12_goes_5 rfl ?_
  obtain ⟨h2, eh2, H⟩ := ok_bind H
  refine r_sI hZ dX12_goes_6 eh2 ?_
  refine r_aload_n hZ dX12_goes_7 rfl ?_
  obtain ⟨x3, ex3, H⟩ := ok_bind H
  refine r_getR hZ fl_X12_49_11 dX12_goes_8 ex3 ?_
  refine r_iload_n hZ dX12_goes_11 rfl ?_
  refine r_lconst (v := (K 1)) hZ dX12_goes_12 (by decide) ?_
  obtain ⟨h4, eh4, H⟩ := ok_bind H
  refine r_sL hZ dX12_goes_13 eh4 ?_
  refine r_aload_n hZ dX12_goes_14 rfl ?_
  obtain ⟨x5, ex5, H⟩ := ok_bind H
  refine r_getR hZ fl_X12_53_11 dX12_goes_15 ex5 ?_
  refine r_iload_n hZ dX12_goes_18 rfl ?_
  refine r_lconst (v := (K 1)) hZ dX12_goes_19 (by decide) ?_
  obtain ⟨h6, eh6, H⟩ := ok_bind H
  refine r_sL hZ dX12_goes_20 eh6 ?_
  refine r_iconst (v := (J 1)) hZ dX12_goes_21 (by decide) ?_
  obtain ⟨x7, ex7, H⟩ := ok_bind H
  refine r_topi ex7 ?_
  refine r_istore_n hZ dX12_goes_22 (by decide) (r_pick [0, 1, 2] (ls' := [(0, .ref a0), (1, .int a1), (2, .int x7)]) rfl ?_)
  have H := ok_bindK H
  refine r_pick [0, 1, 2] (ls' := [(0, .ref a0), (1, .int a1), (2, .int x7)]) rfl (l_X12_goes_23 hZ (fun e8 H => ?_) FU _ H)
  · have H := ok_some H
    subst H
    exact r_ret hZ hF dX12_goes_209
def b_X12_turns_2 (p0 : Nat) (s : Int32 × Hp) : Option ((Int32 × Hp) ⊕ ((Hp))) :=
  (if (J 8) ≤ s.1 then
    some (.inr (s.2))
  else
    (gR s.2 p0 11 18).bind fun x1 =>
    (sI s.2 x1 s.1 (J (-1))).bind fun h2 =>
    (gR h2 p0 11 21).bind fun x3 =>
    (sZ h2 x3 s.1 (J 0)).bind fun h4 =>
    (some (s.1 + (J 1))).bind fun x5 =>
    some (.inl (x5, h4)))
set_option maxRecDepth 100000 in
set_option maxHeartbeats 4000000 in
theorem l_X12_turns_2 {Z : Zc} (hZ : Fx cX12_turns RX12 2 5 0 Z) {n : Nat} {p0 : Nat} {P : ((Hp)) → Prop} (hx0 : ∀ e : Hp, P (e) → R Z 28 [(0, .ref p0)] [] n e 0) : ∀ (m : Nat) (s : Int32 × Hp), Ok (iter (b_X12_turns_2 p0) m s) P → R Z 2 [(0, .ref p0), (1, .int s.1)] [] n s.2 0 := by
  intro m
  induction m with
  | zero => exact fun s H => ok_iter0 H
  | succ m ih =>
    intro s H
    have H := ok_iter H
    unfold b_X12_turns_2 at H
    refine r_iload_n hZ dX12_turns_2 rfl ?_
    refine r_bipush (v := (J 8)) hZ dX12_turns_3 (by decide) ?_
    refine r_icmp_ge (tgt := 28) hZ dX12_turns_5 (by decide) (fun c6 => ?_) (fun c6 => ?_)
    · have H := ok_t H c6
      exact r_pick [0] (ls' := [(0, .ref p0)]) rfl (hx0 _ (ki_r H))
    · have H := ok_f H c6
      refine r_aload_n hZ dX12_turns_8 rfl ?_
      obtain ⟨x1, ex1, H⟩ := ok_bind H
      refine r_getR hZ fl_X12_46_11 dX12_turns_9 ex1 ?_
      refine r_iload_n hZ dX12_turns_12 rfl ?_
      refine r_iconst (v := (J (-1))) hZ dX12_turns_13 (by decide) ?_
      obtain ⟨h2, eh2, H⟩ := ok_bind H
      refine r_sI hZ dX12_turns_14 eh2 ?_
      refine r_aload_n hZ dX12_turns_15 rfl ?_
      obtain ⟨x3, ex3, H⟩ := ok_bind H
      refine r_getR hZ fl_X12_56_11 dX12_turns_16 ex3 ?_
      refine r_iload_n hZ dX12_turns_19 rfl ?_
      refine r_iconst (v := (J 0)) hZ dX12_turns_20 (by decide) ?_
      obtain ⟨h4, eh4, H⟩ := ok_bind H
      refine r_sZ hZ dX12_turns_21 eh4 ?_
      obtain ⟨x5, ex5, H⟩ := ok_bind H
      refine r_iincE (w := (J 1)) hZ dX12_turns_22 (by decide) rfl (by decide) ex5 (r_pick [0, 1] (ls' := [(0, .ref p0), (1, .int x5)]) rfl ?_)
      refine r_goto (tgt := 2) hZ dX12_turns_25 (by decide) ?_
      exact r_pick [0, 1] (ls' := [(0, .ref p0), (1, .int x5)]) rfl (ih _ (ki_l H))
def b_X12_turns_30 (p0 : Nat) (s : Int32 × Hp) : Option ((Int32 × Hp) ⊕ ((Hp))) :=
  (if (J 8) ≤ s.1 then
    some (.inr (s.2))
  else
    (gR s.2 p0 11 18).bind fun x1 =>
    (aI s.2 x1 s.1).bind fun x2 =>
    ((if 0 ≤ x2 then
      some s.2
    else
      (isO s.2 p0 11).bind fun u4 =>
      (f_X12_goes s.2 p0 s.1).bind fun r5 =>
      some r5)).bind fun (j3 : Hp) =>
    (some (s.1 + (J 1))).bind fun x7 =>
    some (.inl (x7, j3)))
set_option maxRecDepth 100000 in
set_option maxHeartbeats 4000000 in
theorem l_X12_turns_30 {Z : Zc} (hZ : Fx cX12_turns RX12 2 5 0 Z) {n : Nat} {p0 : Nat} {P : ((Hp)) → Prop} (hx0 : ∀ e : Hp, P (e) → R Z 56 [] [] n e 0) : ∀ (m : Nat) (s : Int32 × Hp), Ok (iter (b_X12_turns_30 p0) m s) P → R Z 30 [(0, .ref p0), (1, .int s.1)] [] n s.2 0 := by
  intro m
  induction m with
  | zero => exact fun s H => ok_iter0 H
  | succ m ih =>
    intro s H
    have H := ok_iter H
    unfold b_X12_turns_30 at H
    refine r_iload_n hZ dX12_turns_30 rfl ?_
    refine r_bipush (v := (J 8)) hZ dX12_turns_31 (by decide) ?_
    refine r_icmp_ge (tgt := 56) hZ dX12_turns_33 (by decide) (fun c8 => ?_) (fun c8 => ?_)
    · have H := ok_t H c8
      exact r_pick [] (ls' := []) rfl (hx0 _ (ki_r H))
    · have H := ok_f H c8
      refine r_aload_n hZ dX12_turns_36 rfl ?_
      obtain ⟨x1, ex1, H⟩ := ok_bind H
      refine r_getR hZ fl_X12_46_11 dX12_turns_37 ex1 ?_
      refine r_iload_n hZ dX12_turns_40 rfl ?_
      obtain ⟨x2, ex2, H⟩ := ok_bind H
      refine r_aI hZ dX12_turns_41 ex2 ?_
      refine ok_join (Q := fun j3 : Hp => R Z 50 [(0, .ref p0), (1, .int s.1)] [] n j3 0) H (fun j3 H => ?_) (fun H => ?_)
      · obtain ⟨x7, ex7, H⟩ := ok_bind H
        refine r_iincE (w := (J 1)) hZ dX12_turns_50 (by decide) rfl (by decide) ex7 (r_pick [0, 1] (ls' := [(0, .ref p0), (1, .int x7)]) rfl ?_)
        refine r_goto (tgt := 30) hZ dX12_turns_53 (by decide) ?_
        exact r_pick [0, 1] (ls' := [(0, .ref p0), (1, .int x7)]) rfl (ih _ (ki_l H))
      · refine r_if_ge (tgt := 50) hZ dX12_turns_42 (by decide) (fun c6 => ?_) (fun c6 => ?_)
        · have H := ok_t H c6
          have H := ok_some H
          exact r_pick [0, 1] (ls' := [(0, .ref p0), (1, .int s.1)]) rfl H
        · have H := ok_f H c6
          refine r_aload_n hZ dX12_turns_45 rfl ?_
          refine r_iload_n hZ dX12_turns_46 rfl ?_
          obtain ⟨u4, eu4, H⟩ := ok_bind H
          obtain ⟨r5, er5, H⟩ := ok_bind H
          refine r_callV (As := [.int s.1]) (rest := []) (st1 := []) (N2 := 0) hZ dX12_turns_47 cw_X12_188_X12 rfl eu4 (s_X12_goes er5) rfl rfl (by decide) (Nat.le_of_ble_eq_true rfl) (Nat.le_refl 0) (Nat.le_refl _) (Or.inl rfl) rfl ?_
          have H := ok_some H
          exact r_pick [0, 1] (ls' := [(0, .ref p0), (1, .int s.1)]) rfl H
def f_X12_turns  (h : Hp) (a0 : Nat) : Option (Hp) :=
  (some (J 0)).bind fun x1 =>
  (iter (b_X12_turns_2 a0) FU (x1, h)).bind fun e2 =>
  (some (J 0)).bind fun x3 =>
  (iter (b_X12_turns_30 a0) FU (x3, e2)).bind fun e4 =>
  some e4
set_option maxRecDepth 100000 in
set_option maxHeartbeats 4000000 in
theorem s_X12_turns {n : Nat} {h : Hp} {a0 : Nat}  {r : Hp} (hf : f_X12_turns  h a0 = some r) : Ev 5 yX12_turns cX12_turns 2 none [.ref a0] n h none n r := by
  refine Ev_of RX12 rfl (by decide) (Nat.le_of_ble_eq_true rfl) (Nat.le_refl _) (Or.inl rfl) (fun Z hZ hF hN hI => ?_)
  have H : Ok (f_X12_turns  h a0) (fun y => y = r) := ⟨_, hf, rfl⟩
  unfold f_X12_turns at H
  refine r_ls (ls' := [(0, .ref a0)]) rfl ?_
  refine r_iconst (v := (J 0)) hZ dX12_turns_0 (by decide) ?_
  obtain ⟨x1, ex1, H⟩ := ok_bind H
  refine r_topi ex1 ?_
  refine r_istore_n hZ dX12_turns_1 (by decide) (r_pick [0, 1] (ls' := [(0, .ref a0), (1, .int x1)]) rfl ?_)
  have H := ok_bindK H
  refine r_pick [0, 1] (ls' := [(0, .ref a0), (1, .int x1)]) rfl (l_X12_turns_2 hZ (fun e2 H => ?_) FU _ H)
  · refine r_iconst (v := (J 0)) hZ dX12_turns_28 (by decide) ?_
    obtain ⟨x3, ex3, H⟩ := ok_bind H
    refine r_topi ex3 ?_
    refine r_istore_n hZ dX12_turns_29 (by decide) (r_pick [0, 1] (ls' := [(0, .ref a0), (1, .int x3)]) rfl ?_)
    have H := ok_bindK H
    refine r_pick [0, 1] (ls' := [(0, .ref a0), (1, .int x3)]) rfl (l_X12_turns_30 hZ (fun e4 H => ?_) FU _ H)
    · have H := ok_some H
      subst H
      exact r_ret hZ hF dX12_turns_56
def f_X12_locked  (h : Hp) (a0 : Nat) : Option (Int32 × Hp) :=
  (isO h a0 11).bind fun u1 =>
  (f_X12_turns h a0).bind fun r2 =>
  (gR r2 a0 11 21).bind fun x3 =>
  (aZ r2 x3 (J 0)).bind fun x4 =>
  ((if x4 = 0 then
    some (J 0)
  else
    some (J 1))).bind fun (j5 : Int32) =>
  some (j5, r2)
set_option maxRecDepth 100000 in
set_option maxHeartbeats 4000000 in
theorem s_X12_locked {n : Nat} {h : Hp} {a0 : Nat}  {r : Int32 × Hp} (hf : f_X12_locked  h a0 = some r) : Ev 6 yX12_locked cX12_locked 1 (some .int) [.ref a0] n h (some (.int r.1)) n r.2 := by
  refine Ev_of RX12 rfl (by decide) (Nat.le_of_ble_eq_true rfl) (Nat.le_refl _) (Or.inl rfl) (fun Z hZ hF hN hI => ?_)
  have H : Ok (f_X12_locked  h a0) (fun y => y = r) := ⟨_, hf, rfl⟩
  unfold f_X12_locked at H
  refine r_ls (ls' := [(0, .ref a0)]) rfl ?_
  refine r_aload_n hZ dX12_locked_0 rfl ?_
  obtain ⟨u1, eu1, H⟩ := ok_bind H
  obtain ⟨r2, er2, H⟩ := ok_bind H
  refine r_callV (As := []) (rest := []) (st1 := []) (N2 := 0) hZ dX12_locked_1 cw_X12_191_X12 rfl eu1 (s_X12_turns er2) rfl rfl (by decide) (Nat.le_of_ble_eq_true rfl) (Nat.le_refl 0) (Nat.le_refl _) (Or.inl rfl) rfl ?_
  refine r_aload_n hZ dX12_locked_4 rfl ?_
  obtain ⟨x3, ex3, H⟩ := ok_bind H
  refine r_getR hZ fl_X12_56_11 dX12_locked_5 ex3 ?_
  refine r_iconst (v := (J 0)) hZ dX12_locked_8 (by decide) ?_
  obtain ⟨x4, ex4, H⟩ := ok_bind H
  refine r_aZ hZ dX12_locked_9 ex4 ?_
  refine ok_join (Q := fun j5 : Int32 => R Z 18 [] [.int j5] n r2 0) H (fun j5 H => ?_) (fun H => ?_)
  · have H := ok_some H
    subst H
    exact r_iret hZ hF dX12_locked_18
  · refine r_if_eq (tgt := 17) hZ dX12_locked_10 (by decide) (fun c6 => ?_) (fun c6 => ?_)
    · have H := ok_t H c6
      refine r_iconst (v := (J 0)) hZ dX12_locked_17 (by decide) ?_
      have H := ok_some H
      exact r_pick [] (ls' := []) rfl H
    · have H := ok_f H c6
      refine r_iconst (v := (J 1)) hZ dX12_locked_13 (by decide) ?_
      refine r_goto (tgt := 18) hZ dX12_locked_14 (by decide) ?_
      have H := ok_some H
      exact r_pick [] (ls' := []) rfl H
def f_X12_speed  (h : Hp) (a0 : Nat) (a1 : Int32) (a2 : Int32) : Option (Int64 × Hp) :=
  (f_X12_isIn (a1.toInt64) (K 0) (K 7)).bind fun r1 =>
  (if r1 = 0 then
    some ((K (-1000000001)), h)
  else
    (f_X12_isIn (a2.toInt64) (K 0) (K 1)).bind fun r2 =>
    (if r2 = 0 then
      some ((K (-1000000001)), h)
    else
      (isO h a0 11).bind fun u3 =>
      (f_X12_turns h a0).bind fun r4 =>
      (gR r4 a0 11 21).bind fun x5 =>
      (aZ r4 x5 (J 0)).bind fun x6 =>
      (if x6 = 0 then
        (gR r4 a0 11 18).bind fun x7 =>
        (aI r4 x7 a1).bind fun x8 =>
        (if x8 = 0 then
          (gR r4 a0 11 18).bind fun x9 =>
          (aI r4 x9 a1).bind fun x10 =>
          (if x10 = 0 then
            ((if a2 = 0 then
              (gR r4 a0 11 19).bind fun x14 =>
              (aL r4 x14 a1).bind fun x15 =>
              some x15
            else
              (gR r4 a0 11 20).bind fun x12 =>
              (aL r4 x12 a1).bind fun x13 =>
              some x13)).bind fun (j11 : Int64) =>
            some (j11, r4)
          else
            some ((a2.toInt64), r4))
        else
          (gR r4 a0 11 21).bind fun x18 =>
          (gR r4 a0 11 18).bind fun x19 =>
          (aI r4 x19 a1).bind fun x20 =>
          (aZ r4 x18 x20).bind fun x21 =>
          (if x21 = 0 then
            some ((K (-1000000004)), r4)
          else
            (gR r4 a0 11 18).bind fun x22 =>
            (aI r4 x22 a1).bind fun x23 =>
            (if x23 = 0 then
              ((if a2 = 0 then
                (gR r4 a0 11 19).bind fun x27 =>
                (aL r4 x27 a1).bind fun x28 =>
                some x28
              else
                (gR r4 a0 11 20).bind fun x25 =>
                (aL r4 x25 a1).bind fun x26 =>
                some x26)).bind fun (j24 : Int64) =>
              some (j24, r4)
            else
              some ((a2.toInt64), r4))))
      else
        some ((K (-1000000003)), r4))))
set_option maxRecDepth 100000 in
set_option maxHeartbeats 4000000 in
theorem s_X12_speed {n : Nat} {h : Hp} {a0 : Nat} {a1 : Int32} {a2 : Int32}  {r : Int64 × Hp} (hf : f_X12_speed  h a0 a1 a2 = some r) : Ev 6 yX12_speed cX12_speed 3 (some .long) [.ref a0, .int a1, .int a2] n h (some (.long r.1)) n r.2 := by
  refine Ev_of RX12 rfl (by decide) (Nat.le_of_ble_eq_true rfl) (Nat.le_refl _) (Or.inl rfl) (fun Z hZ hF hN hI => ?_)
  have H : Ok (f_X12_speed  h a0 a1 a2) (fun y => y = r) := ⟨_, hf, rfl⟩
  unfold f_X12_speed at H
  refine r_ls (ls' := [(0, .ref a0), (1, .int a1), (2, .int a2)]) rfl ?_
  refine r_iload_n hZ dX12_speed_0 rfl ?_
  refine r_i2l hZ dX12_speed_1 ?_
  refine r_lconst (v := (K 0)) hZ dX12_speed_2 (by decide) ?_
  refine r_ldc2 (v := (K 7)) hZ wc_X12_77 dX12_speed_3 ?_
  obtain ⟨r1, er1, H⟩ := ok_bind H
  refine r_callS (As := [.long (a1.toInt64), .long (K 0), .long (K 7)]) (rest := []) (st1 := [.int r1]) (N2 := 0) hZ dX12_speed_6 cw_X12_73 (s_X12_isIn er1) rfl rfl (by decide) (Nat.le_of_ble_eq_true rfl) (Nat.le_refl 0) (Nat.le_refl _) (Or.inl rfl) rfl ?_
  refine r_if_eq (tgt := 22) hZ dX12_speed_9 (by decide) (fun c35 => ?_) (fun c35 => ?_)
  · have H := ok_t H c35
    refine r_ldc2 (v := (K (-1000000001))) hZ wc_X12_194 dX12_speed_22 ?_
    have H := ok_some H
    subst H
    exact r_lret hZ hF dX12_speed_25
  · have H := ok_f H c35
    refine r_iload_n hZ dX12_speed_12 rfl ?_
    refine r_i2l hZ dX12_speed_13 ?_
    refine r_lconst (v := (K 0)) hZ dX12_speed_14 (by decide) ?_
    refine r_lconst (v := (K 1)) hZ dX12_speed_15 (by decide) ?_
    obtain ⟨r2, er2, H⟩ := ok_bind H
    refine r_callS (As := [.long (a2.toInt64), .long (K 0), .long (K 1)]) (rest := []) (st1 := [.int r2]) (N2 := 0) hZ dX12_speed_16 cw_X12_73 (s_X12_isIn er2) rfl rfl (by decide) (Nat.le_of_ble_eq_true rfl) (Nat.le_refl 0) (Nat.le_refl _) (Or.inl rfl) rfl ?_
    refine r_if_ne (tgt := 26) hZ dX12_speed_19 (by decide) (fun c34 => ?_) (fun c34 => ?_)
    · have H := ok_f H c34
      refine r_aload_n hZ dX12_speed_26 rfl ?_
      obtain ⟨u3, eu3, H⟩ := ok_bind H
      obtain ⟨r4, er4, H⟩ := ok_bind H
      refine r_callV (As := []) (rest := []) (st1 := []) (N2 := 0) hZ dX12_speed_27 cw_X12_191_X12 rfl eu3 (s_X12_turns er4) rfl rfl (by decide) (Nat.le_of_ble_eq_true rfl) (Nat.le_refl 0) (Nat.le_refl _) (Or.inl rfl) rfl ?_
      refine r_aload_n hZ dX12_speed_30 rfl ?_
      obtain ⟨x5, ex5, H⟩ := ok_bind H
      refine r_getR hZ fl_X12_56_11 dX12_speed_31 ex5 ?_
      refine r_iconst (v := (J 0)) hZ dX12_speed_34 (by decide) ?_
      obtain ⟨x6, ex6, H⟩ := ok_bind H
      refine r_aZ hZ dX12_speed_35 ex6 ?_
      refine r_if_eq (tgt := 43) hZ dX12_speed_36 (by decide) (fun c33 => ?_) (fun c33 => ?_)
      · have H := ok_t H c33
        refine r_aload_n hZ dX12_speed_43 rfl ?_
        obtain ⟨x7, ex7, H⟩ := ok_bind H
        refine r_getR hZ fl_X12_46_11 dX12_speed_44 ex7 ?_
        refine r_iload_n hZ dX12_speed_47 rfl ?_
        obtain ⟨x8, ex8, H⟩ := ok_bind H
        refine r_aI hZ dX12_speed_48 ex8 ?_
        refine r_if_eq (tgt := 70) hZ dX12_speed_49 (by decide) (fun c32 => ?_) (fun c32 => ?_)
        · have H := ok_t H c32
          refine r_aload_n hZ dX12_speed_70 rfl ?_
          obtain ⟨x9, ex9, H⟩ := ok_bind H
          refine r_getR hZ fl_X12_46_11 dX12_speed_71 ex9 ?_
          refine r_iload_n hZ dX12_speed_74 rfl ?_
          obtain ⟨x10, ex10, H⟩ := ok_bind H
          refine r_aI hZ dX12_speed_75 ex10 ?_
          refine r_if_eq (tgt := 82) hZ dX12_speed_76 (by decide) (fun c17 => ?_) (fun c17 => ?_)
          · have H := ok_t H c17
            refine r_iload_n hZ dX12_speed_82 rfl ?_
            refine ok_join (Q := fun j11 : Int64 => R Z 101 [] [.long j11] n r4 0) H (fun j11 H => ?_) (fun H => ?_)
            · have H := ok_some H
              subst H
              exact r_lret hZ hF dX12_speed_101
            · refine r_if_ne (tgt := 95) hZ dX12_speed_83 (by decide) (fun c16 => ?_) (fun c16 => ?_)
              · have H := ok_f H c16
                refine r_aload_n hZ dX12_speed_95 rfl ?_
                obtain ⟨x12, ex12, H⟩ := ok_bind H
                refine r_getR hZ fl_X12_53_11 dX12_speed_96 ex12 ?_
                refine r_iload_n hZ dX12_speed_99 rfl ?_
                obtain ⟨x13, ex13, H⟩ := ok_bind H
                refine r_aL hZ dX12_speed_100 ex13 ?_
                have H := ok_some H
                exact r_pick [] (ls' := []) rfl H
              · have H := ok_t H c16
                refine r_aload_n hZ dX12_speed_86 rfl ?_
                obtain ⟨x14, ex14, H⟩ := ok_bind H
                refine r_getR hZ fl_X12_49_11 dX12_speed_87 ex14 ?_
                refine r_iload_n hZ dX12_speed_90 rfl ?_
                obtain ⟨x15, ex15, H⟩ := ok_bind H
                refine r_aL hZ dX12_speed_91 ex15 ?_
                refine r_goto (tgt := 101) hZ dX12_speed_92 (by decide) ?_
                have H := ok_some H
                exact r_pick [] (ls' := []) rfl H
          · have H := ok_f H c17
            refine r_iload_n hZ dX12_speed_79 rfl ?_
            refine r_i2l hZ dX12_speed_80 ?_
            have H := ok_some H
            subst H
            exact r_lret hZ hF dX12_speed_81
        · have H := ok_f H c32
          refine r_aload_n hZ dX12_speed_52 rfl ?_
          obtain ⟨x18, ex18, H⟩ := ok_bind H
          refine r_getR hZ fl_X12_56_11 dX12_speed_53 ex18 ?_
          refine r_aload_n hZ dX12_speed_56 rfl ?_
          obtain ⟨x19, ex19, H⟩ := ok_bind H
          refine r_getR hZ fl_X12_46_11 dX12_speed_57 ex19 ?_
          refine r_iload_n hZ dX12_speed_60 rfl ?_
          obtain ⟨x20, ex20, H⟩ := ok_bind H
          refine r_aI hZ dX12_speed_61 ex20 ?_
          obtain ⟨x21, ex21, H⟩ := ok_bind H
          refine r_aZ hZ dX12_speed_62 ex21 ?_
          refine r_if_ne (tgt := 70) hZ dX12_speed_63 (by decide) (fun c31 => ?_) (fun c31 => ?_)
          · have H := ok_f H c31
            refine r_aload_n hZ dX12_speed_70 rfl ?_
            obtain ⟨x22, ex22, H⟩ := ok_bind H
            refine r_getR hZ fl_X12_46_11 dX12_speed_71 ex22 ?_
            refine r_iload_n hZ dX12_speed_74 rfl ?_
            obtain ⟨x23, ex23, H⟩ := ok_bind H
            refine r_aI hZ dX12_speed_75 ex23 ?_
            refine r_if_eq (tgt := 82) hZ dX12_speed_76 (by decide) (fun c30 => ?_) (fun c30 => ?_)
            · have H := ok_t H c30
              refine r_iload_n hZ dX12_speed_82 rfl ?_
              refine ok_join (Q := fun j24 : Int64 => R Z 101 [] [.long j24] n r4 0) H (fun j24 H => ?_) (fun H => ?_)
              · have H := ok_some H
                subst H
                exact r_lret hZ hF dX12_speed_101
              · refine r_if_ne (tgt := 95) hZ dX12_speed_83 (by decide) (fun c29 => ?_) (fun c29 => ?_)
                · have H := ok_f H c29
                  refine r_aload_n hZ dX12_speed_95 rfl ?_
                  obtain ⟨x25, ex25, H⟩ := ok_bind H
                  refine r_getR hZ fl_X12_53_11 dX12_speed_96 ex25 ?_
                  refine r_iload_n hZ dX12_speed_99 rfl ?_
                  obtain ⟨x26, ex26, H⟩ := ok_bind H
                  refine r_aL hZ dX12_speed_100 ex26 ?_
                  have H := ok_some H
                  exact r_pick [] (ls' := []) rfl H
                · have H := ok_t H c29
                  refine r_aload_n hZ dX12_speed_86 rfl ?_
                  obtain ⟨x27, ex27, H⟩ := ok_bind H
                  refine r_getR hZ fl_X12_49_11 dX12_speed_87 ex27 ?_
                  refine r_iload_n hZ dX12_speed_90 rfl ?_
                  obtain ⟨x28, ex28, H⟩ := ok_bind H
                  refine r_aL hZ dX12_speed_91 ex28 ?_
                  refine r_goto (tgt := 101) hZ dX12_speed_92 (by decide) ?_
                  have H := ok_some H
                  exact r_pick [] (ls' := []) rfl H
            · have H := ok_f H c30
              refine r_iload_n hZ dX12_speed_79 rfl ?_
              refine r_i2l hZ dX12_speed_80 ?_
              have H := ok_some H
              subst H
              exact r_lret hZ hF dX12_speed_81
          · have H := ok_t H c31
            refine r_ldc2 (v := (K (-1000000004))) hZ wc_X12_198 dX12_speed_66 ?_
            have H := ok_some H
            subst H
            exact r_lret hZ hF dX12_speed_69
      · have H := ok_f H c33
        refine r_ldc2 (v := (K (-1000000003))) hZ wc_X12_196 dX12_speed_39 ?_
        have H := ok_some H
        subst H
        exact r_lret hZ hF dX12_speed_42
    · have H := ok_t H c34
      refine r_ldc2 (v := (K (-1000000001))) hZ wc_X12_194 dX12_speed_22 ?_
      have H := ok_some H
      subst H
      exact r_lret hZ hF dX12_speed_25
def f_X12_hunt  (h : Hp) (a0 : Nat) (a1 : Int32) (a2 : Int32) (a3 : Int32) : Option (Int32) :=
  (isO h a0 11).bind fun u1 =>
  (f_X12_isGear h a0 a1).bind fun r2 =>
  (if r2 = 0 then
    some (J (-1))
  else
    (isO h a0 11).bind fun u3 =>
    (f_X12_isGear h a0 a2).bind fun r4 =>
    (if r4 = 0 then
      some (J (-1))
    else
      (if a1 = a2 then
        some (J (-1))
      else
        (f_X12_isIn (a3.toInt64) (K 0) (K 1)).bind fun r5 =>
        (if r5 = 0 then
          some (J (-1))
        else
          (isO h a0 11).bind fun u6 =>
          (f_X12_teeth h a0 a2).bind fun r7 =>
          (isO h a0 11).bind fun u8 =>
          (f_X12_teeth h a0 a1).bind fun r9 =>
          (isO h a0 11).bind fun u10 =>
          (f_X12_teeth h a0 a2).bind fun r11 =>
          (f_X12_common (r9.toInt64) (r11.toInt64)).bind fun r12 =>
          (nz (r12.toInt32)).bind fun u13 =>
          (some (r7 / (r12.toInt32))).bind fun x14 =>
          ((if a3 = 0 then
            some x14
          else
            (isO h a0 11).bind fun u16 =>
            (f_X12_teeth h a0 a2).bind fun r17 =>
            some (r17 - x14))).bind fun (j15 : Int32) =>
          some j15))))
set_option maxRecDepth 100000 in
set_option maxHeartbeats 4000000 in
theorem s_X12_hunt {n : Nat} {h : Hp} {a0 : Nat} {a1 : Int32} {a2 : Int32} {a3 : Int32}  {r : Int32} (hf : f_X12_hunt  h a0 a1 a2 a3 = some r) : Ev 4 yX12_hunt cX12_hunt 5 (some .int) [.ref a0, .int a1, .int a2, .int a3] n h (some (.int r)) n h := by
  refine Ev_of RX12 rfl (by decide) (Nat.le_of_ble_eq_true rfl) (Nat.le_refl _) (Or.inl rfl) (fun Z hZ hF hN hI => ?_)
  have H : Ok (f_X12_hunt  h a0 a1 a2 a3) (fun y => y = r) := ⟨_, hf, rfl⟩
  unfold f_X12_hunt at H
  refine r_ls (ls' := [(0, .ref a0), (1, .int a1), (2, .int a2), (3, .int a3)]) rfl ?_
  refine r_aload_n hZ dX12_hunt_0 rfl ?_
  refine r_iload_n hZ dX12_hunt_1 rfl ?_
  obtain ⟨u1, eu1, H⟩ := ok_bind H
  obtain ⟨r2, er2, H⟩ := ok_bind H
  refine r_callV (As := [.int a1]) (rest := []) (st1 := [.int r2]) (N2 := 0) hZ dX12_hunt_2 cw_X12_121_X12 rfl eu1 (s_X12_isGear er2) rfl rfl (by decide) (Nat.le_of_ble_eq_true rfl) (Nat.le_refl 0) (Nat.le_refl _) (Or.inl rfl) rfl ?_
  refine r_if_eq (tgt := 31) hZ dX12_hunt_5 (by decide) (fun c22 => ?_) (fun c22 => ?_)
  · have H := ok_t H c22
    refine r_iconst (v := (J (-1))) hZ dX12_hunt_31 (by decide) ?_
    have H := ok_some H
    subst H
    exact r_iret hZ hF dX12_hunt_32
  · have H := ok_f H c22
    refine r_aload_n hZ dX12_hunt_8 rfl ?_
    refine r_iload_n hZ dX12_hunt_9 rfl ?_
    obtain ⟨u3, eu3, H⟩ := ok_bind H
    obtain ⟨r4, er4, H⟩ := ok_bind H
    refine r_callV (As := [.int a2]) (rest := []) (st1 := [.int r4]) (N2 := 0) hZ dX12_hunt_10 cw_X12_121_X12 rfl eu3 (s_X12_isGear er4) rfl rfl (by decide) (Nat.le_of_ble_eq_true rfl) (Nat.le_refl 0) (Nat.le_refl _) (Or.inl rfl) rfl ?_
    refine r_if_eq (tgt := 31) hZ dX12_hunt_13 (by decide) (fun c21 => ?_) (fun c21 => ?_)
    · have H := ok_t H c21
      refine r_iconst (v := (J (-1))) hZ dX12_hunt_31 (by decide) ?_
      have H := ok_some H
      subst H
      exact r_iret hZ hF dX12_hunt_32
    · have H := ok_f H c21
      refine r_iload_n hZ dX12_hunt_16 rfl ?_
      refine r_iload_n hZ dX12_hunt_17 rfl ?_
      refine r_icmp_eq (tgt := 31) hZ dX12_hunt_18 (by decide) (fun c20 => ?_) (fun c20 => ?_)
      · have H := ok_t H c20
        refine r_iconst (v := (J (-1))) hZ dX12_hunt_31 (by decide) ?_
        have H := ok_some H
        subst H
        exact r_iret hZ hF dX12_hunt_32
      · have H := ok_f H c20
        refine r_iload_n hZ dX12_hunt_21 rfl ?_
        refine r_i2l hZ dX12_hunt_22 ?_
        refine r_lconst (v := (K 0)) hZ dX12_hunt_23 (by decide) ?_
        refine r_lconst (v := (K 1)) hZ dX12_hunt_24 (by decide) ?_
        obtain ⟨r5, er5, H⟩ := ok_bind H
        refine r_callS (As := [.long (a3.toInt64), .long (K 0), .long (K 1)]) (rest := []) (st1 := [.int r5]) (N2 := 0) hZ dX12_hunt_25 cw_X12_73 (s_X12_isIn er5) rfl rfl (by decide) (Nat.le_of_ble_eq_true rfl) (Nat.le_refl 0) (Nat.le_refl _) (Or.inl rfl) rfl ?_
        refine r_if_ne (tgt := 33) hZ dX12_hunt_28 (by decide) (fun c19 => ?_) (fun c19 => ?_)
        · have H := ok_f H c19
          refine r_aload_n hZ dX12_hunt_33 rfl ?_
          refine r_iload_n hZ dX12_hunt_34 rfl ?_
          obtain ⟨u6, eu6, H⟩ := ok_bind H
          obtain ⟨r7, er7, H⟩ := ok_bind H
          refine r_callV (As := [.int a2]) (rest := []) (st1 := [.int r7]) (N2 := 0) hZ dX12_hunt_35 cw_X12_83_X12 rfl eu6 (s_X12_teeth er7) rfl rfl (by decide) (Nat.le_of_ble_eq_true rfl) (Nat.le_refl 0) (Nat.le_refl _) (Or.inl rfl) rfl ?_
          refine r_aload_n hZ dX12_hunt_38 rfl ?_
          refine r_iload_n hZ dX12_hunt_39 rfl ?_
          obtain ⟨u8, eu8, H⟩ := ok_bind H
          obtain ⟨r9, er9, H⟩ := ok_bind H
          refine r_callV (As := [.int a1]) (rest := [.int r7]) (st1 := [.int r9, .int r7]) (N2 := 0) hZ dX12_hunt_40 cw_X12_83_X12 rfl eu8 (s_X12_teeth er9) rfl rfl (by decide) (Nat.le_of_ble_eq_true rfl) (Nat.le_refl 0) (Nat.le_refl _) (Or.inl rfl) rfl ?_
          refine r_i2l hZ dX12_hunt_43 ?_
          refine r_aload_n hZ dX12_hunt_44 rfl ?_
          refine r_iload_n hZ dX12_hunt_45 rfl ?_
          obtain ⟨u10, eu10, H⟩ := ok_bind H
          obtain ⟨r11, er11, H⟩ := ok_bind H
          refine r_callV (As := [.int a2]) (rest := [.long (r9.toInt64), .int r7]) (st1 := [.int r11, .long (r9.toInt64), .int r7]) (N2 := 0) hZ dX12_hunt_46 cw_X12_83_X12 rfl eu10 (s_X12_teeth er11) rfl rfl (by decide) (Nat.le_of_ble_eq_true rfl) (Nat.le_refl 0) (Nat.le_refl _) (Or.inl rfl) rfl ?_
          refine r_i2l hZ dX12_hunt_49 ?_
          obtain ⟨r12, er12, H⟩ := ok_bind H
          refine r_callS (As := [.long (r9.toInt64), .long (r11.toInt64)]) (rest := [.int r7]) (st1 := [.long r12, .int r7]) (N2 := 0) hZ dX12_hunt_50 cw_X12_170 (s_X12_common er12) rfl rfl (by decide) (Nat.le_of_ble_eq_true rfl) (Nat.le_refl 0) (Nat.le_refl _) (Or.inl rfl) rfl ?_
          refine r_l2i hZ dX12_hunt_53 ?_
          obtain ⟨u13, eu13, H⟩ := ok_bind H
          refine r_idiv hZ dX12_hunt_54 (nz_ne eu13) ?_
          obtain ⟨x14, ex14, H⟩ := ok_bind H
          refine r_topi ex14 ?_
          refine r_istore hZ dX12_hunt_55 (by decide) (r_pick [0, 2, 3, 4] (ls' := [(0, .ref a0), (2, .int a2), (3, .int a3), (4, .int x14)]) rfl ?_)
          refine r_iload_n hZ dX12_hunt_57 rfl ?_
          refine ok_join (Q := fun j15 : Int32 => R Z 74 [] [.int j15] n h 0) H (fun j15 H => ?_) (fun H => ?_)
          · have H := ok_some H
            subst H
            exact r_iret hZ hF dX12_hunt_74
          · refine r_if_ne (tgt := 66) hZ dX12_hunt_58 (by decide) (fun c18 => ?_) (fun c18 => ?_)
            · have H := ok_f H c18
              refine r_aload_n hZ dX12_hunt_66 rfl ?_
              refine r_iload_n hZ dX12_hunt_67 rfl ?_
              obtain ⟨u16, eu16, H⟩ := ok_bind H
              obtain ⟨r17, er17, H⟩ := ok_bind H
              refine r_callV (As := [.int a2]) (rest := []) (st1 := [.int r17]) (N2 := 0) hZ dX12_hunt_68 cw_X12_83_X12 rfl eu16 (s_X12_teeth er17) rfl rfl (by decide) (Nat.le_of_ble_eq_true rfl) (Nat.le_refl 0) (Nat.le_refl _) (Or.inl rfl) rfl ?_
              refine r_iload hZ dX12_hunt_71 rfl ?_
              refine r_isub hZ dX12_hunt_73 ?_
              have H := ok_some H
              exact r_pick [] (ls' := []) rfl H
            · have H := ok_t H c18
              refine r_iload hZ dX12_hunt_61 rfl ?_
              refine r_goto (tgt := 74) hZ dX12_hunt_63 (by decide) ?_
              have H := ok_some H
              exact r_pick [] (ls' := []) rfl H
        · have H := ok_t H c19
          refine r_iconst (v := (J (-1))) hZ dX12_hunt_31 (by decide) ?_
          have H := ok_some H
          subst H
          exact r_iret hZ hF dX12_hunt_32
def f_X12_mayBuild  (a0 : Int32) (a1 : Int32) (a2 : Int32) : Option (Int32) :=
  (nz (J 2)).bind fun u1 =>
  (some ((a1 - a0) / (J 2))).bind fun x2 =>
  (nz (J 2)).bind fun u3 =>
  ((if ((a1 - a0) - (a1 - a0) / (J 2) * (J 2)) = 0 then
    (if (a1 - a0) < (J 8) then
      some (J 0)
    else
      (nz a2).bind fun u5 =>
      (if ((a0 + a1) - (a0 + a1) / a2 * a2) = 0 then
        (if ((J 3) * (a0 + x2)) < (a2 * (x2 + (J 2))) then
          some (J 0)
        else
          some (J 1))
      else
        some (J 0)))
  else
    some (J 0))).bind fun (j4 : Int32) =>
  (bz j4).bind fun u10 =>
  some j4
set_option maxRecDepth 100000 in
set_option maxHeartbeats 4000000 in
theorem s_X12_mayBuild {n : Nat} {h : Hp} {a0 : Int32} {a1 : Int32} {a2 : Int32}  {r : Int32} (hf : f_X12_mayBuild  a0 a1 a2 = some r) : Ev 2 yX12_mayBuild cX12_mayBuild 4 (some .boolean) [.int a0, .int a1, .int a2] n h (some (.int r)) n h := by
  refine Ev_of RX12 rfl (by decide) (Nat.le_of_ble_eq_true rfl) (Nat.le_refl _) (Or.inl rfl) (fun Z hZ hF hN hI => ?_)
  have H : Ok (f_X12_mayBuild  a0 a1 a2) (fun y => y = r) := ⟨_, hf, rfl⟩
  unfold f_X12_mayBuild at H
  refine r_ls (ls' := [(0, .int a0), (1, .int a1), (2, .int a2)]) rfl ?_
  refine r_iload_n hZ dX12_mayBuild_0 rfl ?_
  refine r_iload_n hZ dX12_mayBuild_1 rfl ?_
  refine r_isub hZ dX12_mayBuild_2 ?_
  refine r_iconst (v := (J 2)) hZ dX12_mayBuild_3 (by decide) ?_
  obtain ⟨u1, eu1, H⟩ := ok_bind H
  refine r_idiv hZ dX12_mayBuild_4 (nz_ne eu1) ?_
  obtain ⟨x2, ex2, H⟩ := ok_bind H
  refine r_topi ex2 ?_
  refine r_istore_n hZ dX12_mayBuild_5 (by decide) (r_pick [0, 1, 2, 3] (ls' := [(0, .int a0), (1, .int a1), (2, .int a2), (3, .int x2)]) rfl ?_)
  refine r_iload_n hZ dX12_mayBuild_6 rfl ?_
  refine r_iload_n hZ dX12_mayBuild_7 rfl ?_
  refine r_isub hZ dX12_mayBuild_8 ?_
  refine r_iconst (v := (J 2)) hZ dX12_mayBuild_9 (by decide) ?_
  obtain ⟨u3, eu3, H⟩ := ok_bind H
  refine r_irem hZ dX12_mayBuild_10 (nz_ne eu3) ?_
  refine ok_join (Q := fun j4 : Int32 => R Z 48 [] [.int j4] n h 0) H (fun j4 H => ?_) (fun H => ?_)
  · obtain ⟨u10, eu10, H⟩ := ok_bind H
    have H := ok_some H
    subst H
    exact r_zret hZ hF eu10 dX12_mayBuild_48
  · refine r_if_ne (tgt := 47) hZ dX12_mayBuild_11 (by decide) (fun c9 => ?_) (fun c9 => ?_)
    · have H := ok_f H c9
      refine r_iconst (v := (J 0)) hZ dX12_mayBuild_47 (by decide) ?_
      have H := ok_some H
      exact r_pick [] (ls' := []) rfl H
    · have H := ok_t H c9
      refine r_iload_n hZ dX12_mayBuild_14 rfl ?_
      refine r_iload_n hZ dX12_mayBuild_15 rfl ?_
      refine r_isub hZ dX12_mayBuild_16 ?_
      refine r_bipush (v := (J 8)) hZ dX12_mayBuild_17 (by decide) ?_
      refine r_icmp_lt (tgt := 47) hZ dX12_mayBuild_19 (by decide) (fun c8 => ?_) (fun c8 => ?_)
      · have H := ok_t H c8
        refine r_iconst (v := (J 0)) hZ dX12_mayBuild_47 (by decide) ?_
        have H := ok_some H
        exact r_pick [] (ls' := []) rfl H
      · have H := ok_f H c8
        refine r_iload_n hZ dX12_mayBuild_22 rfl ?_
        refine r_iload_n hZ dX12_mayBuild_23 rfl ?_
        refine r_iadd hZ dX12_mayBuild_24 ?_
        refine r_iload_n hZ dX12_mayBuild_25 rfl ?_
        obtain ⟨u5, eu5, H⟩ := ok_bind H
        refine r_irem hZ dX12_mayBuild_26 (nz_ne eu5) ?_
        refine r_if_ne (tgt := 47) hZ dX12_mayBuild_27 (by decide) (fun c7 => ?_) (fun c7 => ?_)
        · have H := ok_f H c7
          refine r_iconst (v := (J 0)) hZ dX12_mayBuild_47 (by decide) ?_
          have H := ok_some H
          exact r_pick [] (ls' := []) rfl H
        · have H := ok_t H c7
          refine r_iload_n hZ dX12_mayBuild_30 rfl ?_
          refine r_iload_n hZ dX12_mayBuild_31 rfl ?_
          refine r_iconst (v := (J 2)) hZ dX12_mayBuild_32 (by decide) ?_
          refine r_iadd hZ dX12_mayBuild_33 ?_
          refine r_imul hZ dX12_mayBuild_34 ?_
          refine r_iconst (v := (J 3)) hZ dX12_mayBuild_35 (by decide) ?_
          refine r_iload_n hZ dX12_mayBuild_36 rfl ?_
          refine r_iload_n hZ dX12_mayBuild_37 rfl ?_
          refine r_iadd hZ dX12_mayBuild_38 ?_
          refine r_imul hZ dX12_mayBuild_39 ?_
          refine r_icmp_gt (tgt := 47) hZ dX12_mayBuild_40 (by decide) (fun c6 => ?_) (fun c6 => ?_)
          · have H := ok_t H c6
            refine r_iconst (v := (J 0)) hZ dX12_mayBuild_47 (by decide) ?_
            have H := ok_some H
            exact r_pick [] (ls' := []) rfl H
          · have H := ok_f H c6
            refine r_iconst (v := (J 1)) hZ dX12_mayBuild_43 (by decide) ?_
            refine r_goto (tgt := 48) hZ dX12_mayBuild_44 (by decide) ?_
            have H := ok_some H
            exact r_pick [] (ls' := []) rfl H
def f_X12_planets  (a0 : Nat) (a1 : Int32) (a2 : Int32) (a3 : Int32) : Option (Int32) :=
  (f_X12_isIn (a1.toInt64) (K 4) (K 99)).bind fun r1 =>
  (if r1 = 0 then
    some (J (-1))
  else
    (f_X12_isIn (a2.toInt64) (K 4) (K 99)).bind fun r2 =>
    (if r2 = 0 then
      some (J (-1))
    else
      (f_X12_isIn (a3.toInt64) (K 1) (K 12)).bind fun r3 =>
      (if r3 = 0 then
        some (J (-1))
      else
        (f_X12_mayBuild a1 a2 a3).bind fun r4 =>
        ((if r4 = 0 then
          some (J (-4))
        else
          (nz (J 2)).bind fun u6 =>
          some ((a2 - a1) / (J 2)))).bind fun (j5 : Int32) =>
        some j5)))
set_option maxRecDepth 100000 in
set_option maxHeartbeats 4000000 in
theorem s_X12_planets {n : Nat} {h : Hp} {a0 : Nat} {a1 : Int32} {a2 : Int32} {a3 : Int32}  {r : Int32} (hf : f_X12_planets  a0 a1 a2 a3 = some r) : Ev 3 yX12_planets cX12_planets 4 (some .int) [.ref a0, .int a1, .int a2, .int a3] n h (some (.int r)) n h := by
  refine Ev_of RX12 rfl (by decide) (Nat.le_of_ble_eq_true rfl) (Nat.le_refl _) (Or.inl rfl) (fun Z hZ hF hN hI => ?_)
  have H : Ok (f_X12_planets  a0 a1 a2 a3) (fun y => y = r) := ⟨_, hf, rfl⟩
  unfold f_X12_planets at H
  refine r_ls (ls' := [(0, .ref a0), (1, .int a1), (2, .int a2), (3, .int a3)]) rfl ?_
  refine r_iload_n hZ dX12_planets_0 rfl ?_
  refine r_i2l hZ dX12_planets_1 ?_
  refine r_ldc2 (v := (K 4)) hZ wc_X12_200 dX12_planets_2 ?_
  refine r_ldc2 (v := (K 99)) hZ wc_X12_202 dX12_planets_5 ?_
  obtain ⟨r1, er1, H⟩ := ok_bind H
  refine r_callS (As := [.long (a1.toInt64), .long (K 4), .long (K 99)]) (rest := []) (st1 := [.int r1]) (N2 := 0) hZ dX12_planets_8 cw_X12_73 (s_X12_isIn er1) rfl rfl (by decide) (Nat.le_of_ble_eq_true rfl) (Nat.le_refl 0) (Nat.le_refl _) (Or.inl rfl) rfl ?_
  refine r_if_eq (tgt := 40) hZ dX12_planets_11 (by decide) (fun c10 => ?_) (fun c10 => ?_)
  · have H := ok_t H c10
    refine r_iconst (v := (J (-1))) hZ dX12_planets_40 (by decide) ?_
    have H := ok_some H
    subst H
    exact r_iret hZ hF dX12_planets_41
  · have H := ok_f H c10
    refine r_iload_n hZ dX12_planets_14 rfl ?_
    refine r_i2l hZ dX12_planets_15 ?_
    refine r_ldc2 (v := (K 4)) hZ wc_X12_200 dX12_planets_16 ?_
    refine r_ldc2 (v := (K 99)) hZ wc_X12_202 dX12_planets_19 ?_
    obtain ⟨r2, er2, H⟩ := ok_bind H
    refine r_callS (As := [.long (a2.toInt64), .long (K 4), .long (K 99)]) (rest := []) (st1 := [.int r2]) (N2 := 0) hZ dX12_planets_22 cw_X12_73 (s_X12_isIn er2) rfl rfl (by decide) (Nat.le_of_ble_eq_true rfl) (Nat.le_refl 0) (Nat.le_refl _) (Or.inl rfl) rfl ?_
    refine r_if_eq (tgt := 40) hZ dX12_planets_25 (by decide) (fun c9 => ?_) (fun c9 => ?_)
    · have H := ok_t H c9
      refine r_iconst (v := (J (-1))) hZ dX12_planets_40 (by decide) ?_
      have H := ok_some H
      subst H
      exact r_iret hZ hF dX12_planets_41
    · have H := ok_f H c9
      refine r_iload_n hZ dX12_planets_28 rfl ?_
      refine r_i2l hZ dX12_planets_29 ?_
      refine r_lconst (v := (K 1)) hZ dX12_planets_30 (by decide) ?_
      refine r_ldc2 (v := (K 12)) hZ wc_X12_204 dX12_planets_31 ?_
      obtain ⟨r3, er3, H⟩ := ok_bind H
      refine r_callS (As := [.long (a3.toInt64), .long (K 1), .long (K 12)]) (rest := []) (st1 := [.int r3]) (N2 := 0) hZ dX12_planets_34 cw_X12_73 (s_X12_isIn er3) rfl rfl (by decide) (Nat.le_of_ble_eq_true rfl) (Nat.le_refl 0) (Nat.le_refl _) (Or.inl rfl) rfl ?_
      refine r_if_ne (tgt := 42) hZ dX12_planets_37 (by decide) (fun c8 => ?_) (fun c8 => ?_)
      · have H := ok_f H c8
        refine r_iload_n hZ dX12_planets_42 rfl ?_
        refine r_iload_n hZ dX12_planets_43 rfl ?_
        refine r_iload_n hZ dX12_planets_44 rfl ?_
        obtain ⟨r4, er4, H⟩ := ok_bind H
        refine r_callS (As := [.int a1, .int a2, .int a3]) (rest := []) (st1 := [.int r4]) (N2 := 0) hZ dX12_planets_45 cw_X12_206 (s_X12_mayBuild er4) rfl rfl (by decide) (Nat.le_of_ble_eq_true rfl) (Nat.le_refl 0) (Nat.le_refl _) (Or.inl rfl) rfl ?_
        refine ok_join (Q := fun j5 : Int32 => R Z 61 [] [.int j5] n h 0) H (fun j5 H => ?_) (fun H => ?_)
        · have H := ok_some H
          subst H
          exact r_iret hZ hF dX12_planets_61
        · refine r_if_eq (tgt := 59) hZ dX12_planets_48 (by decide) (fun c7 => ?_) (fun c7 => ?_)
          · have H := ok_t H c7
            refine r_bipush (v := (J (-4))) hZ dX12_planets_59 (by decide) ?_
            have H := ok_some H
            exact r_pick [] (ls' := []) rfl H
          · have H := ok_f H c7
            refine r_iload_n hZ dX12_planets_51 rfl ?_
            refine r_iload_n hZ dX12_planets_52 rfl ?_
            refine r_isub hZ dX12_planets_53 ?_
            refine r_iconst (v := (J 2)) hZ dX12_planets_54 (by decide) ?_
            obtain ⟨u6, eu6, H⟩ := ok_bind H
            refine r_idiv hZ dX12_planets_55 (nz_ne eu6) ?_
            refine r_goto (tgt := 61) hZ dX12_planets_56 (by decide) ?_
            have H := ok_some H
            exact r_pick [] (ls' := []) rfl H
      · have H := ok_t H c8
        refine r_iconst (v := (J (-1))) hZ dX12_planets_40 (by decide) ?_
        have H := ok_some H
        subst H
        exact r_iret hZ hF dX12_planets_41
def b_X12_most_33 (p1 : Int32) (p2 : Int32) (s : Int32) : Option ((Int32) ⊕ ((Int32))) :=
  (if s ≤ 0 then
    some (.inr (s))
  else
    (f_X12_mayBuild p1 p2 s).bind fun r1 =>
    (if r1 = 0 then
      (some (s + (J (-1)))).bind fun x2 =>
      some (.inl x2)
    else
      some (.inr (s))))
set_option maxRecDepth 100000 in
set_option maxHeartbeats 4000000 in
theorem l_X12_most_33 {Z : Zc} (hZ : Fx cX12_most RX12 4 3 0 Z) {n : Nat} {h : Hp} {p1 : Int32} {p2 : Int32} {P : ((Int32)) → Prop} (hx0 : ∀ e : Int32, P (e) → R Z 52 [(3, .int e)] [] n h 0) : ∀ (m : Nat) (s : Int32), Ok (iter (b_X12_most_33 p1 p2) m s) P → R Z 33 [(1, .int p1), (2, .int p2), (3, .int s)] [] n h 0 := by
  intro m
  induction m with
  | zero => exact fun s H => ok_iter0 H
  | succ m ih =>
    intro s H
    have H := ok_iter H
    unfold b_X12_most_33 at H
    refine r_iload_n hZ dX12_most_33 rfl ?_
    refine r_if_le (tgt := 52) hZ dX12_most_34 (by decide) (fun c4 => ?_) (fun c4 => ?_)
    · have H := ok_t H c4
      exact r_pick [3] (ls' := [(3, .int s)]) rfl (hx0 _ (ki_r H))
    · have H := ok_f H c4
      refine r_iload_n hZ dX12_most_37 rfl ?_
      refine r_iload_n hZ dX12_most_38 rfl ?_
      refine r_iload_n hZ dX12_most_39 rfl ?_
      obtain ⟨r1, er1, H⟩ := ok_bind H
      refine r_callS (As := [.int p1, .int p2, .int s]) (rest := []) (st1 := [.int r1]) (N2 := 0) hZ dX12_most_40 cw_X12_206 (s_X12_mayBuild er1) rfl rfl (by decide) (Nat.le_of_ble_eq_true rfl) (Nat.le_refl 0) (Nat.le_refl _) (Or.inl rfl) rfl ?_
      refine r_if_ne (tgt := 52) hZ dX12_most_43 (by decide) (fun c3 => ?_) (fun c3 => ?_)
      · have H := ok_f H c3
        exact r_pick [3] (ls' := [(3, .int s)]) rfl (hx0 _ (ki_r H))
      · have H := ok_t H c3
        obtain ⟨x2, ex2, H⟩ := ok_bind H
        refine r_iincE (w := (J (-1))) hZ dX12_most_46 (by decide) rfl (by decide) ex2 (r_pick [1, 2, 3] (ls' := [(1, .int p1), (2, .int p2), (3, .int x2)]) rfl ?_)
        refine r_goto (tgt := 33) hZ dX12_most_49 (by decide) ?_
        exact r_pick [1, 2, 3] (ls' := [(1, .int p1), (2, .int p2), (3, .int x2)]) rfl (ih _ (ki_l H))
def f_X12_most  (a0 : Nat) (a1 : Int32) (a2 : Int32) : Option (Int32) :=
  (f_X12_isIn (a1.toInt64) (K 4) (K 99)).bind fun r1 =>
  (if r1 = 0 then
    some (J (-1))
  else
    (f_X12_isIn (a2.toInt64) (K 4) (K 99)).bind fun r2 =>
    (if r2 = 0 then
      some (J (-1))
    else
      (some (J 12)).bind fun x3 =>
      (iter (b_X12_most_33 a1 a2) FU x3).bind fun e4 =>
      ((if e4 ≤ 0 then
        some (J (-4))
      else
        some e4)).bind fun (j5 : Int32) =>
      some j5))
set_option maxRecDepth 100000 in
set_option maxHeartbeats 4000000 in
theorem s_X12_most {n : Nat} {h : Hp} {a0 : Nat} {a1 : Int32} {a2 : Int32}  {r : Int32} (hf : f_X12_most  a0 a1 a2 = some r) : Ev 3 yX12_most cX12_most 4 (some .int) [.ref a0, .int a1, .int a2] n h (some (.int r)) n h := by
  refine Ev_of RX12 rfl (by decide) (Nat.le_of_ble_eq_true rfl) (Nat.le_refl _) (Or.inl rfl) (fun Z hZ hF hN hI => ?_)
  have H : Ok (f_X12_most  a0 a1 a2) (fun y => y = r) := ⟨_, hf, rfl⟩
  unfold f_X12_most at H
  refine r_ls (ls' := [(0, .ref a0), (1, .int a1), (2, .int a2)]) rfl ?_
  refine r_iload_n hZ dX12_most_0 rfl ?_
  refine r_i2l hZ dX12_most_1 ?_
  refine r_ldc2 (v := (K 4)) hZ wc_X12_200 dX12_most_2 ?_
  refine r_ldc2 (v := (K 99)) hZ wc_X12_202 dX12_most_5 ?_
  obtain ⟨r1, er1, H⟩ := ok_bind H
  refine r_callS (As := [.long (a1.toInt64), .long (K 4), .long (K 99)]) (rest := []) (st1 := [.int r1]) (N2 := 0) hZ dX12_most_8 cw_X12_73 (s_X12_isIn er1) rfl rfl (by decide) (Nat.le_of_ble_eq_true rfl) (Nat.le_refl 0) (Nat.le_refl _) (Or.inl rfl) rfl ?_
  refine r_if_eq (tgt := 28) hZ dX12_most_11 (by decide) (fun c8 => ?_) (fun c8 => ?_)
  · have H := ok_t H c8
    refine r_iconst (v := (J (-1))) hZ dX12_most_28 (by decide) ?_
    have H := ok_some H
    subst H
    exact r_iret hZ hF dX12_most_29
  · have H := ok_f H c8
    refine r_iload_n hZ dX12_most_14 rfl ?_
    refine r_i2l hZ dX12_most_15 ?_
    refine r_ldc2 (v := (K 4)) hZ wc_X12_200 dX12_most_16 ?_
    refine r_ldc2 (v := (K 99)) hZ wc_X12_202 dX12_most_19 ?_
    obtain ⟨r2, er2, H⟩ := ok_bind H
    refine r_callS (As := [.long (a2.toInt64), .long (K 4), .long (K 99)]) (rest := []) (st1 := [.int r2]) (N2 := 0) hZ dX12_most_22 cw_X12_73 (s_X12_isIn er2) rfl rfl (by decide) (Nat.le_of_ble_eq_true rfl) (Nat.le_refl 0) (Nat.le_refl _) (Or.inl rfl) rfl ?_
    refine r_if_ne (tgt := 30) hZ dX12_most_25 (by decide) (fun c7 => ?_) (fun c7 => ?_)
    · have H := ok_f H c7
      refine r_bipush (v := (J 12)) hZ dX12_most_30 (by decide) ?_
      obtain ⟨x3, ex3, H⟩ := ok_bind H
      refine r_topi ex3 ?_
      refine r_istore_n hZ dX12_most_32 (by decide) (r_pick [1, 2, 3] (ls' := [(1, .int a1), (2, .int a2), (3, .int x3)]) rfl ?_)
      have H := ok_bindK H
      refine r_pick [1, 2, 3] (ls' := [(1, .int a1), (2, .int a2), (3, .int x3)]) rfl (l_X12_most_33 hZ (fun e4 H => ?_) FU _ H)
      · refine r_iload_n hZ dX12_most_52 rfl ?_
        refine ok_join (Q := fun j5 : Int32 => R Z 62 [] [.int j5] n h 0) H (fun j5 H => ?_) (fun H => ?_)
        · have H := ok_some H
          subst H
          exact r_iret hZ hF dX12_most_62
        · refine r_if_le (tgt := 60) hZ dX12_most_53 (by decide) (fun c6 => ?_) (fun c6 => ?_)
          · have H := ok_t H c6
            refine r_bipush (v := (J (-4))) hZ dX12_most_60 (by decide) ?_
            have H := ok_some H
            exact r_pick [] (ls' := []) rfl H
          · have H := ok_f H c6
            refine r_iload_n hZ dX12_most_56 rfl ?_
            refine r_goto (tgt := 62) hZ dX12_most_57 (by decide) ?_
            have H := ok_some H
            exact r_pick [] (ls' := []) rfl H
    · have H := ok_t H c7
      refine r_iconst (v := (J (-1))) hZ dX12_most_28 (by decide) ?_
      have H := ok_some H
      subst H
      exact r_iret hZ hF dX12_most_29
def b_X12_wrongCutter_29 (h : Hp) (p0 : Nat) (p1 : Int32) (s : Int32) : Option ((Int32) ⊕ ((Unit) ⊕ (Unit))) :=
  (if (J 16) ≤ s then
    some (.inr (.inl ()))
  else
    (gR h p0 11 7).bind fun x1 =>
    (aI h x1 (((J 120) * p1) + s)).bind fun x2 =>
    (f_X12_isIn (x2.toInt64) (K 0) (K 31)).bind fun r3 =>
    (if r3 = 0 then
      some (.inr (.inr ()))
    else
      (some (s + (J 1))).bind fun x4 =>
      some (.inl x4)))
set_option maxRecDepth 100000 in
set_option maxHeartbeats 4000000 in
theorem l_X12_wrongCutter_29 {Z : Zc} (hZ : Fx cX12_wrongCutter RX12 4 5 0 Z) {n : Nat} {h : Hp} {p0 : Nat} {p1 : Int32} {P : ((Unit) ⊕ (Unit)) → Prop} (hx0 : ∀ e : Unit, P (.inl e) → R Z 66 [] [] n h 0) (hx1 : ∀ e : Unit, P (.inr e) → R Z 57 [] [] n h 0) : ∀ (m : Nat) (s : Int32), Ok (iter (b_X12_wrongCutter_29 h p0 p1) m s) P → R Z 29 [(0, .ref p0), (1, .int p1), (3, .int s)] [] n h 0 := by
  intro m
  induction m with
  | zero => exact fun s H => ok_iter0 H
  | succ m ih =>
    intro s H
    have H := ok_iter H
    unfold b_X12_wrongCutter_29 at H
    refine r_iload_n hZ dX12_wrongCutter_29 rfl ?_
    refine r_bipush (v := (J 16)) hZ dX12_wrongCutter_30 (by decide) ?_
    refine r_icmp_ge (tgt := 66) hZ dX12_wrongCutter_32 (by decide) (fun c6 => ?_) (fun c6 => ?_)
    · have H := ok_t H c6
      exact r_pick [] (ls' := []) rfl (hx0 _ (ki_r H))
    · have H := ok_f H c6
      refine r_aload_n hZ dX12_wrongCutter_35 rfl ?_
      obtain ⟨x1, ex1, H⟩ := ok_bind H
      refine r_getR hZ fl_X12_31_11 dX12_wrongCutter_36 ex1 ?_
      refine r_bipush (v := (J 120)) hZ dX12_wrongCutter_39 (by decide) ?_
      refine r_iload_n hZ dX12_wrongCutter_41 rfl ?_
      refine r_imul hZ dX12_wrongCutter_42 ?_
      refine r_iload_n hZ dX12_wrongCutter_43 rfl ?_
      refine r_iadd hZ dX12_wrongCutter_44 ?_
      obtain ⟨x2, ex2, H⟩ := ok_bind H
      refine r_aI hZ dX12_wrongCutter_45 ex2 ?_
      refine r_i2l hZ dX12_wrongCutter_46 ?_
      refine r_lconst (v := (K 0)) hZ dX12_wrongCutter_47 (by decide) ?_
      refine r_ldc2 (v := (K 31)) hZ wc_X12_210 dX12_wrongCutter_48 ?_
      obtain ⟨r3, er3, H⟩ := ok_bind H
      refine r_callS (As := [.long (x2.toInt64), .long (K 0), .long (K 31)]) (rest := []) (st1 := [.int r3]) (N2 := 0) hZ dX12_wrongCutter_51 cw_X12_73 (s_X12_isIn er3) rfl rfl (by decide) (Nat.le_of_ble_eq_true rfl) (Nat.le_refl 0) (Nat.le_refl _) (Or.inl rfl) rfl ?_
      refine r_if_ne (tgt := 60) hZ dX12_wrongCutter_54 (by decide) (fun c5 => ?_) (fun c5 => ?_)
      · have H := ok_f H c5
        obtain ⟨x4, ex4, H⟩ := ok_bind H
        refine r_iincE (w := (J 1)) hZ dX12_wrongCutter_60 (by decide) rfl (by decide) ex4 (r_pick [0, 1, 3] (ls' := [(0, .ref p0), (1, .int p1), (3, .int x4)]) rfl ?_)
        refine r_goto (tgt := 29) hZ dX12_wrongCutter_63 (by decide) ?_
        exact r_pick [0, 1, 3] (ls' := [(0, .ref p0), (1, .int p1), (3, .int x4)]) rfl (ih _ (ki_l H))
      · have H := ok_t H c5
        exact r_pick [] (ls' := []) rfl (hx1 _ (ki_r H))
def f_X12_wrongCutter  (h : Hp) (a0 : Nat) (a1 : Int32) : Option (Int32) :=
  (isO h a0 11).bind fun u1 =>
  (f_X12_wrongRow h a0 a1 (J 0)).bind fun r2 =>
  (if r2 = 0 then
    (gR h a0 11 6).bind fun x3 =>
    (aI h x3 a1).bind fun x4 =>
    (if x4 = (J 16) then
      (some (J 0)).bind fun x5 =>
      (iter (b_X12_wrongCutter_29 h a0 a1) FU x5).bind fun e6 =>
      (match e6 with
      | .inl e7 =>
        some (J 0)
      | .inr e8 =>
        some (J (-13)))
    else
      some (J (-13)))
  else
    some r2)
set_option maxRecDepth 100000 in
set_option maxHeartbeats 4000000 in
theorem s_X12_wrongCutter {n : Nat} {h : Hp} {a0 : Nat} {a1 : Int32}  {r : Int32} (hf : f_X12_wrongCutter  h a0 a1 = some r) : Ev 5 yX12_wrongCutter cX12_wrongCutter 4 (some .int) [.ref a0, .int a1] n h (some (.int r)) n h := by
  refine Ev_of RX12 rfl (by decide) (Nat.le_of_ble_eq_true rfl) (Nat.le_refl _) (Or.inl rfl) (fun Z hZ hF hN hI => ?_)
  have H : Ok (f_X12_wrongCutter  h a0 a1) (fun y => y = r) := ⟨_, hf, rfl⟩
  unfold f_X12_wrongCutter at H
  refine r_ls (ls' := [(0, .ref a0), (1, .int a1)]) rfl ?_
  refine r_aload_n hZ dX12_wrongCutter_0 rfl ?_
  refine r_iload_n hZ dX12_wrongCutter_1 rfl ?_
  refine r_iconst (v := (J 0)) hZ dX12_wrongCutter_2 (by decide) ?_
  obtain ⟨u1, eu1, H⟩ := ok_bind H
  obtain ⟨r2, er2, H⟩ := ok_bind H
  refine r_callV (As := [.int a1, .int (J 0)]) (rest := []) (st1 := [.int r2]) (N2 := 0) hZ dX12_wrongCutter_3 cw_X12_130_X12 rfl eu1 (s_X12_wrongRow er2) rfl rfl (by decide) (Nat.le_of_ble_eq_true rfl) (Nat.le_refl 0) (Nat.le_refl _) (Or.inl rfl) rfl ?_
  refine r_istore_n hZ dX12_wrongCutter_6 (by decide) (r_pick [0, 1, 2] (ls' := [(0, .ref a0), (1, .int a1), (2, .int r2)]) rfl ?_)
  refine r_iload_n hZ dX12_wrongCutter_7 rfl ?_
  refine r_if_eq (tgt := 13) hZ dX12_wrongCutter_8 (by decide) (fun c10 => ?_) (fun c10 => ?_)
  · have H := ok_t H c10
    refine r_aload_n hZ dX12_wrongCutter_13 rfl ?_
    obtain ⟨x3, ex3, H⟩ := ok_bind H
    refine r_getR hZ fl_X12_28_11 dX12_wrongCutter_14 ex3 ?_
    refine r_iload_n hZ dX12_wrongCutter_17 rfl ?_
    obtain ⟨x4, ex4, H⟩ := ok_bind H
    refine r_aI hZ dX12_wrongCutter_18 ex4 ?_
    refine r_bipush (v := (J 16)) hZ dX12_wrongCutter_19 (by decide) ?_
    refine r_icmp_eq (tgt := 27) hZ dX12_wrongCutter_21 (by decide) (fun c9 => ?_) (fun c9 => ?_)
    · have H := ok_t H c9
      refine r_iconst (v := (J 0)) hZ dX12_wrongCutter_27 (by decide) ?_
      obtain ⟨x5, ex5, H⟩ := ok_bind H
      refine r_topi ex5 ?_
      refine r_istore_n hZ dX12_wrongCutter_28 (by decide) (r_pick [0, 1, 3] (ls' := [(0, .ref a0), (1, .int a1), (3, .int x5)]) rfl ?_)
      have H := ok_bindK H
      refine r_pick [0, 1, 3] (ls' := [(0, .ref a0), (1, .int a1), (3, .int x5)]) rfl (l_X12_wrongCutter_29 hZ (fun e7 H => ?_) (fun e8 H => ?_) FU _ H)
      · refine r_iconst (v := (J 0)) hZ dX12_wrongCutter_66 (by decide) ?_
        have H := ok_some H
        subst H
        exact r_iret hZ hF dX12_wrongCutter_67
      · refine r_bipush (v := (J (-13))) hZ dX12_wrongCutter_57 (by decide) ?_
        have H := ok_some H
        subst H
        exact r_iret hZ hF dX12_wrongCutter_59
    · have H := ok_f H c9
      refine r_bipush (v := (J (-13))) hZ dX12_wrongCutter_24 (by decide) ?_
      have H := ok_some H
      subst H
      exact r_iret hZ hF dX12_wrongCutter_26
  · have H := ok_f H c10
    refine r_iload_n hZ dX12_wrongCutter_11 rfl ?_
    have H := ok_some H
    subst H
    exact r_iret hZ hF dX12_wrongCutter_12
def b_X12_cuts_3 (p0 : Nat) (p1 : Int32) (p2 : Int32) (p3 : Int32) (s : Int32 × Hp) : Option ((Int32 × Hp) ⊕ ((Hp))) :=
  (if (J 16) ≤ s.1 then
    some (.inr (s.2))
  else
    (gR s.2 p0 11 24).bind fun x1 =>
    (sI s.2 x1 s.1 (J 31)).bind fun h2 =>
    (some (s.1 + (J 1))).bind fun x3 =>
    some (.inl (x3, h2)))
set_option maxRecDepth 100000 in
set_option maxHeartbeats 4000000 in
theorem l_X12_cuts_3 {Z : Zc} (hZ : Fx cX12_cuts RX12 8 3 0 Z) {n : Nat} {p0 : Nat} {p1 : Int32} {p2 : Int32} {p3 : Int32} {P : ((Hp)) → Prop} (hx0 : ∀ e : Hp, P (e) → R Z 25 [(0, .ref p0), (1, .int p1), (2, .int p2), (3, .int p3)] [] n e 0) : ∀ (m : Nat) (s : Int32 × Hp), Ok (iter (b_X12_cuts_3 p0 p1 p2 p3) m s) P → R Z 3 [(0, .ref p0), (1, .int p1), (2, .int p2), (3, .int p3), (4, .int s.1)] [] n s.2 0 := by
  intro m
  induction m with
  | zero => exact fun s H => ok_iter0 H
  | succ m ih =>
    intro s H
    have H := ok_iter H
    unfold b_X12_cuts_3 at H
    refine r_iload hZ dX12_cuts_3 rfl ?_
    refine r_bipush (v := (J 16)) hZ dX12_cuts_5 (by decide) ?_
    refine r_icmp_ge (tgt := 25) hZ dX12_cuts_7 (by decide) (fun c4 => ?_) (fun c4 => ?_)
    · have H := ok_t H c4
      exact r_pick [0, 1, 2, 3] (ls' := [(0, .ref p0), (1, .int p1), (2, .int p2), (3, .int p3)]) rfl (hx0 _ (ki_r H))
    · have H := ok_f H c4
      refine r_aload_n hZ dX12_cuts_10 rfl ?_
      obtain ⟨x1, ex1, H⟩ := ok_bind H
      refine r_getR hZ fl_X12_60_11 dX12_cuts_11 ex1 ?_
      refine r_iload hZ dX12_cuts_14 rfl ?_
      refine r_bipush (v := (J 31)) hZ dX12_cuts_16 (by decide) ?_
      obtain ⟨h2, eh2, H⟩ := ok_bind H
      refine r_sI hZ dX12_cuts_18 eh2 ?_
      obtain ⟨x3, ex3, H⟩ := ok_bind H
      refine r_iincE (w := (J 1)) hZ dX12_cuts_19 (by decide) rfl (by decide) ex3 (r_pick [0, 1, 2, 3, 4] (ls' := [(0, .ref p0), (1, .int p1), (2, .int p2), (3, .int p3), (4, .int x3)]) rfl ?_)
      refine r_goto (tgt := 3) hZ dX12_cuts_22 (by decide) ?_
      exact r_pick [0, 1, 2, 3, 4] (ls' := [(0, .ref p0), (1, .int p1), (2, .int p2), (3, .int p3), (4, .int x3)]) rfl (ih _ (ki_l H))
def b_X12_cuts_49 (p0 : Nat) (p1 : Int32) (p2 : Int32) (p3 : Int32) (p4 : Int32) (p5 : Int32) (s : Int32 × Hp) : Option ((Int32 × Hp) ⊕ ((Hp))) :=
  (if (J 16) ≤ s.1 then
    some (.inr (s.2))
  else
    (f_X12_isIn ((s.1 - p5).toInt64) (K 0) (K 15)).bind fun r1 =>
    ((if r1 = 0 then
      some s.2
    else
      (gR s.2 p0 11 7).bind fun x3 =>
      (aI s.2 x3 ((((J 120) * p1) + s.1) - p5)).bind fun x4 =>
      (nz (J 8)).bind fun u5 =>
      (some ((J 31) - ((x4 + p2) - ((p5 * p5) / (J 8))))).bind fun x6 =>
      (gR s.2 p0 11 24).bind fun x7 =>
      (gR s.2 p0 11 24).bind fun x8 =>
      (aI s.2 x8 s.1).bind fun x9 =>
      ((if x9 ≤ x6 then
        (gR s.2 p0 11 24).bind fun x11 =>
        (aI s.2 x11 s.1).bind fun x12 =>
        some x12
      else
        (if 0 ≤ x6 then
          some x6
        else
          some (J 0)))).bind fun (j10 : Int32) =>
      (sI s.2 x7 s.1 j10).bind fun h15 =>
      some h15)).bind fun (j2 : Hp) =>
    (some (s.1 + (J 1))).bind fun x17 =>
    some (.inl (x17, j2)))
set_option maxRecDepth 100000 in
set_option maxHeartbeats 4000000 in
theorem l_X12_cuts_49 {Z : Zc} (hZ : Fx cX12_cuts RX12 8 3 0 Z) {n : Nat} {p0 : Nat} {p1 : Int32} {p2 : Int32} {p3 : Int32} {p4 : Int32} {p5 : Int32} {P : ((Hp)) → Prop} (hx0 : ∀ e : Hp, P (e) → R Z 152 [(0, .ref p0), (1, .int p1), (2, .int p2), (3, .int p3), (4, .int p4)] [] n e 0) : ∀ (m : Nat) (s : Int32 × Hp), Ok (iter (b_X12_cuts_49 p0 p1 p2 p3 p4 p5) m s) P → R Z 49 [(0, .ref p0), (1, .int p1), (2, .int p2), (3, .int p3), (4, .int p4), (5, .int p5), (6, .int s.1)] [] n s.2 0 := by
  intro m
  induction m with
  | zero => exact fun s H => ok_iter0 H
  | succ m ih =>
    intro s H
    have H := ok_iter H
    unfold b_X12_cuts_49 at H
    refine r_iload hZ dX12_cuts_49 rfl ?_
    refine r_bipush (v := (J 16)) hZ dX12_cuts_51 (by decide) ?_
    refine r_icmp_ge (tgt := 152) hZ dX12_cuts_53 (by decide) (fun c18 => ?_) (fun c18 => ?_)
    · have H := ok_t H c18
      exact r_pick [0, 1, 2, 3, 4] (ls' := [(0, .ref p0), (1, .int p1), (2, .int p2), (3, .int p3), (4, .int p4)]) rfl (hx0 _ (ki_r H))
    · have H := ok_f H c18
      refine r_iload hZ dX12_cuts_56 rfl ?_
      refine r_iload hZ dX12_cuts_58 rfl ?_
      refine r_isub hZ dX12_cuts_60 ?_
      refine r_i2l hZ dX12_cuts_61 ?_
      refine r_lconst (v := (K 0)) hZ dX12_cuts_62 (by decide) ?_
      refine r_ldc2 (v := (K 15)) hZ wc_X12_161 dX12_cuts_63 ?_
      obtain ⟨r1, er1, H⟩ := ok_bind H
      refine r_callS (As := [.long ((s.1 - p5).toInt64), .long (K 0), .long (K 15)]) (rest := []) (st1 := [.int r1]) (N2 := 0) hZ dX12_cuts_66 cw_X12_73 (s_X12_isIn er1) rfl rfl (by decide) (Nat.le_of_ble_eq_true rfl) (Nat.le_refl 0) (Nat.le_refl _) (Or.inl rfl) rfl ?_
      refine ok_join (Q := fun j2 : Hp => R Z 146 [(0, .ref p0), (1, .int p1), (2, .int p2), (3, .int p3), (4, .int p4), (5, .int p5), (6, .int s.1)] [] n j2 0) H (fun j2 H => ?_) (fun H => ?_)
      · obtain ⟨x17, ex17, H⟩ := ok_bind H
        refine r_iincE (w := (J 1)) hZ dX12_cuts_146 (by decide) rfl (by decide) ex17 (r_pick [0, 1, 2, 3, 4, 5, 6] (ls' := [(0, .ref p0), (1, .int p1), (2, .int p2), (3, .int p3), (4, .int p4), (5, .int p5), (6, .int x17)]) rfl ?_)
        refine r_goto (tgt := 49) hZ dX12_cuts_149 (by decide) ?_
        exact r_pick [0, 1, 2, 3, 4, 5, 6] (ls' := [(0, .ref p0), (1, .int p1), (2, .int p2), (3, .int p3), (4, .int p4), (5, .int p5), (6, .int x17)]) rfl (ih _ (ki_l H))
      · refine r_if_ne (tgt := 75) hZ dX12_cuts_69 (by decide) (fun c16 => ?_) (fun c16 => ?_)
        · have H := ok_f H c16
          refine r_bipush (v := (J 31)) hZ dX12_cuts_75 (by decide) ?_
          refine r_aload_n hZ dX12_cuts_77 rfl ?_
          obtain ⟨x3, ex3, H⟩ := ok_bind H
          refine r_getR hZ fl_X12_31_11 dX12_cuts_78 ex3 ?_
          refine r_bipush (v := (J 120)) hZ dX12_cuts_81 (by decide) ?_
          refine r_iload_n hZ dX12_cuts_83 rfl ?_
          refine r_imul hZ dX12_cuts_84 ?_
          refine r_iload hZ dX12_cuts_85 rfl ?_
          refine r_iadd hZ dX12_cuts_87 ?_
          refine r_iload hZ dX12_cuts_88 rfl ?_
          refine r_isub hZ dX12_cuts_90 ?_
          obtain ⟨x4, ex4, H⟩ := ok_bind H
          refine r_aI hZ dX12_cuts_91 ex4 ?_
          refine r_iload_n hZ dX12_cuts_92 rfl ?_
          refine r_iadd hZ dX12_cuts_93 ?_
          refine r_iload hZ dX12_cuts_94 rfl ?_
          refine r_iload hZ dX12_cuts_96 rfl ?_
          refine r_imul hZ dX12_cuts_98 ?_
          refine r_bipush (v := (J 8)) hZ dX12_cuts_99 (by decide) ?_
          obtain ⟨u5, eu5, H⟩ := ok_bind H
          refine r_idiv hZ dX12_cuts_101 (nz_ne eu5) ?_
          refine r_isub hZ dX12_cuts_102 ?_
          refine r_isub hZ dX12_cuts_103 ?_
          obtain ⟨x6, ex6, H⟩ := ok_bind H
          refine r_topi ex6 ?_
          refine r_istore hZ dX12_cuts_104 (by decide) (r_pick [0, 1, 2, 3, 4, 5, 6, 7] (ls' := [(0, .ref p0), (1, .int p1), (2, .int p2), (3, .int p3), (4, .int p4), (5, .int p5), (6, .int s.1), (7, .int x6)]) rfl ?_)
          refine r_aload_n hZ dX12_cuts_106 rfl ?_
          obtain ⟨x7, ex7, H⟩ := ok_bind H
          refine r_getR hZ fl_X12_60_11 dX12_cuts_107 ex7 ?_
          refine r_iload hZ dX12_cuts_110 rfl ?_
          refine r_iload hZ dX12_cuts_112 rfl ?_
          refine r_aload_n hZ dX12_cuts_114 rfl ?_
          obtain ⟨x8, ex8, H⟩ := ok_bind H
          refine r_getR hZ fl_X12_60_11 dX12_cuts_115 ex8 ?_
          refine r_iload hZ dX12_cuts_118 rfl ?_
          obtain ⟨x9, ex9, H⟩ := ok_bind H
          refine r_aI hZ dX12_cuts_120 ex9 ?_
          refine ok_join (Q := fun j10 : Int32 => R Z 145 [(0, .ref p0), (1, .int p1), (2, .int p2), (3, .int p3), (4, .int p4), (5, .int p5), (6, .int s.1)] [.int j10, .int s.1, .ref x7] n s.2 0) H (fun j10 H => ?_) (fun H => ?_)
          · obtain ⟨h15, eh15, H⟩ := ok_bind H
            refine r_sI hZ dX12_cuts_145 eh15 ?_
            have H := ok_some H
            exact r_pick [0, 1, 2, 3, 4, 5, 6] (ls' := [(0, .ref p0), (1, .int p1), (2, .int p2), (3, .int p3), (4, .int p4), (5, .int p5), (6, .int s.1)]) rfl H
          · refine r_icmp_ge (tgt := 138) hZ dX12_cuts_121 (by decide) (fun c14 => ?_) (fun c14 => ?_)
            · have H := ok_t H c14
              refine r_aload_n hZ dX12_cuts_138 rfl ?_
              obtain ⟨x11, ex11, H⟩ := ok_bind H
              refine r_getR hZ fl_X12_60_11 dX12_cuts_139 ex11 ?_
              refine r_iload hZ dX12_cuts_142 rfl ?_
              obtain ⟨x12, ex12, H⟩ := ok_bind H
              refine r_aI hZ dX12_cuts_144 ex12 ?_
              have H := ok_some H
              exact r_pick [0, 1, 2, 3, 4, 5, 6] (ls' := [(0, .ref p0), (1, .int p1), (2, .int p2), (3, .int p3), (4, .int p4), (5, .int p5), (6, .int s.1)]) rfl H
            · have H := ok_f H c14
              refine r_iload hZ dX12_cuts_124 rfl ?_
              refine r_if_ge (tgt := 133) hZ dX12_cuts_126 (by decide) (fun c13 => ?_) (fun c13 => ?_)
              · have H := ok_t H c13
                refine r_iload hZ dX12_cuts_133 rfl ?_
                refine r_goto (tgt := 145) hZ dX12_cuts_135 (by decide) ?_
                have H := ok_some H
                exact r_pick [0, 1, 2, 3, 4, 5, 6] (ls' := [(0, .ref p0), (1, .int p1), (2, .int p2), (3, .int p3), (4, .int p4), (5, .int p5), (6, .int s.1)]) rfl H
              · have H := ok_f H c13
                refine r_iconst (v := (J 0)) hZ dX12_cuts_129 (by decide) ?_
                refine r_goto (tgt := 145) hZ dX12_cuts_130 (by decide) ?_
                have H := ok_some H
                exact r_pick [0, 1, 2, 3, 4, 5, 6] (ls' := [(0, .ref p0), (1, .int p1), (2, .int p2), (3, .int p3), (4, .int p4), (5, .int p5), (6, .int s.1)]) rfl H
        · have H := ok_t H c16
          refine r_goto (tgt := 146) hZ dX12_cuts_72 (by decide) ?_
          have H := ok_some H
          exact r_pick [0, 1, 2, 3, 4, 5, 6] (ls' := [(0, .ref p0), (1, .int p1), (2, .int p2), (3, .int p3), (4, .int p4), (5, .int p5), (6, .int s.1)]) rfl H
def b_X12_cuts_28 (p0 : Nat) (p1 : Int32) (p2 : Int32) (p3 : Int32) (s : Int32 × Hp) : Option ((Int32 × Hp) ⊕ ((Hp))) :=
  (if p3 ≤ s.1 then
    some (.inr (s.2))
  else
    (nz p3).bind fun u1 =>
    (some ((((J 16) * s.1) / p3) - (J 8))).bind fun x2 =>
    (some (J 0)).bind fun x3 =>
    (iter (b_X12_cuts_49 p0 p1 p2 p3 s.1 x2) FU (x3, s.2)).bind fun e4 =>
    (some (s.1 + (J 1))).bind fun x5 =>
    some (.inl (x5, e4)))
set_option maxRecDepth 100000 in
set_option maxHeartbeats 4000000 in
theorem l_X12_cuts_28 {Z : Zc} (hZ : Fx cX12_cuts RX12 8 3 0 Z) {n : Nat} {p0 : Nat} {p1 : Int32} {p2 : Int32} {p3 : Int32} {P : ((Hp)) → Prop} (hx0 : ∀ e : Hp, P (e) → R Z 158 [] [] n e 0) : ∀ (m : Nat) (s : Int32 × Hp), Ok (iter (b_X12_cuts_28 p0 p1 p2 p3) m s) P → R Z 28 [(0, .ref p0), (1, .int p1), (2, .int p2), (3, .int p3), (4, .int s.1)] [] n s.2 0 := by
  intro m
  induction m with
  | zero => exact fun s H => ok_iter0 H
  | succ m ih =>
    intro s H
    have H := ok_iter H
    unfold b_X12_cuts_28 at H
    refine r_iload hZ dX12_cuts_28 rfl ?_
    refine r_iload_n hZ dX12_cuts_30 rfl ?_
    refine r_icmp_ge (tgt := 158) hZ dX12_cuts_31 (by decide) (fun c6 => ?_) (fun c6 => ?_)
    · have H := ok_t H c6
      exact r_pick [] (ls' := []) rfl (hx0 _ (ki_r H))
    · have H := ok_f H c6
      refine r_bipush (v := (J 16)) hZ dX12_cuts_34 (by decide) ?_
      refine r_iload hZ dX12_cuts_36 rfl ?_
      refine r_imul hZ dX12_cuts_38 ?_
      refine r_iload_n hZ dX12_cuts_39 rfl ?_
      obtain ⟨u1, eu1, H⟩ := ok_bind H
      refine r_idiv hZ dX12_cuts_40 (nz_ne eu1) ?_
      refine r_bipush (v := (J 8)) hZ dX12_cuts_41 (by decide) ?_
      refine r_isub hZ dX12_cuts_43 ?_
      obtain ⟨x2, ex2, H⟩ := ok_bind H
      refine r_topi ex2 ?_
      refine r_istore hZ dX12_cuts_44 (by decide) (r_pick [0, 1, 2, 3, 4, 5] (ls' := [(0, .ref p0), (1, .int p1), (2, .int p2), (3, .int p3), (4, .int s.1), (5, .int x2)]) rfl ?_)
      refine r_iconst (v := (J 0)) hZ dX12_cuts_46 (by decide) ?_
      obtain ⟨x3, ex3, H⟩ := ok_bind H
      refine r_topi ex3 ?_
      refine r_istore hZ dX12_cuts_47 (by decide) (r_pick [0, 1, 2, 3, 4, 5, 6] (ls' := [(0, .ref p0), (1, .int p1), (2, .int p2), (3, .int p3), (4, .int s.1), (5, .int x2), (6, .int x3)]) rfl ?_)
      have H := ok_bindK H
      refine r_pick [0, 1, 2, 3, 4, 5, 6] (ls' := [(0, .ref p0), (1, .int p1), (2, .int p2), (3, .int p3), (4, .int s.1), (5, .int x2), (6, .int x3)]) rfl (l_X12_cuts_49 hZ (fun e4 H => ?_) FU _ H)
      · obtain ⟨x5, ex5, H⟩ := ok_bind H
        refine r_iincE (w := (J 1)) hZ dX12_cuts_152 (by decide) rfl (by decide) ex5 (r_pick [0, 1, 2, 3, 4] (ls' := [(0, .ref p0), (1, .int p1), (2, .int p2), (3, .int p3), (4, .int x5)]) rfl ?_)
        refine r_goto (tgt := 28) hZ dX12_cuts_155 (by decide) ?_
        exact r_pick [0, 1, 2, 3, 4] (ls' := [(0, .ref p0), (1, .int p1), (2, .int p2), (3, .int p3), (4, .int x5)]) rfl (ih _ (ki_l H))
def f_X12_cuts  (h : Hp) (a0 : Nat) (a1 : Int32) (a2 : Int32) (a3 : Int32) : Option (Hp) :=
  (some (J 0)).bind fun x1 =>
  (iter (b_X12_cuts_3 a0 a1 a2 a3) FU (x1, h)).bind fun e2 =>
  (some (J 0)).bind fun x3 =>
  (iter (b_X12_cuts_28 a0 a1 a2 a3) FU (x3, e2)).bind fun e4 =>
  some e4
set_option maxRecDepth 100000 in
set_option maxHeartbeats 4000000 in
theorem s_X12_cuts {n : Nat} {h : Hp} {a0 : Nat} {a1 : Int32} {a2 : Int32} {a3 : Int32}  {r : Hp} (hf : f_X12_cuts  h a0 a1 a2 a3 = some r) : Ev 3 yX12_cuts cX12_cuts 8 none [.ref a0, .int a1, .int a2, .int a3] n h none n r := by
  refine Ev_of RX12 rfl (by decide) (Nat.le_of_ble_eq_true rfl) (Nat.le_refl _) (Or.inl rfl) (fun Z hZ hF hN hI => ?_)
  have H : Ok (f_X12_cuts  h a0 a1 a2 a3) (fun y => y = r) := ⟨_, hf, rfl⟩
  unfold f_X12_cuts at H
  refine r_ls (ls' := [(0, .ref a0), (1, .int a1), (2, .int a2), (3, .int a3)]) rfl ?_
  refine r_iconst (v := (J 0)) hZ dX12_cuts_0 (by decide) ?_
  obtain ⟨x1, ex1, H⟩ := ok_bind H
  refine r_topi ex1 ?_
  refine r_istore hZ dX12_cuts_1 (by decide) (r_pick [0, 1, 2, 3, 4] (ls' := [(0, .ref a0), (1, .int a1), (2, .int a2), (3, .int a3), (4, .int x1)]) rfl ?_)
  have H := ok_bindK H
  refine r_pick [0, 1, 2, 3, 4] (ls' := [(0, .ref a0), (1, .int a1), (2, .int a2), (3, .int a3), (4, .int x1)]) rfl (l_X12_cuts_3 hZ (fun e2 H => ?_) FU _ H)
  · refine r_iconst (v := (J 0)) hZ dX12_cuts_25 (by decide) ?_
    obtain ⟨x3, ex3, H⟩ := ok_bind H
    refine r_topi ex3 ?_
    refine r_istore hZ dX12_cuts_26 (by decide) (r_pick [0, 1, 2, 3, 4] (ls' := [(0, .ref a0), (1, .int a1), (2, .int a2), (3, .int a3), (4, .int x3)]) rfl ?_)
    have H := ok_bindK H
    refine r_pick [0, 1, 2, 3, 4] (ls' := [(0, .ref a0), (1, .int a1), (2, .int a2), (3, .int a3), (4, .int x3)]) rfl (l_X12_cuts_28 hZ (fun e4 H => ?_) FU _ H)
    · have H := ok_some H
      subst H
      exact r_ret hZ hF dX12_cuts_158
def b_X12_puts_2 (p0 : Nat) (p1 : Int32) (s : Int32 × Hp) : Option ((Int32 × Hp) ⊕ ((Hp))) :=
  (if (J 16) ≤ s.1 then
    some (.inr (s.2))
  else
    (gR s.2 p0 11 1).bind fun x1 =>
    (gR s.2 p0 11 24).bind fun x2 =>
    (aI s.2 x2 s.1).bind fun x3 =>
    (sI s.2 x1 ((((J 19) * p1) + (J 3)) + s.1) x3).bind fun h4 =>
    (some (s.1 + (J 1))).bind fun x5 =>
    some (.inl (x5, h4)))
set_option maxRecDepth 100000 in
set_option maxHeartbeats 4000000 in
theorem l_X12_puts_2 {Z : Zc} (hZ : Fx cX12_puts RX12 3 2 0 Z) {n : Nat} {p0 : Nat} {p1 : Int32} {P : ((Hp)) → Prop} (hx0 : ∀ e : Hp, P (e) → R Z 33 [] [] n e 0) : ∀ (m : Nat) (s : Int32 × Hp), Ok (iter (b_X12_puts_2 p0 p1) m s) P → R Z 2 [(0, .ref p0), (1, .int p1), (2, .int s.1)] [] n s.2 0 := by
  intro m
  induction m with
  | zero => exact fun s H => ok_iter0 H
  | succ m ih =>
    intro s H
    have H := ok_iter H
    unfold b_X12_puts_2 at H
    refine r_iload_n hZ dX12_puts_2 rfl ?_
    refine r_bipush (v := (J 16)) hZ dX12_puts_3 (by decide) ?_
    refine r_icmp_ge (tgt := 33) hZ dX12_puts_5 (by decide) (fun c6 => ?_) (fun c6 => ?_)
    · have H := ok_t H c6
      exact r_pick [] (ls' := []) rfl (hx0 _ (ki_r H))
    · have H := ok_f H c6
      refine r_aload_n hZ dX12_puts_8 rfl ?_
      obtain ⟨x1, ex1, H⟩ := ok_bind H
      refine r_getR hZ fl_X12_13_11 dX12_puts_9 ex1 ?_
      refine r_bipush (v := (J 19)) hZ dX12_puts_12 (by decide) ?_
      refine r_iload_n hZ dX12_puts_14 rfl ?_
      refine r_imul hZ dX12_puts_15 ?_
      refine r_iconst (v := (J 3)) hZ dX12_puts_16 (by decide) ?_
      refine r_iadd hZ dX12_puts_17 ?_
      refine r_iload_n hZ dX12_puts_18 rfl ?_
      refine r_iadd hZ dX12_puts_19 ?_
      refine r_aload_n hZ dX12_puts_20 rfl ?_
      obtain ⟨x2, ex2, H⟩ := ok_bind H
      refine r_getR hZ fl_X12_60_11 dX12_puts_21 ex2 ?_
      refine r_iload_n hZ dX12_puts_24 rfl ?_
      obtain ⟨x3, ex3, H⟩ := ok_bind H
      refine r_aI hZ dX12_puts_25 ex3 ?_
      obtain ⟨h4, eh4, H⟩ := ok_bind H
      refine r_sI hZ dX12_puts_26 eh4 ?_
      obtain ⟨x5, ex5, H⟩ := ok_bind H
      refine r_iincE (w := (J 1)) hZ dX12_puts_27 (by decide) rfl (by decide) ex5 (r_pick [0, 1, 2] (ls' := [(0, .ref p0), (1, .int p1), (2, .int x5)]) rfl ?_)
      refine r_goto (tgt := 2) hZ dX12_puts_30 (by decide) ?_
      exact r_pick [0, 1, 2] (ls' := [(0, .ref p0), (1, .int p1), (2, .int x5)]) rfl (ih _ (ki_l H))
def f_X12_puts  (h : Hp) (a0 : Nat) (a1 : Int32) : Option (Hp) :=
  (some (J 0)).bind fun x1 =>
  (iter (b_X12_puts_2 a0 a1) FU (x1, h)).bind fun e2 =>
  some e2
set_option maxRecDepth 100000 in
set_option maxHeartbeats 4000000 in
theorem s_X12_puts {n : Nat} {h : Hp} {a0 : Nat} {a1 : Int32}  {r : Hp} (hf : f_X12_puts  h a0 a1 = some r) : Ev 2 yX12_puts cX12_puts 3 none [.ref a0, .int a1] n h none n r := by
  refine Ev_of RX12 rfl (by decide) (Nat.le_of_ble_eq_true rfl) (Nat.le_refl _) (Or.inl rfl) (fun Z hZ hF hN hI => ?_)
  have H : Ok (f_X12_puts  h a0 a1) (fun y => y = r) := ⟨_, hf, rfl⟩
  unfold f_X12_puts at H
  refine r_ls (ls' := [(0, .ref a0), (1, .int a1)]) rfl ?_
  refine r_iconst (v := (J 0)) hZ dX12_puts_0 (by decide) ?_
  obtain ⟨x1, ex1, H⟩ := ok_bind H
  refine r_topi ex1 ?_
  refine r_istore_n hZ dX12_puts_1 (by decide) (r_pick [0, 1, 2] (ls' := [(0, .ref a0), (1, .int a1), (2, .int x1)]) rfl ?_)
  have H := ok_bindK H
  refine r_pick [0, 1, 2] (ls' := [(0, .ref a0), (1, .int a1), (2, .int x1)]) rfl (l_X12_puts_2 hZ (fun e2 H => ?_) FU _ H)
  · have H := ok_some H
    subst H
    exact r_ret hZ hF dX12_puts_33
def f_X12_cut  (h : Hp) (a0 : Nat) (a1 : Int32) (a2 : Int32) (a3 : Int32) : Option (Int32 × Hp) :=
  (nz (J 100)).bind fun u1 =>
  (some (a3 / (J 100))).bind fun x2 =>
  (nz (J 100)).bind fun u3 =>
  (some ((a3 - a3 / (J 100) * (J 100)) - (J 8))).bind fun x4 =>
  (isO h a0 11).bind fun u5 =>
  (f_X12_isGear h a0 a1).bind fun r6 =>
  (if r6 = 0 then
    some ((J (-1)), h)
  else
    (f_X12_isShelf a2).bind fun r7 =>
    (if r7 = 0 then
      some ((J (-1)), h)
    else
      (if a3 < 0 then
        some ((J (-1)), h)
      else
        (f_X12_isIn (x2.toInt64) (K 1) (K 32)).bind fun r8 =>
        (if r8 = 0 then
          some ((J (-1)), h)
        else
          (if x4 ≤ (J 8) then
            (isO h a0 11).bind fun u9 =>
            (f_X12_wrongCutter h a0 a2).bind fun r10 =>
            (if r10 = 0 then
              (isO h a0 11).bind fun u11 =>
              (f_X12_cuts h a0 a2 x4 x2).bind fun r12 =>
              (isO r12 a0 11).bind fun u13 =>
              (f_X12_puts r12 a0 a1).bind fun r14 =>
              (isO r14 a0 11).bind fun u15 =>
              (f_X12_thin r14 a0 a1).bind fun r16 =>
              some (r16, r14)
            else
              some (r10, h))
          else
            some ((J (-1)), h))))))
set_option maxRecDepth 100000 in
set_option maxHeartbeats 4000000 in
theorem s_X12_cut {n : Nat} {h : Hp} {a0 : Nat} {a1 : Int32} {a2 : Int32} {a3 : Int32}  {r : Int32 × Hp} (hf : f_X12_cut  h a0 a1 a2 a3 = some r) : Ev 6 yX12_cut cX12_cut 7 (some .int) [.ref a0, .int a1, .int a2, .int a3] n h (some (.int r.1)) n r.2 := by
  refine Ev_of RX12 rfl (by decide) (Nat.le_of_ble_eq_true rfl) (Nat.le_refl _) (Or.inl rfl) (fun Z hZ hF hN hI => ?_)
  have H : Ok (f_X12_cut  h a0 a1 a2 a3) (fun y => y = r) := ⟨_, hf, rfl⟩
  unfold f_X12_cut at H
  refine r_ls (ls' := [(0, .ref a0), (1, .int a1), (2, .int a2), (3, .int a3)]) rfl ?_
  refine r_iload_n hZ dX12_cut_0 rfl ?_
  refine r_bipush (v := (J 100)) hZ dX12_cut_1 (by decide) ?_
  obtain ⟨u1, eu1, H⟩ := ok_bind H
  refine r_idiv hZ dX12_cut_3 (nz_ne eu1) ?_
  obtain ⟨x2, ex2, H⟩ := ok_bind H
  refine r_topi ex2 ?_
  refine r_istore hZ dX12_cut_4 (by decide) (r_pick [0, 1, 2, 3, 4] (ls' := [(0, .ref a0), (1, .int a1), (2, .int a2), (3, .int a3), (4, .int x2)]) rfl ?_)
  refine r_iload_n hZ dX12_cut_6 rfl ?_
  refine r_bipush (v := (J 100)) hZ dX12_cut_7 (by decide) ?_
  obtain ⟨u3, eu3, H⟩ := ok_bind H
  refine r_irem hZ dX12_cut_9 (nz_ne eu3) ?_
  refine r_bipush (v := (J 8)) hZ dX12_cut_10 (by decide) ?_
  refine r_isub hZ dX12_cut_12 ?_
  obtain ⟨x4, ex4, H⟩ := ok_bind H
  refine r_topi ex4 ?_
  refine r_istore hZ dX12_cut_13 (by decide) (r_pick [0, 1, 2, 3, 4, 5] (ls' := [(0, .ref a0), (1, .int a1), (2, .int a2), (3, .int a3), (4, .int x2), (5, .int x4)]) rfl ?_)
  refine r_aload_n hZ dX12_cut_15 rfl ?_
  refine r_iload_n hZ dX12_cut_16 rfl ?_
  obtain ⟨u5, eu5, H⟩ := ok_bind H
  obtain ⟨r6, er6, H⟩ := ok_bind H
  refine r_callV (As := [.int a1]) (rest := []) (st1 := [.int r6]) (N2 := 0) hZ dX12_cut_17 cw_X12_121_X12 rfl eu5 (s_X12_isGear er6) rfl rfl (by decide) (Nat.le_of_ble_eq_true rfl) (Nat.le_refl 0) (Nat.le_refl _) (Or.inl rfl) rfl ?_
  refine r_if_eq (tgt := 54) hZ dX12_cut_20 (by decide) (fun c22 => ?_) (fun c22 => ?_)
  · have H := ok_t H c22
    refine r_iconst (v := (J (-1))) hZ dX12_cut_54 (by decide) ?_
    have H := ok_some H
    subst H
    exact r_iret hZ hF dX12_cut_55
  · have H := ok_f H c22
    refine r_iload_n hZ dX12_cut_23 rfl ?_
    obtain ⟨r7, er7, H⟩ := ok_bind H
    refine r_callS (As := [.int a2]) (rest := []) (st1 := [.int r7]) (N2 := 0) hZ dX12_cut_24 cw_X12_127 (s_X12_isShelf er7) rfl rfl (by decide) (Nat.le_of_ble_eq_true rfl) (Nat.le_refl 0) (Nat.le_refl _) (Or.inl rfl) rfl ?_
    refine r_if_eq (tgt := 54) hZ dX12_cut_27 (by decide) (fun c21 => ?_) (fun c21 => ?_)
    · have H := ok_t H c21
      refine r_iconst (v := (J (-1))) hZ dX12_cut_54 (by decide) ?_
      have H := ok_some H
      subst H
      exact r_iret hZ hF dX12_cut_55
    · have H := ok_f H c21
      refine r_iload_n hZ dX12_cut_30 rfl ?_
      refine r_if_lt (tgt := 54) hZ dX12_cut_31 (by decide) (fun c20 => ?_) (fun c20 => ?_)
      · have H := ok_t H c20
        refine r_iconst (v := (J (-1))) hZ dX12_cut_54 (by decide) ?_
        have H := ok_some H
        subst H
        exact r_iret hZ hF dX12_cut_55
      · have H := ok_f H c20
        refine r_iload hZ dX12_cut_34 rfl ?_
        refine r_i2l hZ dX12_cut_36 ?_
        refine r_lconst (v := (K 1)) hZ dX12_cut_37 (by decide) ?_
        refine r_ldc2 (v := (K 32)) hZ wc_X12_212 dX12_cut_38 ?_
        obtain ⟨r8, er8, H⟩ := ok_bind H
        refine r_callS (As := [.long (x2.toInt64), .long (K 1), .long (K 32)]) (rest := []) (st1 := [.int r8]) (N2 := 0) hZ dX12_cut_41 cw_X12_73 (s_X12_isIn er8) rfl rfl (by decide) (Nat.le_of_ble_eq_true rfl) (Nat.le_refl 0) (Nat.le_refl _) (Or.inl rfl) rfl ?_
        refine r_if_eq (tgt := 54) hZ dX12_cut_44 (by decide) (fun c19 => ?_) (fun c19 => ?_)
        · have H := ok_t H c19
          refine r_iconst (v := (J (-1))) hZ dX12_cut_54 (by decide) ?_
          have H := ok_some H
          subst H
          exact r_iret hZ hF dX12_cut_55
        · have H := ok_f H c19
          refine r_iload hZ dX12_cut_47 rfl ?_
          refine r_bipush (v := (J 8)) hZ dX12_cut_49 (by decide) ?_
          refine r_icmp_le (tgt := 56) hZ dX12_cut_51 (by decide) (fun c18 => ?_) (fun c18 => ?_)
          · have H := ok_t H c18
            refine r_aload_n hZ dX12_cut_56 rfl ?_
            refine r_iload_n hZ dX12_cut_57 rfl ?_
            obtain ⟨u9, eu9, H⟩ := ok_bind H
            obtain ⟨r10, er10, H⟩ := ok_bind H
            refine r_callV (As := [.int a2]) (rest := []) (st1 := [.int r10]) (N2 := 0) hZ dX12_cut_58 cw_X12_214_X12 rfl eu9 (s_X12_wrongCutter er10) rfl rfl (by decide) (Nat.le_of_ble_eq_true rfl) (Nat.le_refl 0) (Nat.le_refl _) (Or.inl rfl) rfl ?_
            refine r_istore hZ dX12_cut_61 (by decide) (r_pick [0, 1, 2, 4, 5, 6] (ls' := [(0, .ref a0), (1, .int a1), (2, .int a2), (4, .int x2), (5, .int x4), (6, .int r10)]) rfl ?_)
            refine r_iload hZ dX12_cut_63 rfl ?_
            refine r_if_eq (tgt := 71) hZ dX12_cut_65 (by decide) (fun c17 => ?_) (fun c17 => ?_)
            · have H := ok_t H c17
              refine r_aload_n hZ dX12_cut_71 rfl ?_
              refine r_iload_n hZ dX12_cut_72 rfl ?_
              refine r_iload hZ dX12_cut_73 rfl ?_
              refine r_iload hZ dX12_cut_75 rfl ?_
              obtain ⟨u11, eu11, H⟩ := ok_bind H
              obtain ⟨r12, er12, H⟩ := ok_bind H
              refine r_callV (As := [.int a2, .int x4, .int x2]) (rest := []) (st1 := []) (N2 := 0) hZ dX12_cut_77 cw_X12_217_X12 rfl eu11 (s_X12_cuts er12) rfl rfl (by decide) (Nat.le_of_ble_eq_true rfl) (Nat.le_refl 0) (Nat.le_refl _) (Or.inl rfl) rfl ?_
              refine r_aload_n hZ dX12_cut_80 rfl ?_
              refine r_iload_n hZ dX12_cut_81 rfl ?_
              obtain ⟨u13, eu13, H⟩ := ok_bind H
              obtain ⟨r14, er14, H⟩ := ok_bind H
              refine r_callV (As := [.int a1]) (rest := []) (st1 := []) (N2 := 0) hZ dX12_cut_82 cw_X12_220_X12 rfl eu13 (s_X12_puts er14) rfl rfl (by decide) (Nat.le_of_ble_eq_true rfl) (Nat.le_refl 0) (Nat.le_refl _) (Or.inl rfl) rfl ?_
              refine r_aload_n hZ dX12_cut_85 rfl ?_
              refine r_iload_n hZ dX12_cut_86 rfl ?_
              obtain ⟨u15, eu15, H⟩ := ok_bind H
              obtain ⟨r16, er16, H⟩ := ok_bind H
              refine r_callV (As := [.int a1]) (rest := []) (st1 := [.int r16]) (N2 := 0) hZ dX12_cut_87 cw_X12_155_X12 rfl eu15 (s_X12_thin er16) rfl rfl (by decide) (Nat.le_of_ble_eq_true rfl) (Nat.le_refl 0) (Nat.le_refl _) (Or.inl rfl) rfl ?_
              have H := ok_some H
              subst H
              exact r_iret hZ hF dX12_cut_90
            · have H := ok_f H c17
              refine r_iload hZ dX12_cut_68 rfl ?_
              have H := ok_some H
              subst H
              exact r_iret hZ hF dX12_cut_70
          · have H := ok_f H c18
            refine r_iconst (v := (J (-1))) hZ dX12_cut_54 (by decide) ?_
            have H := ok_some H
            subst H
            exact r_iret hZ hF dX12_cut_55
def f_X12_together  (h : Hp) (a0 : Nat) (a1 : Int32) (a2 : Int32) (a3 : Int32) : Option (Int32) :=
  (isO h a0 11).bind fun u1 =>
  (f_X12_meshOf h a0 a1 (J 0)).bind fun r2 =>
  (isO h a0 11).bind fun u3 =>
  (f_X12_widthOf h a0 r2 a3).bind fun r4 =>
  (isO h a0 11).bind fun u5 =>
  (f_X12_meshOf h a0 a1 (J 1)).bind fun r6 =>
  (nz (J 16)).bind fun u7 =>
  (isO h a0 11).bind fun u8 =>
  (f_X12_widthOf h a0 r6 ((((J 15) - a3) + a2) - (((J 15) - a3) + a2) / (J 16) * (J 16))).bind fun r9 =>
  some (r4 + r9)
set_option maxRecDepth 100000 in
set_option maxHeartbeats 4000000 in
theorem s_X12_together {n : Nat} {h : Hp} {a0 : Nat} {a1 : Int32} {a2 : Int32} {a3 : Int32}  {r : Int32} (hf : f_X12_together  h a0 a1 a2 a3 = some r) : Ev 3 yX12_together cX12_together 4 (some .int) [.ref a0, .int a1, .int a2, .int a3] n h (some (.int r)) n h := by
  refine Ev_of RX12 rfl (by decide) (Nat.le_of_ble_eq_true rfl) (Nat.le_refl _) (Or.inl rfl) (fun Z hZ hF hN hI => ?_)
  have H : Ok (f_X12_together  h a0 a1 a2 a3) (fun y => y = r) := ⟨_, hf, rfl⟩
  unfold f_X12_together at H
  refine r_ls (ls' := [(0, .ref a0), (1, .int a1), (2, .int a2), (3, .int a3)]) rfl ?_
  refine r_aload_n hZ dX12_together_0 rfl ?_
  refine r_aload_n hZ dX12_together_1 rfl ?_
  refine r_iload_n hZ dX12_together_2 rfl ?_
  refine r_iconst (v := (J 0)) hZ dX12_together_3 (by decide) ?_
  obtain ⟨u1, eu1, H⟩ := ok_bind H
  obtain ⟨r2, er2, H⟩ := ok_bind H
  refine r_callV (As := [.int a1, .int (J 0)]) (rest := [.ref a0]) (st1 := [.int r2, .ref a0]) (N2 := 0) hZ dX12_together_4 cw_X12_118_X12 rfl eu1 (s_X12_meshOf er2) rfl rfl (by decide) (Nat.le_of_ble_eq_true rfl) (Nat.le_refl 0) (Nat.le_refl _) (Or.inl rfl) rfl ?_
  refine r_iload_n hZ dX12_together_7 rfl ?_
  obtain ⟨u3, eu3, H⟩ := ok_bind H
  obtain ⟨r4, er4, H⟩ := ok_bind H
  refine r_callV (As := [.int r2, .int a3]) (rest := []) (st1 := [.int r4]) (N2 := 0) hZ dX12_together_8 cw_X12_86_X12 rfl eu3 (s_X12_widthOf er4) rfl rfl (by decide) (Nat.le_of_ble_eq_true rfl) (Nat.le_refl 0) (Nat.le_refl _) (Or.inl rfl) rfl ?_
  refine r_aload_n hZ dX12_together_11 rfl ?_
  refine r_aload_n hZ dX12_together_12 rfl ?_
  refine r_iload_n hZ dX12_together_13 rfl ?_
  refine r_iconst (v := (J 1)) hZ dX12_together_14 (by decide) ?_
  obtain ⟨u5, eu5, H⟩ := ok_bind H
  obtain ⟨r6, er6, H⟩ := ok_bind H
  refine r_callV (As := [.int a1, .int (J 1)]) (rest := [.ref a0, .int r4]) (st1 := [.int r6, .ref a0, .int r4]) (N2 := 0) hZ dX12_together_15 cw_X12_118_X12 rfl eu5 (s_X12_meshOf er6) rfl rfl (by decide) (Nat.le_of_ble_eq_true rfl) (Nat.le_refl 0) (Nat.le_refl _) (Or.inl rfl) rfl ?_
  refine r_bipush (v := (J 15)) hZ dX12_together_18 (by decide) ?_
  refine r_iload_n hZ dX12_together_20 rfl ?_
  refine r_isub hZ dX12_together_21 ?_
  refine r_iload_n hZ dX12_together_22 rfl ?_
  refine r_iadd hZ dX12_together_23 ?_
  refine r_bipush (v := (J 16)) hZ dX12_together_24 (by decide) ?_
  obtain ⟨u7, eu7, H⟩ := ok_bind H
  refine r_irem hZ dX12_together_26 (nz_ne eu7) ?_
  obtain ⟨u8, eu8, H⟩ := ok_bind H
  obtain ⟨r9, er9, H⟩ := ok_bind H
  refine r_callV (As := [.int r6, .int ((((J 15) - a3) + a2) - (((J 15) - a3) + a2) / (J 16) * (J 16))]) (rest := [.int r4]) (st1 := [.int r9, .int r4]) (N2 := 0) hZ dX12_together_27 cw_X12_86_X12 rfl eu8 (s_X12_widthOf er9) rfl rfl (by decide) (Nat.le_of_ble_eq_true rfl) (Nat.le_refl 0) (Nat.le_refl _) (Or.inl rfl) rfl ?_
  refine r_iadd hZ dX12_together_30 ?_
  have H := ok_some H
  subst H
  exact r_iret hZ hF dX12_together_31
def b_X12_touchOf_5 (h : Hp) (p0 : Nat) (p1 : Int32) (p2 : Int32) (s : Int32 × Int32) : Option ((Int32 × Int32) ⊕ ((Int32))) :=
  (if (J 16) ≤ s.2 then
    some (.inr (s.1))
  else
    (isO h p0 11).bind fun u1 =>
    (f_X12_together h p0 p1 p2 s.2).bind fun r2 =>
    (isO h p0 11).bind fun u3 =>
    (f_X12_together h p0 p1 p2 s.1).bind fun r4 =>
    ((if r2 ≤ r4 then
      some s.1
    else
      some s.2)).bind fun (j5 : Int32) =>
    (some (s.2 + (J 1))).bind fun x7 =>
    some (.inl (j5, x7)))
set_option maxRecDepth 100000 in
set_option maxHeartbeats 4000000 in
theorem l_X12_touchOf_5 {Z : Zc} (hZ : Fx cX12_touchOf RX12 5 4 0 Z) {n : Nat} {h : Hp} {p0 : Nat} {p1 : Int32} {p2 : Int32} {P : ((Int32)) → Prop} (hx0 : ∀ e : Int32, P (e) → R Z 39 [(3, .int e)] [] n h 0) : ∀ (m : Nat) (s : Int32 × Int32), Ok (iter (b_X12_touchOf_5 h p0 p1 p2) m s) P → R Z 5 [(0, .ref p0), (1, .int p1), (2, .int p2), (3, .int s.1), (4, .int s.2)] [] n h 0 := by
  intro m
  induction m with
  | zero => exact fun s H => ok_iter0 H
  | succ m ih =>
    intro s H
    have H := ok_iter H
    unfold b_X12_touchOf_5 at H
    refine r_iload hZ dX12_touchOf_5 rfl ?_
    refine r_bipush (v := (J 16)) hZ dX12_touchOf_7 (by decide) ?_
    refine r_icmp_ge (tgt := 39) hZ dX12_touchOf_9 (by decide) (fun c8 => ?_) (fun c8 => ?_)
    · have H := ok_t H c8
      exact r_pick [3] (ls' := [(3, .int s.1)]) rfl (hx0 _ (ki_r H))
    · have H := ok_f H c8
      refine r_aload_n hZ dX12_touchOf_12 rfl ?_
      refine r_iload_n hZ dX12_touchOf_13 rfl ?_
      refine r_iload_n hZ dX12_touchOf_14 rfl ?_
      refine r_iload hZ dX12_touchOf_15 rfl ?_
      obtain ⟨u1, eu1, H⟩ := ok_bind H
      obtain ⟨r2, er2, H⟩ := ok_bind H
      refine r_callV (As := [.int p1, .int p2, .int s.2]) (rest := []) (st1 := [.int r2]) (N2 := 0) hZ dX12_touchOf_17 cw_X12_223_X12 rfl eu1 (s_X12_together er2) rfl rfl (by decide) (Nat.le_of_ble_eq_true rfl) (Nat.le_refl 0) (Nat.le_refl _) (Or.inl rfl) rfl ?_
      refine r_aload_n hZ dX12_touchOf_20 rfl ?_
      refine r_iload_n hZ dX12_touchOf_21 rfl ?_
      refine r_iload_n hZ dX12_touchOf_22 rfl ?_
      refine r_iload_n hZ dX12_touchOf_23 rfl ?_
      obtain ⟨u3, eu3, H⟩ := ok_bind H
      obtain ⟨r4, er4, H⟩ := ok_bind H
      refine r_callV (As := [.int p1, .int p2, .int s.1]) (rest := [.int r2]) (st1 := [.int r4, .int r2]) (N2 := 0) hZ dX12_touchOf_24 cw_X12_223_X12 rfl eu3 (s_X12_together er4) rfl rfl (by decide) (Nat.le_of_ble_eq_true rfl) (Nat.le_refl 0) (Nat.le_refl _) (Or.inl rfl) rfl ?_
      refine ok_join (Q := fun j5 : Int32 => R Z 33 [(0, .ref p0), (1, .int p1), (2, .int p2), (3, .int j5), (4, .int s.2)] [] n h 0) H (fun j5 H => ?_) (fun H => ?_)
      · obtain ⟨x7, ex7, H⟩ := ok_bind H
        refine r_iincE (w := (J 1)) hZ dX12_touchOf_33 (by decide) rfl (by decide) ex7 (r_pick [0, 1, 2, 3, 4] (ls' := [(0, .ref p0), (1, .int p1), (2, .int p2), (3, .int j5), (4, .int x7)]) rfl ?_)
        refine r_goto (tgt := 5) hZ dX12_touchOf_36 (by decide) ?_
        exact r_pick [0, 1, 2, 3, 4] (ls' := [(0, .ref p0), (1, .int p1), (2, .int p2), (3, .int j5), (4, .int x7)]) rfl (ih _ (ki_l H))
      · refine r_icmp_le (tgt := 33) hZ dX12_touchOf_27 (by decide) (fun c6 => ?_) (fun c6 => ?_)
        · have H := ok_t H c6
          have H := ok_some H
          exact r_pick [0, 1, 2, 3, 4] (ls' := [(0, .ref p0), (1, .int p1), (2, .int p2), (3, .int s.1), (4, .int s.2)]) rfl H
        · have H := ok_f H c6
          refine r_iload hZ dX12_touchOf_30 rfl ?_
          refine r_istore_n hZ dX12_touchOf_32 (by decide) (r_pick [0, 1, 2, 3, 4] (ls' := [(0, .ref p0), (1, .int p1), (2, .int p2), (3, .int s.2), (4, .int s.2)]) rfl ?_)
          have H := ok_some H
          exact r_pick [0, 1, 2, 3, 4] (ls' := [(0, .ref p0), (1, .int p1), (2, .int p2), (3, .int s.2), (4, .int s.2)]) rfl H
def f_X12_touchOf  (h : Hp) (a0 : Nat) (a1 : Int32) (a2 : Int32) : Option (Int32) :=
  (some (J 0)).bind fun x1 =>
  (some (J 1)).bind fun x2 =>
  (iter (b_X12_touchOf_5 h a0 a1 a2) FU (x1, x2)).bind fun e3 =>
  some e3
set_option maxRecDepth 100000 in
set_option maxHeartbeats 4000000 in
theorem s_X12_touchOf {n : Nat} {h : Hp} {a0 : Nat} {a1 : Int32} {a2 : Int32}  {r : Int32} (hf : f_X12_touchOf  h a0 a1 a2 = some r) : Ev 4 yX12_touchOf cX12_touchOf 5 (some .int) [.ref a0, .int a1, .int a2] n h (some (.int r)) n h := by
  refine Ev_of RX12 rfl (by decide) (Nat.le_of_ble_eq_true rfl) (Nat.le_refl _) (Or.inl rfl) (fun Z hZ hF hN hI => ?_)
  have H : Ok (f_X12_touchOf  h a0 a1 a2) (fun y => y = r) := ⟨_, hf, rfl⟩
  unfold f_X12_touchOf at H
  refine r_ls (ls' := [(0, .ref a0), (1, .int a1), (2, .int a2)]) rfl ?_
  refine r_iconst (v := (J 0)) hZ dX12_touchOf_0 (by decide) ?_
  obtain ⟨x1, ex1, H⟩ := ok_bind H
  refine r_topi ex1 ?_
  refine r_istore_n hZ dX12_touchOf_1 (by decide) (r_pick [0, 1, 2, 3] (ls' := [(0, .ref a0), (1, .int a1), (2, .int a2), (3, .int x1)]) rfl ?_)
  refine r_iconst (v := (J 1)) hZ dX12_touchOf_2 (by decide) ?_
  obtain ⟨x2, ex2, H⟩ := ok_bind H
  refine r_topi ex2 ?_
  refine r_istore hZ dX12_touchOf_3 (by decide) (r_pick [0, 1, 2, 3, 4] (ls' := [(0, .ref a0), (1, .int a1), (2, .int a2), (3, .int x1), (4, .int x2)]) rfl ?_)
  have H := ok_bindK H
  refine r_pick [0, 1, 2, 3, 4] (ls' := [(0, .ref a0), (1, .int a1), (2, .int a2), (3, .int x1), (4, .int x2)]) rfl (l_X12_touchOf_5 hZ (fun e3 H => ?_) FU _ H)
  · refine r_iload_n hZ dX12_touchOf_39 rfl ?_
    have H := ok_some H
    subst H
    exact r_iret hZ hF dX12_touchOf_40
def f_X12_offOf  (h : Hp) (a0 : Nat) (a1 : Int32) (a2 : Int32) : Option (Int32) :=
  (isO h a0 11).bind fun u1 =>
  (f_X12_meshOf h a0 a1 (J 2)).bind fun r2 =>
  (isO h a0 11).bind fun u3 =>
  (f_X12_touchOf h a0 a1 a2).bind fun r4 =>
  (isO h a0 11).bind fun u5 =>
  (f_X12_together h a0 a1 a2 r4).bind fun r6 =>
  some (r2 - r6)
set_option maxRecDepth 100000 in
set_option maxHeartbeats 4000000 in
theorem s_X12_offOf {n : Nat} {h : Hp} {a0 : Nat} {a1 : Int32} {a2 : Int32}  {r : Int32} (hf : f_X12_offOf  h a0 a1 a2 = some r) : Ev 5 yX12_offOf cX12_offOf 3 (some .int) [.ref a0, .int a1, .int a2] n h (some (.int r)) n h := by
  refine Ev_of RX12 rfl (by decide) (Nat.le_of_ble_eq_true rfl) (Nat.le_refl _) (Or.inl rfl) (fun Z hZ hF hN hI => ?_)
  have H : Ok (f_X12_offOf  h a0 a1 a2) (fun y => y = r) := ⟨_, hf, rfl⟩
  unfold f_X12_offOf at H
  refine r_ls (ls' := [(0, .ref a0), (1, .int a1), (2, .int a2)]) rfl ?_
  refine r_aload_n hZ dX12_offOf_0 rfl ?_
  refine r_iload_n hZ dX12_offOf_1 rfl ?_
  refine r_iconst (v := (J 2)) hZ dX12_offOf_2 (by decide) ?_
  obtain ⟨u1, eu1, H⟩ := ok_bind H
  obtain ⟨r2, er2, H⟩ := ok_bind H
  refine r_callV (As := [.int a1, .int (J 2)]) (rest := []) (st1 := [.int r2]) (N2 := 0) hZ dX12_offOf_3 cw_X12_118_X12 rfl eu1 (s_X12_meshOf er2) rfl rfl (by decide) (Nat.le_of_ble_eq_true rfl) (Nat.le_refl 0) (Nat.le_refl _) (Or.inl rfl) rfl ?_
  refine r_aload_n hZ dX12_offOf_6 rfl ?_
  refine r_iload_n hZ dX12_offOf_7 rfl ?_
  refine r_iload_n hZ dX12_offOf_8 rfl ?_
  refine r_aload_n hZ dX12_offOf_9 rfl ?_
  refine r_iload_n hZ dX12_offOf_10 rfl ?_
  refine r_iload_n hZ dX12_offOf_11 rfl ?_
  obtain ⟨u3, eu3, H⟩ := ok_bind H
  obtain ⟨r4, er4, H⟩ := ok_bind H
  refine r_callV (As := [.int a1, .int a2]) (rest := [.int a2, .int a1, .ref a0, .int r2]) (st1 := [.int r4, .int a2, .int a1, .ref a0, .int r2]) (N2 := 0) hZ dX12_offOf_12 cw_X12_227_X12 rfl eu3 (s_X12_touchOf er4) rfl rfl (by decide) (Nat.le_of_ble_eq_true rfl) (Nat.le_refl 0) (Nat.le_refl _) (Or.inl rfl) rfl ?_
  obtain ⟨u5, eu5, H⟩ := ok_bind H
  obtain ⟨r6, er6, H⟩ := ok_bind H
  refine r_callV (As := [.int a1, .int a2, .int r4]) (rest := [.int r2]) (st1 := [.int r6, .int r2]) (N2 := 0) hZ dX12_offOf_15 cw_X12_223_X12 rfl eu5 (s_X12_together er6) rfl rfl (by decide) (Nat.le_of_ble_eq_true rfl) (Nat.le_refl 0) (Nat.le_refl _) (Or.inl rfl) rfl ?_
  refine r_isub hZ dX12_offOf_18 ?_
  have H := ok_some H
  subst H
  exact r_iret hZ hF dX12_offOf_19
def f_X12_isTurn  (a0 : Nat) (a1 : Int32) : Option (Int32) :=
  (f_X12_isIn (a1.toInt64) (K 0) (K 15)).bind fun r1 =>
  (bz r1).bind fun u2 =>
  some r1
set_option maxRecDepth 100000 in
set_option maxHeartbeats 4000000 in
theorem s_X12_isTurn {n : Nat} {h : Hp} {a0 : Nat} {a1 : Int32}  {r : Int32} (hf : f_X12_isTurn  a0 a1 = some r) : Ev 3 yX12_isTurn cX12_isTurn 2 (some .boolean) [.ref a0, .int a1] n h (some (.int r)) n h := by
  refine Ev_of RX12 rfl (by decide) (Nat.le_of_ble_eq_true rfl) (Nat.le_refl _) (Or.inl rfl) (fun Z hZ hF hN hI => ?_)
  have H : Ok (f_X12_isTurn  a0 a1) (fun y => y = r) := ⟨_, hf, rfl⟩
  unfold f_X12_isTurn at H
  refine r_ls (ls' := [(0, .ref a0), (1, .int a1)]) rfl ?_
  refine r_iload_n hZ dX12_isTurn_0 rfl ?_
  refine r_i2l hZ dX12_isTurn_1 ?_
  refine r_lconst (v := (K 0)) hZ dX12_isTurn_2 (by decide) ?_
  refine r_ldc2 (v := (K 15)) hZ wc_X12_161 dX12_isTurn_3 ?_
  obtain ⟨r1, er1, H⟩ := ok_bind H
  refine r_callS (As := [.long (a1.toInt64), .long (K 0), .long (K 15)]) (rest := []) (st1 := [.int r1]) (N2 := 0) hZ dX12_isTurn_6 cw_X12_73 (s_X12_isIn er1) rfl rfl (by decide) (Nat.le_of_ble_eq_true rfl) (Nat.le_refl 0) (Nat.le_refl _) (Or.inl rfl) rfl ?_
  obtain ⟨u2, eu2, H⟩ := ok_bind H
  have H := ok_some H
  subst H
  exact r_zret hZ hF eu2 dX12_isTurn_9
def f_X12_off  (h : Hp) (a0 : Nat) (a1 : Int32) (a2 : Int32) : Option (Int32) :=
  (isO h a0 11).bind fun u1 =>
  (f_X12_isMesh h a0 a1).bind fun r2 =>
  ((if r2 = 0 then
    some (J (-1000000001))
  else
    (isO h a0 11).bind fun u4 =>
    (f_X12_isTurn a0 a2).bind fun r5 =>
    (if r5 = 0 then
      some (J (-1000000001))
    else
      (isO h a0 11).bind fun u6 =>
      (f_X12_offOf h a0 a1 a2).bind fun r7 =>
      some r7))).bind fun (j3 : Int32) =>
  some j3
set_option maxRecDepth 100000 in
set_option maxHeartbeats 4000000 in
theorem s_X12_off {n : Nat} {h : Hp} {a0 : Nat} {a1 : Int32} {a2 : Int32}  {r : Int32} (hf : f_X12_off  h a0 a1 a2 = some r) : Ev 6 yX12_off cX12_off 3 (some .int) [.ref a0, .int a1, .int a2] n h (some (.int r)) n h := by
  refine Ev_of RX12 rfl (by decide) (Nat.le_of_ble_eq_true rfl) (Nat.le_refl _) (Or.inl rfl) (fun Z hZ hF hN hI => ?_)
  have H : Ok (f_X12_off  h a0 a1 a2) (fun y => y = r) := ⟨_, hf, rfl⟩
  unfold f_X12_off at H
  refine r_ls (ls' := [(0, .ref a0), (1, .int a1), (2, .int a2)]) rfl ?_
  refine r_aload_n hZ dX12_off_0 rfl ?_
  refine r_iload_n hZ dX12_off_1 rfl ?_
  obtain ⟨u1, eu1, H⟩ := ok_bind H
  obtain ⟨r2, er2, H⟩ := ok_bind H
  refine r_callV (As := [.int a1]) (rest := []) (st1 := [.int r2]) (N2 := 0) hZ dX12_off_2 cw_X12_163_X12 rfl eu1 (s_X12_isMesh er2) rfl rfl (by decide) (Nat.le_of_ble_eq_true rfl) (Nat.le_refl 0) (Nat.le_refl _) (Or.inl rfl) rfl ?_
  refine ok_join (Q := fun j3 : Int32 => R Z 27 [] [.int j3] n h 0) H (fun j3 H => ?_) (fun H => ?_)
  · have H := ok_some H
    subst H
    exact r_iret hZ hF dX12_off_27
  · refine r_if_eq (tgt := 25) hZ dX12_off_5 (by decide) (fun c9 => ?_) (fun c9 => ?_)
    · have H := ok_t H c9
      refine r_ldc (v := (J (-1000000001))) hZ wc_X12_236 dX12_off_25 ?_
      have H := ok_some H
      exact r_pick [] (ls' := []) rfl H
    · have H := ok_f H c9
      refine r_aload_n hZ dX12_off_8 rfl ?_
      refine r_iload_n hZ dX12_off_9 rfl ?_
      obtain ⟨u4, eu4, H⟩ := ok_bind H
      obtain ⟨r5, er5, H⟩ := ok_bind H
      refine r_callV (As := [.int a2]) (rest := []) (st1 := [.int r5]) (N2 := 0) hZ dX12_off_10 cw_X12_230_X12 rfl eu4 (s_X12_isTurn er5) rfl rfl (by decide) (Nat.le_of_ble_eq_true rfl) (Nat.le_refl 0) (Nat.le_refl _) (Or.inl rfl) rfl ?_
      refine r_if_eq (tgt := 25) hZ dX12_off_13 (by decide) (fun c8 => ?_) (fun c8 => ?_)
      · have H := ok_t H c8
        refine r_ldc (v := (J (-1000000001))) hZ wc_X12_236 dX12_off_25 ?_
        have H := ok_some H
        exact r_pick [] (ls' := []) rfl H
      · have H := ok_f H c8
        refine r_aload_n hZ dX12_off_16 rfl ?_
        refine r_iload_n hZ dX12_off_17 rfl ?_
        refine r_iload_n hZ dX12_off_18 rfl ?_
        obtain ⟨u6, eu6, H⟩ := ok_bind H
        obtain ⟨r7, er7, H⟩ := ok_bind H
        refine r_callV (As := [.int a1, .int a2]) (rest := []) (st1 := [.int r7]) (N2 := 0) hZ dX12_off_19 cw_X12_233_X12 rfl eu6 (s_X12_offOf er7) rfl rfl (by decide) (Nat.le_of_ble_eq_true rfl) (Nat.le_refl 0) (Nat.le_refl _) (Or.inl rfl) rfl ?_
        refine r_goto (tgt := 27) hZ dX12_off_22 (by decide) ?_
        have H := ok_some H
        exact r_pick [] (ls' := []) rfl H
def f_X12_touch  (h : Hp) (a0 : Nat) (a1 : Int32) (a2 : Int32) : Option (Int32) :=
  (isO h a0 11).bind fun u1 =>
  (f_X12_isMesh h a0 a1).bind fun r2 =>
  ((if r2 = 0 then
    some (J (-1))
  else
    (isO h a0 11).bind fun u4 =>
    (f_X12_isTurn a0 a2).bind fun r5 =>
    (if r5 = 0 then
      some (J (-1))
    else
      (isO h a0 11).bind fun u6 =>
      (f_X12_touchOf h a0 a1 a2).bind fun r7 =>
      some r7))).bind fun (j3 : Int32) =>
  some j3
set_option maxRecDepth 100000 in
set_option maxHeartbeats 4000000 in
theorem s_X12_touch {n : Nat} {h : Hp} {a0 : Nat} {a1 : Int32} {a2 : Int32}  {r : Int32} (hf : f_X12_touch  h a0 a1 a2 = some r) : Ev 5 yX12_touch cX12_touch 3 (some .int) [.ref a0, .int a1, .int a2] n h (some (.int r)) n h := by
  refine Ev_of RX12 rfl (by decide) (Nat.le_of_ble_eq_true rfl) (Nat.le_refl _) (Or.inl rfl) (fun Z hZ hF hN hI => ?_)
  have H : Ok (f_X12_touch  h a0 a1 a2) (fun y => y = r) := ⟨_, hf, rfl⟩
  unfold f_X12_touch at H
  refine r_ls (ls' := [(0, .ref a0), (1, .int a1), (2, .int a2)]) rfl ?_
  refine r_aload_n hZ dX12_touch_0 rfl ?_
  refine r_iload_n hZ dX12_touch_1 rfl ?_
  obtain ⟨u1, eu1, H⟩ := ok_bind H
  obtain ⟨r2, er2, H⟩ := ok_bind H
  refine r_callV (As := [.int a1]) (rest := []) (st1 := [.int r2]) (N2 := 0) hZ dX12_touch_2 cw_X12_163_X12 rfl eu1 (s_X12_isMesh er2) rfl rfl (by decide) (Nat.le_of_ble_eq_true rfl) (Nat.le_refl 0) (Nat.le_refl _) (Or.inl rfl) rfl ?_
  refine ok_join (Q := fun j3 : Int32 => R Z 26 [] [.int j3] n h 0) H (fun j3 H => ?_) (fun H => ?_)
  · have H := ok_some H
    subst H
    exact r_iret hZ hF dX12_touch_26
  · refine r_if_eq (tgt := 25) hZ dX12_touch_5 (by decide) (fun c9 => ?_) (fun c9 => ?_)
    · have H := ok_t H c9
      refine r_iconst (v := (J (-1))) hZ dX12_touch_25 (by decide) ?_
      have H := ok_some H
      exact r_pick [] (ls' := []) rfl H
    · have H := ok_f H c9
      refine r_aload_n hZ dX12_touch_8 rfl ?_
      refine r_iload_n hZ dX12_touch_9 rfl ?_
      obtain ⟨u4, eu4, H⟩ := ok_bind H
      obtain ⟨r5, er5, H⟩ := ok_bind H
      refine r_callV (As := [.int a2]) (rest := []) (st1 := [.int r5]) (N2 := 0) hZ dX12_touch_10 cw_X12_230_X12 rfl eu4 (s_X12_isTurn er5) rfl rfl (by decide) (Nat.le_of_ble_eq_true rfl) (Nat.le_refl 0) (Nat.le_refl _) (Or.inl rfl) rfl ?_
      refine r_if_eq (tgt := 25) hZ dX12_touch_13 (by decide) (fun c8 => ?_) (fun c8 => ?_)
      · have H := ok_t H c8
        refine r_iconst (v := (J (-1))) hZ dX12_touch_25 (by decide) ?_
        have H := ok_some H
        exact r_pick [] (ls' := []) rfl H
      · have H := ok_f H c8
        refine r_aload_n hZ dX12_touch_16 rfl ?_
        refine r_iload_n hZ dX12_touch_17 rfl ?_
        refine r_iload_n hZ dX12_touch_18 rfl ?_
        obtain ⟨u6, eu6, H⟩ := ok_bind H
        obtain ⟨r7, er7, H⟩ := ok_bind H
        refine r_callV (As := [.int a1, .int a2]) (rest := []) (st1 := [.int r7]) (N2 := 0) hZ dX12_touch_19 cw_X12_227_X12 rfl eu6 (s_X12_touchOf er7) rfl rfl (by decide) (Nat.le_of_ble_eq_true rfl) (Nat.le_refl 0) (Nat.le_refl _) (Or.inl rfl) rfl ?_
        refine r_goto (tgt := 26) hZ dX12_touch_22 (by decide) ?_
        have H := ok_some H
        exact r_pick [] (ls' := []) rfl H
def b_X12_jamOf_2 (h : Hp) (p0 : Nat) (p1 : Int32) (s : Int32) : Option ((Int32) ⊕ ((Unit) ⊕ (Int32))) :=
  (if (J 16) ≤ s then
    some (.inr (.inl ()))
  else
    (isO h p0 11).bind fun u1 =>
    (f_X12_offOf h p0 p1 s).bind fun r2 =>
    (if 0 ≤ r2 then
      (some (s + (J 1))).bind fun x3 =>
      some (.inl x3)
    else
      some (.inr (.inr s))))
set_option maxRecDepth 100000 in
set_option maxHeartbeats 4000000 in
theorem l_X12_jamOf_2 {Z : Zc} (hZ : Fx cX12_jamOf RX12 3 6 0 Z) {n : Nat} {h : Hp} {p0 : Nat} {p1 : Int32} {P : ((Unit) ⊕ (Int32)) → Prop} (hx0 : ∀ e : Unit, P (.inl e) → R Z 25 [] [] n h 0) (hx1 : ∀ e : Int32, P (.inr e) → R Z 17 [(2, .int e)] [] n h 0) : ∀ (m : Nat) (s : Int32), Ok (iter (b_X12_jamOf_2 h p0 p1) m s) P → R Z 2 [(0, .ref p0), (1, .int p1), (2, .int s)] [] n h 0 := by
  intro m
  induction m with
  | zero => exact fun s H => ok_iter0 H
  | succ m ih =>
    intro s H
    have H := ok_iter H
    unfold b_X12_jamOf_2 at H
    refine r_iload_n hZ dX12_jamOf_2 rfl ?_
    refine r_bipush (v := (J 16)) hZ dX12_jamOf_3 (by decide) ?_
    refine r_icmp_ge (tgt := 25) hZ dX12_jamOf_5 (by decide) (fun c5 => ?_) (fun c5 => ?_)
    · have H := ok_t H c5
      exact r_pick [] (ls' := []) rfl (hx0 _ (ki_r H))
    · have H := ok_f H c5
      refine r_aload_n hZ dX12_jamOf_8 rfl ?_
      refine r_iload_n hZ dX12_jamOf_9 rfl ?_
      refine r_iload_n hZ dX12_jamOf_10 rfl ?_
      obtain ⟨u1, eu1, H⟩ := ok_bind H
      obtain ⟨r2, er2, H⟩ := ok_bind H
      refine r_callV (As := [.int p1, .int s]) (rest := []) (st1 := [.int r2]) (N2 := 0) hZ dX12_jamOf_11 cw_X12_233_X12 rfl eu1 (s_X12_offOf er2) rfl rfl (by decide) (Nat.le_of_ble_eq_true rfl) (Nat.le_refl 0) (Nat.le_refl _) (Or.inl rfl) rfl ?_
      refine r_if_ge (tgt := 19) hZ dX12_jamOf_14 (by decide) (fun c4 => ?_) (fun c4 => ?_)
      · have H := ok_t H c4
        obtain ⟨x3, ex3, H⟩ := ok_bind H
        refine r_iincE (w := (J 1)) hZ dX12_jamOf_19 (by decide) rfl (by decide) ex3 (r_pick [0, 1, 2] (ls' := [(0, .ref p0), (1, .int p1), (2, .int x3)]) rfl ?_)
        refine r_goto (tgt := 2) hZ dX12_jamOf_22 (by decide) ?_
        exact r_pick [0, 1, 2] (ls' := [(0, .ref p0), (1, .int p1), (2, .int x3)]) rfl (ih _ (ki_l H))
      · have H := ok_f H c4
        exact r_pick [2] (ls' := [(2, .int s)]) rfl (hx1 _ (ki_r H))
def f_X12_jamOf  (h : Hp) (a0 : Nat) (a1 : Int32) : Option (Int32) :=
  (some (J 0)).bind fun x1 =>
  (iter (b_X12_jamOf_2 h a0 a1) FU x1).bind fun e2 =>
  (match e2 with
  | .inl e3 =>
    some (J (-4))
  | .inr e4 =>
    some e4)
set_option maxRecDepth 100000 in
set_option maxHeartbeats 4000000 in
theorem s_X12_jamOf {n : Nat} {h : Hp} {a0 : Nat} {a1 : Int32}  {r : Int32} (hf : f_X12_jamOf  h a0 a1 = some r) : Ev 6 yX12_jamOf cX12_jamOf 3 (some .int) [.ref a0, .int a1] n h (some (.int r)) n h := by
  refine Ev_of RX12 rfl (by decide) (Nat.le_of_ble_eq_true rfl) (Nat.le_refl _) (Or.inl rfl) (fun Z hZ hF hN hI => ?_)
  have H : Ok (f_X12_jamOf  h a0 a1) (fun y => y = r) := ⟨_, hf, rfl⟩
  unfold f_X12_jamOf at H
  refine r_ls (ls' := [(0, .ref a0), (1, .int a1)]) rfl ?_
  refine r_iconst (v := (J 0)) hZ dX12_jamOf_0 (by decide) ?_
  obtain ⟨x1, ex1, H⟩ := ok_bind H
  refine r_topi ex1 ?_
  refine r_istore_n hZ dX12_jamOf_1 (by decide) (r_pick [0, 1, 2] (ls' := [(0, .ref a0), (1, .int a1), (2, .int x1)]) rfl ?_)
  have H := ok_bindK H
  refine r_pick [0, 1, 2] (ls' := [(0, .ref a0), (1, .int a1), (2, .int x1)]) rfl (l_X12_jamOf_2 hZ (fun e3 H => ?_) (fun e4 H => ?_) FU _ H)
  · refine r_bipush (v := (J (-4))) hZ dX12_jamOf_25 (by decide) ?_
    have H := ok_some H
    subst H
    exact r_iret hZ hF dX12_jamOf_27
  · refine r_iload_n hZ dX12_jamOf_17 rfl ?_
    have H := ok_some H
    subst H
    exact r_iret hZ hF dX12_jamOf_18
def f_X12_jam  (h : Hp) (a0 : Nat) (a1 : Int32) : Option (Int32) :=
  (isO h a0 11).bind fun u1 =>
  (f_X12_isMesh h a0 a1).bind fun r2 =>
  ((if r2 = 0 then
    some (J (-1))
  else
    (isO h a0 11).bind fun u4 =>
    (f_X12_jamOf h a0 a1).bind fun r5 =>
    some r5)).bind fun (j3 : Int32) =>
  some j3
set_option maxRecDepth 100000 in
set_option maxHeartbeats 4000000 in
theorem s_X12_jam {n : Nat} {h : Hp} {a0 : Nat} {a1 : Int32}  {r : Int32} (hf : f_X12_jam  h a0 a1 = some r) : Ev 7 yX12_jam cX12_jam 2 (some .int) [.ref a0, .int a1] n h (some (.int r)) n h := by
  refine Ev_of RX12 rfl (by decide) (Nat.le_of_ble_eq_true rfl) (Nat.le_refl _) (Or.inl rfl) (fun Z hZ hF hN hI => ?_)
  have H : Ok (f_X12_jam  h a0 a1) (fun y => y = r) := ⟨_, hf, rfl⟩
  unfold f_X12_jam at H
  refine r_ls (ls' := [(0, .ref a0), (1, .int a1)]) rfl ?_
  refine r_aload_n hZ dX12_jam_0 rfl ?_
  refine r_iload_n hZ dX12_jam_1 rfl ?_
  obtain ⟨u1, eu1, H⟩ := ok_bind H
  obtain ⟨r2, er2, H⟩ := ok_bind H
  refine r_callV (As := [.int a1]) (rest := []) (st1 := [.int r2]) (N2 := 0) hZ dX12_jam_2 cw_X12_163_X12 rfl eu1 (s_X12_isMesh er2) rfl rfl (by decide) (Nat.le_of_ble_eq_true rfl) (Nat.le_refl 0) (Nat.le_refl _) (Or.inl rfl) rfl ?_
  refine ok_join (Q := fun j3 : Int32 => R Z 17 [] [.int j3] n h 0) H (fun j3 H => ?_) (fun H => ?_)
  · have H := ok_some H
    subst H
    exact r_iret hZ hF dX12_jam_17
  · refine r_if_eq (tgt := 16) hZ dX12_jam_5 (by decide) (fun c6 => ?_) (fun c6 => ?_)
    · have H := ok_t H c6
      refine r_iconst (v := (J (-1))) hZ dX12_jam_16 (by decide) ?_
      have H := ok_some H
      exact r_pick [] (ls' := []) rfl H
    · have H := ok_f H c6
      refine r_aload_n hZ dX12_jam_8 rfl ?_
      refine r_iload_n hZ dX12_jam_9 rfl ?_
      obtain ⟨u4, eu4, H⟩ := ok_bind H
      obtain ⟨r5, er5, H⟩ := ok_bind H
      refine r_callV (As := [.int a1]) (rest := []) (st1 := [.int r5]) (N2 := 0) hZ dX12_jam_10 cw_X12_237_X12 rfl eu4 (s_X12_jamOf er5) rfl rfl (by decide) (Nat.le_of_ble_eq_true rfl) (Nat.le_refl 0) (Nat.le_refl _) (Or.inl rfl) rfl ?_
      refine r_goto (tgt := 17) hZ dX12_jam_13 (by decide) ?_
      have H := ok_some H
      exact r_pick [] (ls' := []) rfl H
def b_X12_gapOf_9 (h : Hp) (p0 : Nat) (p1 : Int32) (s : Int32 × Int32) : Option ((Int32 × Int32) ⊕ ((Int32))) :=
  (if (J 16) ≤ s.2 then
    some (.inr (s.1))
  else
    (isO h p0 11).bind fun u1 =>
    (f_X12_offOf h p0 p1 s.2).bind fun r2 =>
    ((if s.1 ≤ r2 then
      some s.1
    else
      (isO h p0 11).bind fun u4 =>
      (f_X12_offOf h p0 p1 s.2).bind fun r5 =>
      some r5)).bind fun (j3 : Int32) =>
    (some (s.2 + (J 1))).bind fun x7 =>
    some (.inl (j3, x7)))
set_option maxRecDepth 100000 in
set_option maxHeartbeats 4000000 in
theorem l_X12_gapOf_9 {Z : Zc} (hZ : Fx cX12_gapOf RX12 4 6 0 Z) {n : Nat} {h : Hp} {p0 : Nat} {p1 : Int32} {P : ((Int32)) → Prop} (hx0 : ∀ e : Int32, P (e) → R Z 42 [(2, .int e)] [] n h 0) : ∀ (m : Nat) (s : Int32 × Int32), Ok (iter (b_X12_gapOf_9 h p0 p1) m s) P → R Z 9 [(0, .ref p0), (1, .int p1), (2, .int s.1), (3, .int s.2)] [] n h 0 := by
  intro m
  induction m with
  | zero => exact fun s H => ok_iter0 H
  | succ m ih =>
    intro s H
    have H := ok_iter H
    unfold b_X12_gapOf_9 at H
    refine r_iload_n hZ dX12_gapOf_9 rfl ?_
    refine r_bipush (v := (J 16)) hZ dX12_gapOf_10 (by decide) ?_
    refine r_icmp_ge (tgt := 42) hZ dX12_gapOf_12 (by decide) (fun c8 => ?_) (fun c8 => ?_)
    · have H := ok_t H c8
      exact r_pick [2] (ls' := [(2, .int s.1)]) rfl (hx0 _ (ki_r H))
    · have H := ok_f H c8
      refine r_aload_n hZ dX12_gapOf_15 rfl ?_
      refine r_iload_n hZ dX12_gapOf_16 rfl ?_
      refine r_iload_n hZ dX12_gapOf_17 rfl ?_
      obtain ⟨u1, eu1, H⟩ := ok_bind H
      obtain ⟨r2, er2, H⟩ := ok_bind H
      refine r_callV (As := [.int p1, .int s.2]) (rest := []) (st1 := [.int r2]) (N2 := 0) hZ dX12_gapOf_18 cw_X12_233_X12 rfl eu1 (s_X12_offOf er2) rfl rfl (by decide) (Nat.le_of_ble_eq_true rfl) (Nat.le_refl 0) (Nat.le_refl _) (Or.inl rfl) rfl ?_
      refine r_iload_n hZ dX12_gapOf_21 rfl ?_
      refine ok_join (Q := fun j3 : Int32 => R Z 35 [(0, .ref p0), (1, .int p1), (3, .int s.2)] [.int j3] n h 0) H (fun j3 H => ?_) (fun H => ?_)
      · refine r_istore_n hZ dX12_gapOf_35 (by decide) (r_pick [0, 1, 2, 3] (ls' := [(0, .ref p0), (1, .int p1), (2, .int j3), (3, .int s.2)]) rfl ?_)
        obtain ⟨x7, ex7, H⟩ := ok_bind H
        refine r_iincE (w := (J 1)) hZ dX12_gapOf_36 (by decide) rfl (by decide) ex7 (r_pick [0, 1, 2, 3] (ls' := [(0, .ref p0), (1, .int p1), (2, .int j3), (3, .int x7)]) rfl ?_)
        refine r_goto (tgt := 9) hZ dX12_gapOf_39 (by decide) ?_
        exact r_pick [0, 1, 2, 3] (ls' := [(0, .ref p0), (1, .int p1), (2, .int j3), (3, .int x7)]) rfl (ih _ (ki_l H))
      · refine r_icmp_ge (tgt := 34) hZ dX12_gapOf_22 (by decide) (fun c6 => ?_) (fun c6 => ?_)
        · have H := ok_t H c6
          refine r_iload_n hZ dX12_gapOf_34 rfl ?_
          have H := ok_some H
          exact r_pick [0, 1, 3] (ls' := [(0, .ref p0), (1, .int p1), (3, .int s.2)]) rfl H
        · have H := ok_f H c6
          refine r_aload_n hZ dX12_gapOf_25 rfl ?_
          refine r_iload_n hZ dX12_gapOf_26 rfl ?_
          refine r_iload_n hZ dX12_gapOf_27 rfl ?_
          obtain ⟨u4, eu4, H⟩ := ok_bind H
          obtain ⟨r5, er5, H⟩ := ok_bind H
          refine r_callV (As := [.int p1, .int s.2]) (rest := []) (st1 := [.int r5]) (N2 := 0) hZ dX12_gapOf_28 cw_X12_233_X12 rfl eu4 (s_X12_offOf er5) rfl rfl (by decide) (Nat.le_of_ble_eq_true rfl) (Nat.le_refl 0) (Nat.le_refl _) (Or.inl rfl) rfl ?_
          refine r_goto (tgt := 35) hZ dX12_gapOf_31 (by decide) ?_
          have H := ok_some H
          exact r_pick [0, 1, 3] (ls' := [(0, .ref p0), (1, .int p1), (3, .int s.2)]) rfl H
def f_X12_gapOf  (h : Hp) (a0 : Nat) (a1 : Int32) : Option (Int32) :=
  (isO h a0 11).bind fun u1 =>
  (f_X12_offOf h a0 a1 (J 0)).bind fun r2 =>
  (some (J 1)).bind fun x3 =>
  (iter (b_X12_gapOf_9 h a0 a1) FU (r2, x3)).bind fun e4 =>
  some e4
set_option maxRecDepth 100000 in
set_option maxHeartbeats 4000000 in
theorem s_X12_gapOf {n : Nat} {h : Hp} {a0 : Nat} {a1 : Int32}  {r : Int32} (hf : f_X12_gapOf  h a0 a1 = some r) : Ev 6 yX12_gapOf cX12_gapOf 4 (some .int) [.ref a0, .int a1] n h (some (.int r)) n h := by
  refine Ev_of RX12 rfl (by decide) (Nat.le_of_ble_eq_true rfl) (Nat.le_refl _) (Or.inl rfl) (fun Z hZ hF hN hI => ?_)
  have H : Ok (f_X12_gapOf  h a0 a1) (fun y => y = r) := ⟨_, hf, rfl⟩
  unfold f_X12_gapOf at H
  refine r_ls (ls' := [(0, .ref a0), (1, .int a1)]) rfl ?_
  refine r_aload_n hZ dX12_gapOf_0 rfl ?_
  refine r_iload_n hZ dX12_gapOf_1 rfl ?_
  refine r_iconst (v := (J 0)) hZ dX12_gapOf_2 (by decide) ?_
  obtain ⟨u1, eu1, H⟩ := ok_bind H
  obtain ⟨r2, er2, H⟩ := ok_bind H
  refine r_callV (As := [.int a1, .int (J 0)]) (rest := []) (st1 := [.int r2]) (N2 := 0) hZ dX12_gapOf_3 cw_X12_233_X12 rfl eu1 (s_X12_offOf er2) rfl rfl (by decide) (Nat.le_of_ble_eq_true rfl) (Nat.le_refl 0) (Nat.le_refl _) (Or.inl rfl) rfl ?_
  refine r_istore_n hZ dX12_gapOf_6 (by decide) (r_pick [0, 1, 2] (ls' := [(0, .ref a0), (1, .int a1), (2, .int r2)]) rfl ?_)
  refine r_iconst (v := (J 1)) hZ dX12_gapOf_7 (by decide) ?_
  obtain ⟨x3, ex3, H⟩ := ok_bind H
  refine r_topi ex3 ?_
  refine r_istore_n hZ dX12_gapOf_8 (by decide) (r_pick [0, 1, 2, 3] (ls' := [(0, .ref a0), (1, .int a1), (2, .int r2), (3, .int x3)]) rfl ?_)
  have H := ok_bindK H
  refine r_pick [0, 1, 2, 3] (ls' := [(0, .ref a0), (1, .int a1), (2, .int r2), (3, .int x3)]) rfl (l_X12_gapOf_9 hZ (fun e4 H => ?_) FU _ H)
  · refine r_iload_n hZ dX12_gapOf_42 rfl ?_
    have H := ok_some H
    subst H
    exact r_iret hZ hF dX12_gapOf_43
def f_X12_gap  (h : Hp) (a0 : Nat) (a1 : Int32) : Option (Int32) :=
  (isO h a0 11).bind fun u1 =>
  (f_X12_isMesh h a0 a1).bind fun r2 =>
  ((if r2 = 0 then
    some (J (-1000000001))
  else
    (isO h a0 11).bind fun u4 =>
    (f_X12_gapOf h a0 a1).bind fun r5 =>
    some r5)).bind fun (j3 : Int32) =>
  some j3
set_option maxRecDepth 100000 in
set_option maxHeartbeats 4000000 in
theorem s_X12_gap {n : Nat} {h : Hp} {a0 : Nat} {a1 : Int32}  {r : Int32} (hf : f_X12_gap  h a0 a1 = some r) : Ev 7 yX12_gap cX12_gap 2 (some .int) [.ref a0, .int a1] n h (some (.int r)) n h := by
  refine Ev_of RX12 rfl (by decide) (Nat.le_of_ble_eq_true rfl) (Nat.le_refl _) (Or.inl rfl) (fun Z hZ hF hN hI => ?_)
  have H : Ok (f_X12_gap  h a0 a1) (fun y => y = r) := ⟨_, hf, rfl⟩
  unfold f_X12_gap at H
  refine r_ls (ls' := [(0, .ref a0), (1, .int a1)]) rfl ?_
  refine r_aload_n hZ dX12_gap_0 rfl ?_
  refine r_iload_n hZ dX12_gap_1 rfl ?_
  obtain ⟨u1, eu1, H⟩ := ok_bind H
  obtain ⟨r2, er2, H⟩ := ok_bind H
  refine r_callV (As := [.int a1]) (rest := []) (st1 := [.int r2]) (N2 := 0) hZ dX12_gap_2 cw_X12_163_X12 rfl eu1 (s_X12_isMesh er2) rfl rfl (by decide) (Nat.le_of_ble_eq_true rfl) (Nat.le_refl 0) (Nat.le_refl _) (Or.inl rfl) rfl ?_
  refine ok_join (Q := fun j3 : Int32 => R Z 18 [] [.int j3] n h 0) H (fun j3 H => ?_) (fun H => ?_)
  · have H := ok_some H
    subst H
    exact r_iret hZ hF dX12_gap_18
  · refine r_if_eq (tgt := 16) hZ dX12_gap_5 (by decide) (fun c6 => ?_) (fun c6 => ?_)
    · have H := ok_t H c6
      refine r_ldc (v := (J (-1000000001))) hZ wc_X12_236 dX12_gap_16 ?_
      have H := ok_some H
      exact r_pick [] (ls' := []) rfl H
    · have H := ok_f H c6
      refine r_aload_n hZ dX12_gap_8 rfl ?_
      refine r_iload_n hZ dX12_gap_9 rfl ?_
      obtain ⟨u4, eu4, H⟩ := ok_bind H
      obtain ⟨r5, er5, H⟩ := ok_bind H
      refine r_callV (As := [.int a1]) (rest := []) (st1 := [.int r5]) (N2 := 0) hZ dX12_gap_10 cw_X12_240_X12 rfl eu4 (s_X12_gapOf er5) rfl rfl (by decide) (Nat.le_of_ble_eq_true rfl) (Nat.le_refl 0) (Nat.le_refl _) (Or.inl rfl) rfl ?_
      refine r_goto (tgt := 18) hZ dX12_gap_13 (by decide) ?_
      have H := ok_some H
      exact r_pick [] (ls' := []) rfl H
def b_X12_evenOf_9 (h : Hp) (p0 : Nat) (p1 : Int32) (s : Int32 × Int32) : Option ((Int32 × Int32) ⊕ ((Int32))) :=
  (if (J 16) ≤ s.2 then
    some (.inr (s.1))
  else
    (isO h p0 11).bind fun u1 =>
    (f_X12_offOf h p0 p1 s.2).bind fun r2 =>
    ((if r2 ≤ s.1 then
      some s.1
    else
      (isO h p0 11).bind fun u4 =>
      (f_X12_offOf h p0 p1 s.2).bind fun r5 =>
      some r5)).bind fun (j3 : Int32) =>
    (some (s.2 + (J 1))).bind fun x7 =>
    some (.inl (j3, x7)))
set_option maxRecDepth 100000 in
set_option maxHeartbeats 4000000 in
theorem l_X12_evenOf_9 {Z : Zc} (hZ : Fx cX12_evenOf RX12 4 7 0 Z) {n : Nat} {h : Hp} {p0 : Nat} {p1 : Int32} {P : ((Int32)) → Prop} (hx0 : ∀ e : Int32, P (e) → R Z 42 [(0, .ref p0), (1, .int p1), (2, .int e)] [] n h 0) : ∀ (m : Nat) (s : Int32 × Int32), Ok (iter (b_X12_evenOf_9 h p0 p1) m s) P → R Z 9 [(0, .ref p0), (1, .int p1), (2, .int s.1), (3, .int s.2)] [] n h 0 := by
  intro m
  induction m with
  | zero => exact fun s H => ok_iter0 H
  | succ m ih =>
    intro s H
    have H := ok_iter H
    unfold b_X12_evenOf_9 at H
    refine r_iload_n hZ dX12_evenOf_9 rfl ?_
    refine r_bipush (v := (J 16)) hZ dX12_evenOf_10 (by decide) ?_
    refine r_icmp_ge (tgt := 42) hZ dX12_evenOf_12 (by decide) (fun c8 => ?_) (fun c8 => ?_)
    · have H := ok_t H c8
      exact r_pick [0, 1, 2] (ls' := [(0, .ref p0), (1, .int p1), (2, .int s.1)]) rfl (hx0 _ (ki_r H))
    · have H := ok_f H c8
      refine r_aload_n hZ dX12_evenOf_15 rfl ?_
      refine r_iload_n hZ dX12_evenOf_16 rfl ?_
      refine r_iload_n hZ dX12_evenOf_17 rfl ?_
      obtain ⟨u1, eu1, H⟩ := ok_bind H
      obtain ⟨r2, er2, H⟩ := ok_bind H
      refine r_callV (As := [.int p1, .int s.2]) (rest := []) (st1 := [.int r2]) (N2 := 0) hZ dX12_evenOf_18 cw_X12_233_X12 rfl eu1 (s_X12_offOf er2) rfl rfl (by decide) (Nat.le_of_ble_eq_true rfl) (Nat.le_refl 0) (Nat.le_refl _) (Or.inl rfl) rfl ?_
      refine r_iload_n hZ dX12_evenOf_21 rfl ?_
      refine ok_join (Q := fun j3 : Int32 => R Z 35 [(0, .ref p0), (1, .int p1), (3, .int s.2)] [.int j3] n h 0) H (fun j3 H => ?_) (fun H => ?_)
      · refine r_istore_n hZ dX12_evenOf_35 (by decide) (r_pick [0, 1, 2, 3] (ls' := [(0, .ref p0), (1, .int p1), (2, .int j3), (3, .int s.2)]) rfl ?_)
        obtain ⟨x7, ex7, H⟩ := ok_bind H
        refine r_iincE (w := (J 1)) hZ dX12_evenOf_36 (by decide) rfl (by decide) ex7 (r_pick [0, 1, 2, 3] (ls' := [(0, .ref p0), (1, .int p1), (2, .int j3), (3, .int x7)]) rfl ?_)
        refine r_goto (tgt := 9) hZ dX12_evenOf_39 (by decide) ?_
        exact r_pick [0, 1, 2, 3] (ls' := [(0, .ref p0), (1, .int p1), (2, .int j3), (3, .int x7)]) rfl (ih _ (ki_l H))
      · refine r_icmp_le (tgt := 34) hZ dX12_evenOf_22 (by decide) (fun c6 => ?_) (fun c6 => ?_)
        · have H := ok_t H c6
          refine r_iload_n hZ dX12_evenOf_34 rfl ?_
          have H := ok_some H
          exact r_pick [0, 1, 3] (ls' := [(0, .ref p0), (1, .int p1), (3, .int s.2)]) rfl H
        · have H := ok_f H c6
          refine r_aload_n hZ dX12_evenOf_25 rfl ?_
          refine r_iload_n hZ dX12_evenOf_26 rfl ?_
          refine r_iload_n hZ dX12_evenOf_27 rfl ?_
          obtain ⟨u4, eu4, H⟩ := ok_bind H
          obtain ⟨r5, er5, H⟩ := ok_bind H
          refine r_callV (As := [.int p1, .int s.2]) (rest := []) (st1 := [.int r5]) (N2 := 0) hZ dX12_evenOf_28 cw_X12_233_X12 rfl eu4 (s_X12_offOf er5) rfl rfl (by decide) (Nat.le_of_ble_eq_true rfl) (Nat.le_refl 0) (Nat.le_refl _) (Or.inl rfl) rfl ?_
          refine r_goto (tgt := 35) hZ dX12_evenOf_31 (by decide) ?_
          have H := ok_some H
          exact r_pick [0, 1, 3] (ls' := [(0, .ref p0), (1, .int p1), (3, .int s.2)]) rfl H
def f_X12_evenOf  (h : Hp) (a0 : Nat) (a1 : Int32) : Option (Int32) :=
  (isO h a0 11).bind fun u1 =>
  (f_X12_offOf h a0 a1 (J 0)).bind fun r2 =>
  (some (J 1)).bind fun x3 =>
  (iter (b_X12_evenOf_9 h a0 a1) FU (r2, x3)).bind fun e4 =>
  (isO h a0 11).bind fun u5 =>
  (f_X12_gapOf h a0 a1).bind fun r6 =>
  some (e4 - r6)
set_option maxRecDepth 100000 in
set_option maxHeartbeats 4000000 in
theorem s_X12_evenOf {n : Nat} {h : Hp} {a0 : Nat} {a1 : Int32}  {r : Int32} (hf : f_X12_evenOf  h a0 a1 = some r) : Ev 7 yX12_evenOf cX12_evenOf 4 (some .int) [.ref a0, .int a1] n h (some (.int r)) n h := by
  refine Ev_of RX12 rfl (by decide) (Nat.le_of_ble_eq_true rfl) (Nat.le_refl _) (Or.inl rfl) (fun Z hZ hF hN hI => ?_)
  have H : Ok (f_X12_evenOf  h a0 a1) (fun y => y = r) := ⟨_, hf, rfl⟩
  unfold f_X12_evenOf at H
  refine r_ls (ls' := [(0, .ref a0), (1, .int a1)]) rfl ?_
  refine r_aload_n hZ dX12_evenOf_0 rfl ?_
  refine r_iload_n hZ dX12_evenOf_1 rfl ?_
  refine r_iconst (v := (J 0)) hZ dX12_evenOf_2 (by decide) ?_
  obtain ⟨u1, eu1, H⟩ := ok_bind H
  obtain ⟨r2, er2, H⟩ := ok_bind H
  refine r_callV (As := [.int a1, .int (J 0)]) (rest := []) (st1 := [.int r2]) (N2 := 0) hZ dX12_evenOf_3 cw_X12_233_X12 rfl eu1 (s_X12_offOf er2) rfl rfl (by decide) (Nat.le_of_ble_eq_true rfl) (Nat.le_refl 0) (Nat.le_refl _) (Or.inl rfl) rfl ?_
  refine r_istore_n hZ dX12_evenOf_6 (by decide) (r_pick [0, 1, 2] (ls' := [(0, .ref a0), (1, .int a1), (2, .int r2)]) rfl ?_)
  refine r_iconst (v := (J 1)) hZ dX12_evenOf_7 (by decide) ?_
  obtain ⟨x3, ex3, H⟩ := ok_bind H
  refine r_topi ex3 ?_
  refine r_istore_n hZ dX12_evenOf_8 (by decide) (r_pick [0, 1, 2, 3] (ls' := [(0, .ref a0), (1, .int a1), (2, .int r2), (3, .int x3)]) rfl ?_)
  have H := ok_bindK H
  refine r_pick [0, 1, 2, 3] (ls' := [(0, .ref a0), (1, .int a1), (2, .int r2), (3, .int x3)]) rfl (l_X12_evenOf_9 hZ (fun e4 H => ?_) FU _ H)
  · refine r_iload_n hZ dX12_evenOf_42 rfl ?_
    refine r_aload_n hZ dX12_evenOf_43 rfl ?_
    refine r_iload_n hZ dX12_evenOf_44 rfl ?_
    obtain ⟨u5, eu5, H⟩ := ok_bind H
    obtain ⟨r6, er6, H⟩ := ok_bind H
    refine r_callV (As := [.int a1]) (rest := [.int e4]) (st1 := [.int r6, .int e4]) (N2 := 0) hZ dX12_evenOf_45 cw_X12_240_X12 rfl eu5 (s_X12_gapOf er6) rfl rfl (by decide) (Nat.le_of_ble_eq_true rfl) (Nat.le_refl 0) (Nat.le_refl _) (Or.inl rfl) rfl ?_
    refine r_isub hZ dX12_evenOf_48 ?_
    have H := ok_some H
    subst H
    exact r_iret hZ hF dX12_evenOf_49
def f_X12_even  (h : Hp) (a0 : Nat) (a1 : Int32) : Option (Int32) :=
  (isO h a0 11).bind fun u1 =>
  (f_X12_isMesh h a0 a1).bind fun r2 =>
  ((if r2 = 0 then
    some (J (-1))
  else
    (isO h a0 11).bind fun u4 =>
    (f_X12_evenOf h a0 a1).bind fun r5 =>
    some r5)).bind fun (j3 : Int32) =>
  some j3
set_option maxRecDepth 100000 in
set_option maxHeartbeats 4000000 in
theorem s_X12_even {n : Nat} {h : Hp} {a0 : Nat} {a1 : Int32}  {r : Int32} (hf : f_X12_even  h a0 a1 = some r) : Ev 8 yX12_even cX12_even 2 (some .int) [.ref a0, .int a1] n h (some (.int r)) n h := by
  refine Ev_of RX12 rfl (by decide) (Nat.le_of_ble_eq_true rfl) (Nat.le_refl _) (Or.inl rfl) (fun Z hZ hF hN hI => ?_)
  have H : Ok (f_X12_even  h a0 a1) (fun y => y = r) := ⟨_, hf, rfl⟩
  unfold f_X12_even at H
  refine r_ls (ls' := [(0, .ref a0), (1, .int a1)]) rfl ?_
  refine r_aload_n hZ dX12_even_0 rfl ?_
  refine r_iload_n hZ dX12_even_1 rfl ?_
  obtain ⟨u1, eu1, H⟩ := ok_bind H
  obtain ⟨r2, er2, H⟩ := ok_bind H
  refine r_callV (As := [.int a1]) (rest := []) (st1 := [.int r2]) (N2 := 0) hZ dX12_even_2 cw_X12_163_X12 rfl eu1 (s_X12_isMesh er2) rfl rfl (by decide) (Nat.le_of_ble_eq_true rfl) (Nat.le_refl 0) (Nat.le_refl _) (Or.inl rfl) rfl ?_
  refine ok_join (Q := fun j3 : Int32 => R Z 17 [] [.int j3] n h 0) H (fun j3 H => ?_) (fun H => ?_)
  · have H := ok_some H
    subst H
    exact r_iret hZ hF dX12_even_17
  · refine r_if_eq (tgt := 16) hZ dX12_even_5 (by decide) (fun c6 => ?_) (fun c6 => ?_)
    · have H := ok_t H c6
      refine r_iconst (v := (J (-1))) hZ dX12_even_16 (by decide) ?_
      have H := ok_some H
      exact r_pick [] (ls' := []) rfl H
    · have H := ok_f H c6
      refine r_aload_n hZ dX12_even_8 rfl ?_
      refine r_iload_n hZ dX12_even_9 rfl ?_
      obtain ⟨u4, eu4, H⟩ := ok_bind H
      obtain ⟨r5, er5, H⟩ := ok_bind H
      refine r_callV (As := [.int a1]) (rest := []) (st1 := [.int r5]) (N2 := 0) hZ dX12_even_10 cw_X12_243_X12 rfl eu4 (s_X12_evenOf er5) rfl rfl (by decide) (Nat.le_of_ble_eq_true rfl) (Nat.le_refl 0) (Nat.le_refl _) (Or.inl rfl) rfl ?_
      refine r_goto (tgt := 17) hZ dX12_even_13 (by decide) ?_
      have H := ok_some H
      exact r_pick [] (ls' := []) rfl H
def f_X12_room  (h : Hp) (a0 : Nat) (a1 : Int32) (a2 : Int32) : Option (Int32 × Hp) :=
  (isO h a0 11).bind fun u1 =>
  (f_X12_isMesh h a0 a1).bind fun r2 =>
  (if r2 = 0 then
    some ((J (-1)), h)
  else
    (f_X12_isIn (a2.toInt64) (K 0) (K 62)).bind fun r3 =>
    (if r3 = 0 then
      some ((J (-1)), h)
    else
      (isO h a0 11).bind fun u4 =>
      (f_X12_meshOf h a0 a1 (J 2)).bind fun r5 =>
      (gR h a0 11 1).bind fun x6 =>
      (sI h x6 (((J 228) + ((J 3) * a1)) + (J 2)) a2).bind fun h7 =>
      some (r5, h7)))
set_option maxRecDepth 100000 in
set_option maxHeartbeats 4000000 in
theorem s_X12_room {n : Nat} {h : Hp} {a0 : Nat} {a1 : Int32} {a2 : Int32}  {r : Int32 × Hp} (hf : f_X12_room  h a0 a1 a2 = some r) : Ev 4 yX12_room cX12_room 4 (some .int) [.ref a0, .int a1, .int a2] n h (some (.int r.1)) n r.2 := by
  refine Ev_of RX12 rfl (by decide) (Nat.le_of_ble_eq_true rfl) (Nat.le_refl _) (Or.inl rfl) (fun Z hZ hF hN hI => ?_)
  have H : Ok (f_X12_room  h a0 a1 a2) (fun y => y = r) := ⟨_, hf, rfl⟩
  unfold f_X12_room at H
  refine r_ls (ls' := [(0, .ref a0), (1, .int a1), (2, .int a2)]) rfl ?_
  refine r_aload_n hZ dX12_room_0 rfl ?_
  refine r_iload_n hZ dX12_room_1 rfl ?_
  obtain ⟨u1, eu1, H⟩ := ok_bind H
  obtain ⟨r2, er2, H⟩ := ok_bind H
  refine r_callV (As := [.int a1]) (rest := []) (st1 := [.int r2]) (N2 := 0) hZ dX12_room_2 cw_X12_163_X12 rfl eu1 (s_X12_isMesh er2) rfl rfl (by decide) (Nat.le_of_ble_eq_true rfl) (Nat.le_refl 0) (Nat.le_refl _) (Or.inl rfl) rfl ?_
  refine r_if_eq (tgt := 20) hZ dX12_room_5 (by decide) (fun c9 => ?_) (fun c9 => ?_)
  · have H := ok_t H c9
    refine r_iconst (v := (J (-1))) hZ dX12_room_20 (by decide) ?_
    have H := ok_some H
    subst H
    exact r_iret hZ hF dX12_room_21
  · have H := ok_f H c9
    refine r_iload_n hZ dX12_room_8 rfl ?_
    refine r_i2l hZ dX12_room_9 ?_
    refine r_lconst (v := (K 0)) hZ dX12_room_10 (by decide) ?_
    refine r_ldc2 (v := (K 62)) hZ wc_X12_246 dX12_room_11 ?_
    obtain ⟨r3, er3, H⟩ := ok_bind H
    refine r_callS (As := [.long (a2.toInt64), .long (K 0), .long (K 62)]) (rest := []) (st1 := [.int r3]) (N2 := 0) hZ dX12_room_14 cw_X12_73 (s_X12_isIn er3) rfl rfl (by decide) (Nat.le_of_ble_eq_true rfl) (Nat.le_refl 0) (Nat.le_refl _) (Or.inl rfl) rfl ?_
    refine r_if_ne (tgt := 22) hZ dX12_room_17 (by decide) (fun c8 => ?_) (fun c8 => ?_)
    · have H := ok_f H c8
      refine r_aload_n hZ dX12_room_22 rfl ?_
      refine r_iload_n hZ dX12_room_23 rfl ?_
      refine r_iconst (v := (J 2)) hZ dX12_room_24 (by decide) ?_
      obtain ⟨u4, eu4, H⟩ := ok_bind H
      obtain ⟨r5, er5, H⟩ := ok_bind H
      refine r_callV (As := [.int a1, .int (J 2)]) (rest := []) (st1 := [.int r5]) (N2 := 0) hZ dX12_room_25 cw_X12_118_X12 rfl eu4 (s_X12_meshOf er5) rfl rfl (by decide) (Nat.le_of_ble_eq_true rfl) (Nat.le_refl 0) (Nat.le_refl _) (Or.inl rfl) rfl ?_
      refine r_istore_n hZ dX12_room_28 (by decide) (r_pick [0, 1, 2, 3] (ls' := [(0, .ref a0), (1, .int a1), (2, .int a2), (3, .int r5)]) rfl ?_)
      refine r_aload_n hZ dX12_room_29 rfl ?_
      obtain ⟨x6, ex6, H⟩ := ok_bind H
      refine r_getR hZ fl_X12_13_11 dX12_room_30 ex6 ?_
      refine r_sipush (v := (J 228)) hZ dX12_room_33 (by decide) ?_
      refine r_iconst (v := (J 3)) hZ dX12_room_36 (by decide) ?_
      refine r_iload_n hZ dX12_room_37 rfl ?_
      refine r_imul hZ dX12_room_38 ?_
      refine r_iadd hZ dX12_room_39 ?_
      refine r_iconst (v := (J 2)) hZ dX12_room_40 (by decide) ?_
      refine r_iadd hZ dX12_room_41 ?_
      refine r_iload_n hZ dX12_room_42 rfl ?_
      obtain ⟨h7, eh7, H⟩ := ok_bind H
      refine r_sI hZ dX12_room_43 eh7 ?_
      refine r_iload_n hZ dX12_room_44 rfl ?_
      have H := ok_some H
      subst H
      exact r_iret hZ hF dX12_room_45
    · have H := ok_t H c8
      refine r_iconst (v := (J (-1))) hZ dX12_room_20 (by decide) ?_
      have H := ok_some H
      subst H
      exact r_iret hZ hF dX12_room_21
def f_X12_lessens  (h : Hp) (a0 : Nat) (a1 : Int32) (a2 : Int32) (a3 : Int32) : Option (Hp) :=
  (some ((((J 19) * a1) + (J 3)) + a2)).bind fun x1 =>
  (isO h a0 11).bind fun u2 =>
  (f_X12_hard h a0 a1).bind fun r3 =>
  (nz (J 10)).bind fun u4 =>
  ((if (a3 / (J 10)) ≤ r3 then
    some h
  else
    (gR h a0 11 1).bind fun x6 =>
    (aI h x6 x1).bind fun x7 =>
    (if x7 ≤ 0 then
      some h
    else
      (gR h a0 11 1).bind fun x8 =>
      (aI h x8 x1).bind fun x9 =>
      (sI h x8 x1 (x9 - (J 1))).bind fun h10 =>
      some h10))).bind fun (j5 : Hp) =>
  some j5
set_option maxRecDepth 100000 in
set_option maxHeartbeats 4000000 in
theorem s_X12_lessens {n : Nat} {h : Hp} {a0 : Nat} {a1 : Int32} {a2 : Int32} {a3 : Int32}  {r : Hp} (hf : f_X12_lessens  h a0 a1 a2 a3 = some r) : Ev 4 yX12_lessens cX12_lessens 5 none [.ref a0, .int a1, .int a2, .int a3] n h none n r := by
  refine Ev_of RX12 rfl (by decide) (Nat.le_of_ble_eq_true rfl) (Nat.le_refl _) (Or.inl rfl) (fun Z hZ hF hN hI => ?_)
  have H : Ok (f_X12_lessens  h a0 a1 a2 a3) (fun y => y = r) := ⟨_, hf, rfl⟩
  unfold f_X12_lessens at H
  refine r_ls (ls' := [(0, .ref a0), (1, .int a1), (2, .int a2), (3, .int a3)]) rfl ?_
  refine r_bipush (v := (J 19)) hZ dX12_lessens_0 (by decide) ?_
  refine r_iload_n hZ dX12_lessens_2 rfl ?_
  refine r_imul hZ dX12_lessens_3 ?_
  refine r_iconst (v := (J 3)) hZ dX12_lessens_4 (by decide) ?_
  refine r_iadd hZ dX12_lessens_5 ?_
  refine r_iload_n hZ dX12_lessens_6 rfl ?_
  refine r_iadd hZ dX12_lessens_7 ?_
  obtain ⟨x1, ex1, H⟩ := ok_bind H
  refine r_topi ex1 ?_
  refine r_istore hZ dX12_lessens_8 (by decide) (r_pick [0, 1, 3, 4] (ls' := [(0, .ref a0), (1, .int a1), (3, .int a3), (4, .int x1)]) rfl ?_)
  refine r_aload_n hZ dX12_lessens_10 rfl ?_
  refine r_iload_n hZ dX12_lessens_11 rfl ?_
  obtain ⟨u2, eu2, H⟩ := ok_bind H
  obtain ⟨r3, er3, H⟩ := ok_bind H
  refine r_callV (As := [.int a1]) (rest := []) (st1 := [.int r3]) (N2 := 0) hZ dX12_lessens_12 cw_X12_149_X12 rfl eu2 (s_X12_hard er3) rfl rfl (by decide) (Nat.le_of_ble_eq_true rfl) (Nat.le_refl 0) (Nat.le_refl _) (Or.inl rfl) rfl ?_
  refine r_iload_n hZ dX12_lessens_15 rfl ?_
  refine r_bipush (v := (J 10)) hZ dX12_lessens_16 (by decide) ?_
  obtain ⟨u4, eu4, H⟩ := ok_bind H
  refine r_idiv hZ dX12_lessens_18 (nz_ne eu4) ?_
  refine ok_join (Q := fun j5 : Hp => R Z 43 [] [] n j5 0) H (fun j5 H => ?_) (fun H => ?_)
  · have H := ok_some H
    subst H
    exact r_ret hZ hF dX12_lessens_43
  · refine r_icmp_ge (tgt := 43) hZ dX12_lessens_19 (by decide) (fun c12 => ?_) (fun c12 => ?_)
    · have H := ok_t H c12
      have H := ok_some H
      exact r_pick [] (ls' := []) rfl H
    · have H := ok_f H c12
      refine r_aload_n hZ dX12_lessens_22 rfl ?_
      obtain ⟨x6, ex6, H⟩ := ok_bind H
      refine r_getR hZ fl_X12_13_11 dX12_lessens_23 ex6 ?_
      refine r_iload hZ dX12_lessens_26 rfl ?_
      obtain ⟨x7, ex7, H⟩ := ok_bind H
      refine r_aI hZ dX12_lessens_28 ex7 ?_
      refine r_if_le (tgt := 43) hZ dX12_lessens_29 (by decide) (fun c11 => ?_) (fun c11 => ?_)
      · have H := ok_t H c11
        have H := ok_some H
        exact r_pick [] (ls' := []) rfl H
      · have H := ok_f H c11
        refine r_aload_n hZ dX12_lessens_32 rfl ?_
        obtain ⟨x8, ex8, H⟩ := ok_bind H
        refine r_getR hZ fl_X12_13_11 dX12_lessens_33 ex8 ?_
        refine r_iload hZ dX12_lessens_36 rfl ?_
        refine r_dup2_ia hZ dX12_lessens_38 ?_
        obtain ⟨x9, ex9, H⟩ := ok_bind H
        refine r_aI hZ dX12_lessens_39 ex9 ?_
        refine r_iconst (v := (J 1)) hZ dX12_lessens_40 (by decide) ?_
        refine r_isub hZ dX12_lessens_41 ?_
        obtain ⟨h10, eh10, H⟩ := ok_bind H
        refine r_sI hZ dX12_lessens_42 eh10 ?_
        have H := ok_some H
        exact r_pick [] (ls' := []) rfl H
def b_X12_wears_2 (p0 : Nat) (p1 : Int32) (p2 : Int32) (s : Int32 × Hp) : Option ((Int32 × Hp) ⊕ ((Hp))) :=
  (if (J 16) ≤ s.1 then
    some (.inr (s.2))
  else
    (isO s.2 p0 11).bind fun u1 =>
    (f_X12_touchOf s.2 p0 p1 s.1).bind fun r2 =>
    (isO s.2 p0 11).bind fun u3 =>
    (f_X12_meshOf s.2 p0 p1 (J 0)).bind fun r4 =>
    (isO s.2 p0 11).bind fun u5 =>
    (f_X12_lessens s.2 p0 r4 r2 p2).bind fun r6 =>
    (isO r6 p0 11).bind fun u7 =>
    (f_X12_meshOf r6 p0 p1 (J 1)).bind fun r8 =>
    (nz (J 16)).bind fun u9 =>
    (isO r6 p0 11).bind fun u10 =>
    (f_X12_lessens r6 p0 r8 ((((J 15) - r2) + s.1) - (((J 15) - r2) + s.1) / (J 16) * (J 16)) p2).bind fun r11 =>
    (some (s.1 + (J 1))).bind fun x12 =>
    some (.inl (x12, r11)))
set_option maxRecDepth 100000 in
set_option maxHeartbeats 4000000 in
theorem l_X12_wears_2 {Z : Zc} (hZ : Fx cX12_wears RX12 5 5 0 Z) {n : Nat} {p0 : Nat} {p1 : Int32} {p2 : Int32} {P : ((Hp)) → Prop} (hx0 : ∀ e : Hp, P (e) → R Z 56 [] [] n e 0) : ∀ (m : Nat) (s : Int32 × Hp), Ok (iter (b_X12_wears_2 p0 p1 p2) m s) P → R Z 2 [(0, .ref p0), (1, .int p1), (2, .int p2), (3, .int s.1)] [] n s.2 0 := by
  intro m
  induction m with
  | zero => exact fun s H => ok_iter0 H
  | succ m ih =>
    intro s H
    have H := ok_iter H
    unfold b_X12_wears_2 at H
    refine r_iload_n hZ dX12_wears_2 rfl ?_
    refine r_bipush (v := (J 16)) hZ dX12_wears_3 (by decide) ?_
    refine r_icmp_ge (tgt := 56) hZ dX12_wears_5 (by decide) (fun c13 => ?_) (fun c13 => ?_)
    · have H := ok_t H c13
      exact r_pick [] (ls' := []) rfl (hx0 _ (ki_r H))
    · have H := ok_f H c13
      refine r_aload_n hZ dX12_wears_8 rfl ?_
      refine r_iload_n hZ dX12_wears_9 rfl ?_
      refine r_iload_n hZ dX12_wears_10 rfl ?_
      obtain ⟨u1, eu1, H⟩ := ok_bind H
      obtain ⟨r2, er2, H⟩ := ok_bind H
      refine r_callV (As := [.int p1, .int s.1]) (rest := []) (st1 := [.int r2]) (N2 := 0) hZ dX12_wears_11 cw_X12_227_X12 rfl eu1 (s_X12_touchOf er2) rfl rfl (by decide) (Nat.le_of_ble_eq_true rfl) (Nat.le_refl 0) (Nat.le_refl _) (Or.inl rfl) rfl ?_
      refine r_istore hZ dX12_wears_14 (by decide) (r_pick [0, 1, 2, 3, 4] (ls' := [(0, .ref p0), (1, .int p1), (2, .int p2), (3, .int s.1), (4, .int r2)]) rfl ?_)
      refine r_aload_n hZ dX12_wears_16 rfl ?_
      refine r_aload_n hZ dX12_wears_17 rfl ?_
      refine r_iload_n hZ dX12_wears_18 rfl ?_
      refine r_iconst (v := (J 0)) hZ dX12_wears_19 (by decide) ?_
      obtain ⟨u3, eu3, H⟩ := ok_bind H
      obtain ⟨r4, er4, H⟩ := ok_bind H
      refine r_callV (As := [.int p1, .int (J 0)]) (rest := [.ref p0]) (st1 := [.int r4, .ref p0]) (N2 := 0) hZ dX12_wears_20 cw_X12_118_X12 rfl eu3 (s_X12_meshOf er4) rfl rfl (by decide) (Nat.le_of_ble_eq_true rfl) (Nat.le_refl 0) (Nat.le_refl _) (Or.inl rfl) rfl ?_
      refine r_iload hZ dX12_wears_23 rfl ?_
      refine r_iload_n hZ dX12_wears_25 rfl ?_
      obtain ⟨u5, eu5, H⟩ := ok_bind H
      obtain ⟨r6, er6, H⟩ := ok_bind H
      refine r_callV (As := [.int r4, .int r2, .int p2]) (rest := []) (st1 := []) (N2 := 0) hZ dX12_wears_26 cw_X12_248_X12 rfl eu5 (s_X12_lessens er6) rfl rfl (by decide) (Nat.le_of_ble_eq_true rfl) (Nat.le_refl 0) (Nat.le_refl _) (Or.inl rfl) rfl ?_
      refine r_aload_n hZ dX12_wears_29 rfl ?_
      refine r_aload_n hZ dX12_wears_30 rfl ?_
      refine r_iload_n hZ dX12_wears_31 rfl ?_
      refine r_iconst (v := (J 1)) hZ dX12_wears_32 (by decide) ?_
      obtain ⟨u7, eu7, H⟩ := ok_bind H
      obtain ⟨r8, er8, H⟩ := ok_bind H
      refine r_callV (As := [.int p1, .int (J 1)]) (rest := [.ref p0]) (st1 := [.int r8, .ref p0]) (N2 := 0) hZ dX12_wears_33 cw_X12_118_X12 rfl eu7 (s_X12_meshOf er8) rfl rfl (by decide) (Nat.le_of_ble_eq_true rfl) (Nat.le_refl 0) (Nat.le_refl _) (Or.inl rfl) rfl ?_
      refine r_bipush (v := (J 15)) hZ dX12_wears_36 (by decide) ?_
      refine r_iload hZ dX12_wears_38 rfl ?_
      refine r_isub hZ dX12_wears_40 ?_
      refine r_iload_n hZ dX12_wears_41 rfl ?_
      refine r_iadd hZ dX12_wears_42 ?_
      refine r_bipush (v := (J 16)) hZ dX12_wears_43 (by decide) ?_
      obtain ⟨u9, eu9, H⟩ := ok_bind H
      refine r_irem hZ dX12_wears_45 (nz_ne eu9) ?_
      refine r_iload_n hZ dX12_wears_46 rfl ?_
      obtain ⟨u10, eu10, H⟩ := ok_bind H
      obtain ⟨r11, er11, H⟩ := ok_bind H
      refine r_callV (As := [.int r8, .int ((((J 15) - r2) + s.1) - (((J 15) - r2) + s.1) / (J 16) * (J 16)), .int p2]) (rest := []) (st1 := []) (N2 := 0) hZ dX12_wears_47 cw_X12_248_X12 rfl eu10 (s_X12_lessens er11) rfl rfl (by decide) (Nat.le_of_ble_eq_true rfl) (Nat.le_refl 0) (Nat.le_refl _) (Or.inl rfl) rfl ?_
      obtain ⟨x12, ex12, H⟩ := ok_bind H
      refine r_iincE (w := (J 1)) hZ dX12_wears_50 (by decide) rfl (by decide) ex12 (r_pick [0, 1, 2, 3] (ls' := [(0, .ref p0), (1, .int p1), (2, .int p2), (3, .int x12)]) rfl ?_)
      refine r_goto (tgt := 2) hZ dX12_wears_53 (by decide) ?_
      exact r_pick [0, 1, 2, 3] (ls' := [(0, .ref p0), (1, .int p1), (2, .int p2), (3, .int x12)]) rfl (ih _ (ki_l H))
def f_X12_wears  (h : Hp) (a0 : Nat) (a1 : Int32) (a2 : Int32) : Option (Hp) :=
  (some (J 0)).bind fun x1 =>
  (iter (b_X12_wears_2 a0 a1 a2) FU (x1, h)).bind fun e2 =>
  some e2
set_option maxRecDepth 100000 in
set_option maxHeartbeats 4000000 in
theorem s_X12_wears {n : Nat} {h : Hp} {a0 : Nat} {a1 : Int32} {a2 : Int32}  {r : Hp} (hf : f_X12_wears  h a0 a1 a2 = some r) : Ev 5 yX12_wears cX12_wears 5 none [.ref a0, .int a1, .int a2] n h none n r := by
  refine Ev_of RX12 rfl (by decide) (Nat.le_of_ble_eq_true rfl) (Nat.le_refl _) (Or.inl rfl) (fun Z hZ hF hN hI => ?_)
  have H : Ok (f_X12_wears  h a0 a1 a2) (fun y => y = r) := ⟨_, hf, rfl⟩
  unfold f_X12_wears at H
  refine r_ls (ls' := [(0, .ref a0), (1, .int a1), (2, .int a2)]) rfl ?_
  refine r_iconst (v := (J 0)) hZ dX12_wears_0 (by decide) ?_
  obtain ⟨x1, ex1, H⟩ := ok_bind H
  refine r_topi ex1 ?_
  refine r_istore_n hZ dX12_wears_1 (by decide) (r_pick [0, 1, 2, 3] (ls' := [(0, .ref a0), (1, .int a1), (2, .int a2), (3, .int x1)]) rfl ?_)
  have H := ok_bindK H
  refine r_pick [0, 1, 2, 3] (ls' := [(0, .ref a0), (1, .int a1), (2, .int a2), (3, .int x1)]) rfl (l_X12_wears_2 hZ (fun e2 H => ?_) FU _ H)
  · have H := ok_some H
    subst H
    exact r_ret hZ hF dX12_wears_56
def b_X12_wear_37 (p0 : Nat) (p1 : Int32) (p2 : Int32) (p3 : Int32) (s : Int32 × Hp) : Option ((Int32 × Hp) ⊕ ((Hp))) :=
  (if p3 ≤ s.1 then
    some (.inr (s.2))
  else
    (isO s.2 p0 11).bind fun u1 =>
    (f_X12_wears s.2 p0 p1 p2).bind fun r2 =>
    (some (s.1 + (J 1))).bind fun x3 =>
    some (.inl (x3, r2)))
set_option maxRecDepth 100000 in
set_option maxHeartbeats 4000000 in
theorem l_X12_wear_37 {Z : Zc} (hZ : Fx cX12_wear RX12 5 8 0 Z) {n : Nat} {p0 : Nat} {p1 : Int32} {p2 : Int32} {p3 : Int32} {P : ((Hp)) → Prop} (hx0 : ∀ e : Hp, P (e) → R Z 55 [(0, .ref p0), (1, .int p1)] [] n e 0) : ∀ (m : Nat) (s : Int32 × Hp), Ok (iter (b_X12_wear_37 p0 p1 p2 p3) m s) P → R Z 37 [(0, .ref p0), (1, .int p1), (2, .int p2), (3, .int p3), (4, .int s.1)] [] n s.2 0 := by
  intro m
  induction m with
  | zero => exact fun s H => ok_iter0 H
  | succ m ih =>
    intro s H
    have H := ok_iter H
    unfold b_X12_wear_37 at H
    refine r_iload hZ dX12_wear_37 rfl ?_
    refine r_iload_n hZ dX12_wear_39 rfl ?_
    refine r_icmp_ge (tgt := 55) hZ dX12_wear_40 (by decide) (fun c4 => ?_) (fun c4 => ?_)
    · have H := ok_t H c4
      exact r_pick [0, 1] (ls' := [(0, .ref p0), (1, .int p1)]) rfl (hx0 _ (ki_r H))
    · have H := ok_f H c4
      refine r_aload_n hZ dX12_wear_43 rfl ?_
      refine r_iload_n hZ dX12_wear_44 rfl ?_
      refine r_iload_n hZ dX12_wear_45 rfl ?_
      obtain ⟨u1, eu1, H⟩ := ok_bind H
      obtain ⟨r2, er2, H⟩ := ok_bind H
      refine r_callV (As := [.int p1, .int p2]) (rest := []) (st1 := []) (N2 := 0) hZ dX12_wear_46 cw_X12_255_X12 rfl eu1 (s_X12_wears er2) rfl rfl (by decide) (Nat.le_of_ble_eq_true rfl) (Nat.le_refl 0) (Nat.le_refl _) (Or.inl rfl) rfl ?_
      obtain ⟨x3, ex3, H⟩ := ok_bind H
      refine r_iincE (w := (J 1)) hZ dX12_wear_49 (by decide) rfl (by decide) ex3 (r_pick [0, 1, 2, 3, 4] (ls' := [(0, .ref p0), (1, .int p1), (2, .int p2), (3, .int p3), (4, .int x3)]) rfl ?_)
      refine r_goto (tgt := 37) hZ dX12_wear_52 (by decide) ?_
      exact r_pick [0, 1, 2, 3, 4] (ls' := [(0, .ref p0), (1, .int p1), (2, .int p2), (3, .int p3), (4, .int x3)]) rfl (ih _ (ki_l H))
def f_X12_wear  (h : Hp) (a0 : Nat) (a1 : Int32) (a2 : Int32) (a3 : Int32) : Option (Int32 × Hp) :=
  (isO h a0 11).bind fun u1 =>
  (f_X12_isMesh h a0 a1).bind fun r2 =>
  (if r2 = 0 then
    some ((J (-1)), h)
  else
    (f_X12_isIn (a2.toInt64) (K 1) (K 999)).bind fun r3 =>
    (if r3 = 0 then
      some ((J (-1)), h)
    else
      (f_X12_isIn (a3.toInt64) (K 1) (K 100)).bind fun r4 =>
      (if r4 = 0 then
        some ((J (-1)), h)
      else
        (some (J 0)).bind fun x5 =>
        (iter (b_X12_wear_37 a0 a1 a2 a3) FU (x5, h)).bind fun e6 =>
        (isO e6 a0 11).bind fun u7 =>
        (f_X12_evenOf e6 a0 a1).bind fun r8 =>
        some (r8, e6))))
set_option maxRecDepth 100000 in
set_option maxHeartbeats 4000000 in
theorem s_X12_wear {n : Nat} {h : Hp} {a0 : Nat} {a1 : Int32} {a2 : Int32} {a3 : Int32}  {r : Int32 × Hp} (hf : f_X12_wear  h a0 a1 a2 a3 = some r) : Ev 8 yX12_wear cX12_wear 5 (some .int) [.ref a0, .int a1, .int a2, .int a3] n h (some (.int r.1)) n r.2 := by
  refine Ev_of RX12 rfl (by decide) (Nat.le_of_ble_eq_true rfl) (Nat.le_refl _) (Or.inl rfl) (fun Z hZ hF hN hI => ?_)
  have H : Ok (f_X12_wear  h a0 a1 a2 a3) (fun y => y = r) := ⟨_, hf, rfl⟩
  unfold f_X12_wear at H
  refine r_ls (ls' := [(0, .ref a0), (1, .int a1), (2, .int a2), (3, .int a3)]) rfl ?_
  refine r_aload_n hZ dX12_wear_0 rfl ?_
  refine r_iload_n hZ dX12_wear_1 rfl ?_
  obtain ⟨u1, eu1, H⟩ := ok_bind H
  obtain ⟨r2, er2, H⟩ := ok_bind H
  refine r_callV (As := [.int a1]) (rest := []) (st1 := [.int r2]) (N2 := 0) hZ dX12_wear_2 cw_X12_163_X12 rfl eu1 (s_X12_isMesh er2) rfl rfl (by decide) (Nat.le_of_ble_eq_true rfl) (Nat.le_refl 0) (Nat.le_refl _) (Or.inl rfl) rfl ?_
  refine r_if_eq (tgt := 32) hZ dX12_wear_5 (by decide) (fun c11 => ?_) (fun c11 => ?_)
  · have H := ok_t H c11
    refine r_iconst (v := (J (-1))) hZ dX12_wear_32 (by decide) ?_
    have H := ok_some H
    subst H
    exact r_iret hZ hF dX12_wear_33
  · have H := ok_f H c11
    refine r_iload_n hZ dX12_wear_8 rfl ?_
    refine r_i2l hZ dX12_wear_9 ?_
    refine r_lconst (v := (K 1)) hZ dX12_wear_10 (by decide) ?_
    refine r_ldc2 (v := (K 999)) hZ wc_X12_251 dX12_wear_11 ?_
    obtain ⟨r3, er3, H⟩ := ok_bind H
    refine r_callS (As := [.long (a2.toInt64), .long (K 1), .long (K 999)]) (rest := []) (st1 := [.int r3]) (N2 := 0) hZ dX12_wear_14 cw_X12_73 (s_X12_isIn er3) rfl rfl (by decide) (Nat.le_of_ble_eq_true rfl) (Nat.le_refl 0) (Nat.le_refl _) (Or.inl rfl) rfl ?_
    refine r_if_eq (tgt := 32) hZ dX12_wear_17 (by decide) (fun c10 => ?_) (fun c10 => ?_)
    · have H := ok_t H c10
      refine r_iconst (v := (J (-1))) hZ dX12_wear_32 (by decide) ?_
      have H := ok_some H
      subst H
      exact r_iret hZ hF dX12_wear_33
    · have H := ok_f H c10
      refine r_iload_n hZ dX12_wear_20 rfl ?_
      refine r_i2l hZ dX12_wear_21 ?_
      refine r_lconst (v := (K 1)) hZ dX12_wear_22 (by decide) ?_
      refine r_ldc2 (v := (K 100)) hZ wc_X12_253 dX12_wear_23 ?_
      obtain ⟨r4, er4, H⟩ := ok_bind H
      refine r_callS (As := [.long (a3.toInt64), .long (K 1), .long (K 100)]) (rest := []) (st1 := [.int r4]) (N2 := 0) hZ dX12_wear_26 cw_X12_73 (s_X12_isIn er4) rfl rfl (by decide) (Nat.le_of_ble_eq_true rfl) (Nat.le_refl 0) (Nat.le_refl _) (Or.inl rfl) rfl ?_
      refine r_if_ne (tgt := 34) hZ dX12_wear_29 (by decide) (fun c9 => ?_) (fun c9 => ?_)
      · have H := ok_f H c9
        refine r_iconst (v := (J 0)) hZ dX12_wear_34 (by decide) ?_
        obtain ⟨x5, ex5, H⟩ := ok_bind H
        refine r_topi ex5 ?_
        refine r_istore hZ dX12_wear_35 (by decide) (r_pick [0, 1, 2, 3, 4] (ls' := [(0, .ref a0), (1, .int a1), (2, .int a2), (3, .int a3), (4, .int x5)]) rfl ?_)
        have H := ok_bindK H
        refine r_pick [0, 1, 2, 3, 4] (ls' := [(0, .ref a0), (1, .int a1), (2, .int a2), (3, .int a3), (4, .int x5)]) rfl (l_X12_wear_37 hZ (fun e6 H => ?_) FU _ H)
        · refine r_aload_n hZ dX12_wear_55 rfl ?_
          refine r_iload_n hZ dX12_wear_56 rfl ?_
          obtain ⟨u7, eu7, H⟩ := ok_bind H
          obtain ⟨r8, er8, H⟩ := ok_bind H
          refine r_callV (As := [.int a1]) (rest := []) (st1 := [.int r8]) (N2 := 0) hZ dX12_wear_57 cw_X12_243_X12 rfl eu7 (s_X12_evenOf er8) rfl rfl (by decide) (Nat.le_of_ble_eq_true rfl) (Nat.le_refl 0) (Nat.le_refl _) (Or.inl rfl) rfl ?_
          have H := ok_some H
          subst H
          exact r_iret hZ hF dX12_wear_60
      · have H := ok_t H c9
        refine r_iconst (v := (J (-1))) hZ dX12_wear_32 (by decide) ?_
        have H := ok_some H
        subst H
        exact r_iret hZ hF dX12_wear_33
def b_X12_saves_2 (p0 : Nat) (s : Int32 × Hp) : Option ((Int32 × Hp) ⊕ ((Hp))) :=
  (if (J 228) ≤ s.1 then
    some (.inr (s.2))
  else
    (gR s.2 p0 11 3).bind fun x1 =>
    (gR s.2 p0 11 1).bind fun x2 =>
    (aI s.2 x2 s.1).bind fun x3 =>
    (sI s.2 x1 s.1 x3).bind fun h4 =>
    (some (s.1 + (J 1))).bind fun x5 =>
    some (.inl (x5, h4)))
set_option maxRecDepth 100000 in
set_option maxHeartbeats 4000000 in
theorem l_X12_saves_2 {Z : Zc} (hZ : Fx cX12_saves RX12 2 2 0 Z) {n : Nat} {p0 : Nat} {P : ((Hp)) → Prop} (hx0 : ∀ e : Hp, P (e) → R Z 27 [] [] n e 0) : ∀ (m : Nat) (s : Int32 × Hp), Ok (iter (b_X12_saves_2 p0) m s) P → R Z 2 [(0, .ref p0), (1, .int s.1)] [] n s.2 0 := by
  intro m
  induction m with
  | zero => exact fun s H => ok_iter0 H
  | succ m ih =>
    intro s H
    have H := ok_iter H
    unfold b_X12_saves_2 at H
    refine r_iload_n hZ dX12_saves_2 rfl ?_
    refine r_sipush (v := (J 228)) hZ dX12_saves_3 (by decide) ?_
    refine r_icmp_ge (tgt := 27) hZ dX12_saves_6 (by decide) (fun c6 => ?_) (fun c6 => ?_)
    · have H := ok_t H c6
      exact r_pick [] (ls' := []) rfl (hx0 _ (ki_r H))
    · have H := ok_f H c6
      refine r_aload_n hZ dX12_saves_9 rfl ?_
      obtain ⟨x1, ex1, H⟩ := ok_bind H
      refine r_getR hZ fl_X12_19_11 dX12_saves_10 ex1 ?_
      refine r_iload_n hZ dX12_saves_13 rfl ?_
      refine r_aload_n hZ dX12_saves_14 rfl ?_
      obtain ⟨x2, ex2, H⟩ := ok_bind H
      refine r_getR hZ fl_X12_13_11 dX12_saves_15 ex2 ?_
      refine r_iload_n hZ dX12_saves_18 rfl ?_
      obtain ⟨x3, ex3, H⟩ := ok_bind H
      refine r_aI hZ dX12_saves_19 ex3 ?_
      obtain ⟨h4, eh4, H⟩ := ok_bind H
      refine r_sI hZ dX12_saves_20 eh4 ?_
      obtain ⟨x5, ex5, H⟩ := ok_bind H
      refine r_iincE (w := (J 1)) hZ dX12_saves_21 (by decide) rfl (by decide) ex5 (r_pick [0, 1] (ls' := [(0, .ref p0), (1, .int x5)]) rfl ?_)
      refine r_goto (tgt := 2) hZ dX12_saves_24 (by decide) ?_
      exact r_pick [0, 1] (ls' := [(0, .ref p0), (1, .int x5)]) rfl (ih _ (ki_l H))
def f_X12_saves  (h : Hp) (a0 : Nat) : Option (Hp) :=
  (some (J 0)).bind fun x1 =>
  (iter (b_X12_saves_2 a0) FU (x1, h)).bind fun e2 =>
  some e2
set_option maxRecDepth 100000 in
set_option maxHeartbeats 4000000 in
theorem s_X12_saves {n : Nat} {h : Hp} {a0 : Nat}  {r : Hp} (hf : f_X12_saves  h a0 = some r) : Ev 2 yX12_saves cX12_saves 2 none [.ref a0] n h none n r := by
  refine Ev_of RX12 rfl (by decide) (Nat.le_of_ble_eq_true rfl) (Nat.le_refl _) (Or.inl rfl) (fun Z hZ hF hN hI => ?_)
  have H : Ok (f_X12_saves  h a0) (fun y => y = r) := ⟨_, hf, rfl⟩
  unfold f_X12_saves at H
  refine r_ls (ls' := [(0, .ref a0)]) rfl ?_
  refine r_iconst (v := (J 0)) hZ dX12_saves_0 (by decide) ?_
  obtain ⟨x1, ex1, H⟩ := ok_bind H
  refine r_topi ex1 ?_
  refine r_istore_n hZ dX12_saves_1 (by decide) (r_pick [0, 1] (ls' := [(0, .ref a0), (1, .int x1)]) rfl ?_)
  have H := ok_bindK H
  refine r_pick [0, 1] (ls' := [(0, .ref a0), (1, .int x1)]) rfl (l_X12_saves_2 hZ (fun e2 H => ?_) FU _ H)
  · have H := ok_some H
    subst H
    exact r_ret hZ hF dX12_saves_27
def b_X12_back_2 (p0 : Nat) (s : Int32 × Hp) : Option ((Int32 × Hp) ⊕ ((Hp))) :=
  (if (J 228) ≤ s.1 then
    some (.inr (s.2))
  else
    (gR s.2 p0 11 1).bind fun x1 =>
    (gR s.2 p0 11 3).bind fun x2 =>
    (aI s.2 x2 s.1).bind fun x3 =>
    (sI s.2 x1 s.1 x3).bind fun h4 =>
    (some (s.1 + (J 1))).bind fun x5 =>
    some (.inl (x5, h4)))
set_option maxRecDepth 100000 in
set_option maxHeartbeats 4000000 in
theorem l_X12_back_2 {Z : Zc} (hZ : Fx cX12_back RX12 2 2 0 Z) {n : Nat} {p0 : Nat} {P : ((Hp)) → Prop} (hx0 : ∀ e : Hp, P (e) → R Z 27 [] [] n e 0) : ∀ (m : Nat) (s : Int32 × Hp), Ok (iter (b_X12_back_2 p0) m s) P → R Z 2 [(0, .ref p0), (1, .int s.1)] [] n s.2 0 := by
  intro m
  induction m with
  | zero => exact fun s H => ok_iter0 H
  | succ m ih =>
    intro s H
    have H := ok_iter H
    unfold b_X12_back_2 at H
    refine r_iload_n hZ dX12_back_2 rfl ?_
    refine r_sipush (v := (J 228)) hZ dX12_back_3 (by decide) ?_
    refine r_icmp_ge (tgt := 27) hZ dX12_back_6 (by decide) (fun c6 => ?_) (fun c6 => ?_)
    · have H := ok_t H c6
      exact r_pick [] (ls' := []) rfl (hx0 _ (ki_r H))
    · have H := ok_f H c6
      refine r_aload_n hZ dX12_back_9 rfl ?_
      obtain ⟨x1, ex1, H⟩ := ok_bind H
      refine r_getR hZ fl_X12_13_11 dX12_back_10 ex1 ?_
      refine r_iload_n hZ dX12_back_13 rfl ?_
      refine r_aload_n hZ dX12_back_14 rfl ?_
      obtain ⟨x2, ex2, H⟩ := ok_bind H
      refine r_getR hZ fl_X12_19_11 dX12_back_15 ex2 ?_
      refine r_iload_n hZ dX12_back_18 rfl ?_
      obtain ⟨x3, ex3, H⟩ := ok_bind H
      refine r_aI hZ dX12_back_19 ex3 ?_
      obtain ⟨h4, eh4, H⟩ := ok_bind H
      refine r_sI hZ dX12_back_20 eh4 ?_
      obtain ⟨x5, ex5, H⟩ := ok_bind H
      refine r_iincE (w := (J 1)) hZ dX12_back_21 (by decide) rfl (by decide) ex5 (r_pick [0, 1] (ls' := [(0, .ref p0), (1, .int x5)]) rfl ?_)
      refine r_goto (tgt := 2) hZ dX12_back_24 (by decide) ?_
      exact r_pick [0, 1] (ls' := [(0, .ref p0), (1, .int x5)]) rfl (ih _ (ki_l H))
def f_X12_back  (h : Hp) (a0 : Nat) : Option (Hp) :=
  (some (J 0)).bind fun x1 =>
  (iter (b_X12_back_2 a0) FU (x1, h)).bind fun e2 =>
  some e2
set_option maxRecDepth 100000 in
set_option maxHeartbeats 4000000 in
theorem s_X12_back {n : Nat} {h : Hp} {a0 : Nat}  {r : Hp} (hf : f_X12_back  h a0 = some r) : Ev 2 yX12_back cX12_back 2 none [.ref a0] n h none n r := by
  refine Ev_of RX12 rfl (by decide) (Nat.le_of_ble_eq_true rfl) (Nat.le_refl _) (Or.inl rfl) (fun Z hZ hF hN hI => ?_)
  have H : Ok (f_X12_back  h a0) (fun y => y = r) := ⟨_, hf, rfl⟩
  unfold f_X12_back at H
  refine r_ls (ls' := [(0, .ref a0)]) rfl ?_
  refine r_iconst (v := (J 0)) hZ dX12_back_0 (by decide) ?_
  obtain ⟨x1, ex1, H⟩ := ok_bind H
  refine r_topi ex1 ?_
  refine r_istore_n hZ dX12_back_1 (by decide) (r_pick [0, 1] (ls' := [(0, .ref a0), (1, .int x1)]) rfl ?_)
  have H := ok_bindK H
  refine r_pick [0, 1] (ls' := [(0, .ref a0), (1, .int x1)]) rfl (l_X12_back_2 hZ (fun e2 H => ?_) FU _ H)
  · have H := ok_some H
    subst H
    exact r_ret hZ hF dX12_back_27
def b_X12_until_45 (p0 : Nat) (p1 : Int32) (p2 : Int32) (p3 : Int32) (s : Int32 × Int32 × Hp) : Option ((Int32 × Int32 × Hp) ⊕ ((Int32 × Hp))) :=
  (if (J 200) < s.2.1 then
    some (.inr ((s.1, s.2.2)))
  else
    (if 0 ≤ s.1 then
      some (.inr ((s.1, s.2.2)))
    else
      (isO s.2.2 p0 11).bind fun u1 =>
      (f_X12_wears s.2.2 p0 p1 p2).bind fun r2 =>
      (isO r2 p0 11).bind fun u3 =>
      (f_X12_evenOf r2 p0 p1).bind fun r4 =>
      ((if r4 < p3 then
        some (J (-4))
      else
        some s.2.1)).bind fun (j5 : Int32) =>
      (some (s.2.1 + (J 1))).bind fun x7 =>
      some (.inl (j5, x7, r2))))
set_option maxRecDepth 100000 in
set_option maxHeartbeats 4000000 in
theorem l_X12_until_45 {Z : Zc} (hZ : Fx cX12_until RX12 6 8 0 Z) {n : Nat} {p0 : Nat} {p1 : Int32} {p2 : Int32} {p3 : Int32} {P : ((Int32 × Hp)) → Prop} (hx0 : ∀ e : Int32 × Hp, P (e) → R Z 88 [(0, .ref p0), (4, .int e.1)] [] n e.2 0) : ∀ (m : Nat) (s : Int32 × Int32 × Hp), Ok (iter (b_X12_until_45 p0 p1 p2 p3) m s) P → R Z 45 [(0, .ref p0), (1, .int p1), (2, .int p2), (3, .int p3), (4, .int s.1), (5, .int s.2.1)] [] n s.2.2 0 := by
  intro m
  induction m with
  | zero => exact fun s H => ok_iter0 H
  | succ m ih =>
    intro s H
    have H := ok_iter H
    unfold b_X12_until_45 at H
    refine r_iload hZ dX12_until_45 rfl ?_
    refine r_sipush (v := (J 200)) hZ dX12_until_47 (by decide) ?_
    refine r_icmp_gt (tgt := 88) hZ dX12_until_50 (by decide) (fun c9 => ?_) (fun c9 => ?_)
    · have H := ok_t H c9
      exact r_pick [0, 4] (ls' := [(0, .ref p0), (4, .int s.1)]) rfl (hx0 _ (ki_r H))
    · have H := ok_f H c9
      refine r_iload hZ dX12_until_53 rfl ?_
      refine r_if_ge (tgt := 88) hZ dX12_until_55 (by decide) (fun c8 => ?_) (fun c8 => ?_)
      · have H := ok_t H c8
        exact r_pick [0, 4] (ls' := [(0, .ref p0), (4, .int s.1)]) rfl (hx0 _ (ki_r H))
      · have H := ok_f H c8
        refine r_aload_n hZ dX12_until_58 rfl ?_
        refine r_iload_n hZ dX12_until_59 rfl ?_
        refine r_iload_n hZ dX12_until_60 rfl ?_
        obtain ⟨u1, eu1, H⟩ := ok_bind H
        obtain ⟨r2, er2, H⟩ := ok_bind H
        refine r_callV (As := [.int p1, .int p2]) (rest := []) (st1 := []) (N2 := 0) hZ dX12_until_61 cw_X12_255_X12 rfl eu1 (s_X12_wears er2) rfl rfl (by decide) (Nat.le_of_ble_eq_true rfl) (Nat.le_refl 0) (Nat.le_refl _) (Or.inl rfl) rfl ?_
        refine r_aload_n hZ dX12_until_64 rfl ?_
        refine r_iload_n hZ dX12_until_65 rfl ?_
        obtain ⟨u3, eu3, H⟩ := ok_bind H
        obtain ⟨r4, er4, H⟩ := ok_bind H
        refine r_callV (As := [.int p1]) (rest := []) (st1 := [.int r4]) (N2 := 0) hZ dX12_until_66 cw_X12_243_X12 rfl eu3 (s_X12_evenOf er4) rfl rfl (by decide) (Nat.le_of_ble_eq_true rfl) (Nat.le_refl 0) (Nat.le_refl _) (Or.inl rfl) rfl ?_
        refine r_iload_n hZ dX12_until_69 rfl ?_
        refine ok_join (Q := fun j5 : Int32 => R Z 80 [(0, .ref p0), (1, .int p1), (2, .int p2), (3, .int p3), (5, .int s.2.1)] [.int j5] n r2 0) H (fun j5 H => ?_) (fun H => ?_)
        · refine r_istore hZ dX12_until_80 (by decide) (r_pick [0, 1, 2, 3, 4, 5] (ls' := [(0, .ref p0), (1, .int p1), (2, .int p2), (3, .int p3), (4, .int j5), (5, .int s.2.1)]) rfl ?_)
          obtain ⟨x7, ex7, H⟩ := ok_bind H
          refine r_iincE (w := (J 1)) hZ dX12_until_82 (by decide) rfl (by decide) ex7 (r_pick [0, 1, 2, 3, 4, 5] (ls' := [(0, .ref p0), (1, .int p1), (2, .int p2), (3, .int p3), (4, .int j5), (5, .int x7)]) rfl ?_)
          refine r_goto (tgt := 45) hZ dX12_until_85 (by decide) ?_
          exact r_pick [0, 1, 2, 3, 4, 5] (ls' := [(0, .ref p0), (1, .int p1), (2, .int p2), (3, .int p3), (4, .int j5), (5, .int x7)]) rfl (ih _ (ki_l H))
        · refine r_icmp_lt (tgt := 78) hZ dX12_until_70 (by decide) (fun c6 => ?_) (fun c6 => ?_)
          · have H := ok_t H c6
            refine r_bipush (v := (J (-4))) hZ dX12_until_78 (by decide) ?_
            have H := ok_some H
            exact r_pick [0, 1, 2, 3, 5] (ls' := [(0, .ref p0), (1, .int p1), (2, .int p2), (3, .int p3), (5, .int s.2.1)]) rfl H
          · have H := ok_f H c6
            refine r_iload hZ dX12_until_73 rfl ?_
            refine r_goto (tgt := 80) hZ dX12_until_75 (by decide) ?_
            have H := ok_some H
            exact r_pick [0, 1, 2, 3, 5] (ls' := [(0, .ref p0), (1, .int p1), (2, .int p2), (3, .int p3), (5, .int s.2.1)]) rfl H
def f_X12_until  (h : Hp) (a0 : Nat) (a1 : Int32) (a2 : Int32) (a3 : Int32) : Option (Int32 × Hp) :=
  (isO h a0 11).bind fun u1 =>
  (f_X12_isMesh h a0 a1).bind fun r2 =>
  (if r2 = 0 then
    some ((J (-1)), h)
  else
    (f_X12_isIn (a2.toInt64) (K 1) (K 999)).bind fun r3 =>
    (if r3 = 0 then
      some ((J (-1)), h)
    else
      (f_X12_isIn (a3.toInt64) (K 1) (K 62)).bind fun r4 =>
      (if r4 = 0 then
        some ((J (-1)), h)
      else
        (isO h a0 11).bind fun u5 =>
        (f_X12_saves h a0).bind fun r6 =>
        (some (J (-4))).bind fun x7 =>
        (some (J 1)).bind fun x8 =>
        (iter (b_X12_until_45 a0 a1 a2 a3) FU (x7, x8, r6)).bind fun e9 =>
        (isO e9.2 a0 11).bind fun u10 =>
        (f_X12_back e9.2 a0).bind fun r11 =>
        some (e9.1, r11))))
set_option maxRecDepth 100000 in
set_option maxHeartbeats 4000000 in
theorem s_X12_until {n : Nat} {h : Hp} {a0 : Nat} {a1 : Int32} {a2 : Int32} {a3 : Int32}  {r : Int32 × Hp} (hf : f_X12_until  h a0 a1 a2 a3 = some r) : Ev 8 yX12_until cX12_until 6 (some .int) [.ref a0, .int a1, .int a2, .int a3] n h (some (.int r.1)) n r.2 := by
  refine Ev_of RX12 rfl (by decide) (Nat.le_of_ble_eq_true rfl) (Nat.le_refl _) (Or.inl rfl) (fun Z hZ hF hN hI => ?_)
  have H : Ok (f_X12_until  h a0 a1 a2 a3) (fun y => y = r) := ⟨_, hf, rfl⟩
  unfold f_X12_until at H
  refine r_ls (ls' := [(0, .ref a0), (1, .int a1), (2, .int a2), (3, .int a3)]) rfl ?_
  refine r_aload_n hZ dX12_until_0 rfl ?_
  refine r_iload_n hZ dX12_until_1 rfl ?_
  obtain ⟨u1, eu1, H⟩ := ok_bind H
  obtain ⟨r2, er2, H⟩ := ok_bind H
  refine r_callV (As := [.int a1]) (rest := []) (st1 := [.int r2]) (N2 := 0) hZ dX12_until_2 cw_X12_163_X12 rfl eu1 (s_X12_isMesh er2) rfl rfl (by decide) (Nat.le_of_ble_eq_true rfl) (Nat.le_refl 0) (Nat.le_refl _) (Or.inl rfl) rfl ?_
  refine r_if_eq (tgt := 32) hZ dX12_until_5 (by decide) (fun c14 => ?_) (fun c14 => ?_)
  · have H := ok_t H c14
    refine r_iconst (v := (J (-1))) hZ dX12_until_32 (by decide) ?_
    have H := ok_some H
    subst H
    exact r_iret hZ hF dX12_until_33
  · have H := ok_f H c14
    refine r_iload_n hZ dX12_until_8 rfl ?_
    refine r_i2l hZ dX12_until_9 ?_
    refine r_lconst (v := (K 1)) hZ dX12_until_10 (by decide) ?_
    refine r_ldc2 (v := (K 999)) hZ wc_X12_251 dX12_until_11 ?_
    obtain ⟨r3, er3, H⟩ := ok_bind H
    refine r_callS (As := [.long (a2.toInt64), .long (K 1), .long (K 999)]) (rest := []) (st1 := [.int r3]) (N2 := 0) hZ dX12_until_14 cw_X12_73 (s_X12_isIn er3) rfl rfl (by decide) (Nat.le_of_ble_eq_true rfl) (Nat.le_refl 0) (Nat.le_refl _) (Or.inl rfl) rfl ?_
    refine r_if_eq (tgt := 32) hZ dX12_until_17 (by decide) (fun c13 => ?_) (fun c13 => ?_)
    · have H := ok_t H c13
      refine r_iconst (v := (J (-1))) hZ dX12_until_32 (by decide) ?_
      have H := ok_some H
      subst H
      exact r_iret hZ hF dX12_until_33
    · have H := ok_f H c13
      refine r_iload_n hZ dX12_until_20 rfl ?_
      refine r_i2l hZ dX12_until_21 ?_
      refine r_lconst (v := (K 1)) hZ dX12_until_22 (by decide) ?_
      refine r_ldc2 (v := (K 62)) hZ wc_X12_246 dX12_until_23 ?_
      obtain ⟨r4, er4, H⟩ := ok_bind H
      refine r_callS (As := [.long (a3.toInt64), .long (K 1), .long (K 62)]) (rest := []) (st1 := [.int r4]) (N2 := 0) hZ dX12_until_26 cw_X12_73 (s_X12_isIn er4) rfl rfl (by decide) (Nat.le_of_ble_eq_true rfl) (Nat.le_refl 0) (Nat.le_refl _) (Or.inl rfl) rfl ?_
      refine r_if_ne (tgt := 34) hZ dX12_until_29 (by decide) (fun c12 => ?_) (fun c12 => ?_)
      · have H := ok_f H c12
        refine r_aload_n hZ dX12_until_34 rfl ?_
        obtain ⟨u5, eu5, H⟩ := ok_bind H
        obtain ⟨r6, er6, H⟩ := ok_bind H
        refine r_callV (As := []) (rest := []) (st1 := []) (N2 := 0) hZ dX12_until_35 cw_X12_259_X12 rfl eu5 (s_X12_saves er6) rfl rfl (by decide) (Nat.le_of_ble_eq_true rfl) (Nat.le_refl 0) (Nat.le_refl _) (Or.inl rfl) rfl ?_
        refine r_bipush (v := (J (-4))) hZ dX12_until_38 (by decide) ?_
        obtain ⟨x7, ex7, H⟩ := ok_bind H
        refine r_topi ex7 ?_
        refine r_istore hZ dX12_until_40 (by decide) (r_pick [0, 1, 2, 3, 4] (ls' := [(0, .ref a0), (1, .int a1), (2, .int a2), (3, .int a3), (4, .int x7)]) rfl ?_)
        refine r_iconst (v := (J 1)) hZ dX12_until_42 (by decide) ?_
        obtain ⟨x8, ex8, H⟩ := ok_bind H
        refine r_topi ex8 ?_
        refine r_istore hZ dX12_until_43 (by decide) (r_pick [0, 1, 2, 3, 4, 5] (ls' := [(0, .ref a0), (1, .int a1), (2, .int a2), (3, .int a3), (4, .int x7), (5, .int x8)]) rfl ?_)
        have H := ok_bindK H
        refine r_pick [0, 1, 2, 3, 4, 5] (ls' := [(0, .ref a0), (1, .int a1), (2, .int a2), (3, .int a3), (4, .int x7), (5, .int x8)]) rfl (l_X12_until_45 hZ (fun e9 H => ?_) FU _ H)
        · refine r_aload_n hZ dX12_until_88 rfl ?_
          obtain ⟨u10, eu10, H⟩ := ok_bind H
          obtain ⟨r11, er11, H⟩ := ok_bind H
          refine r_callV (As := []) (rest := []) (st1 := []) (N2 := 0) hZ dX12_until_89 cw_X12_262_X12 rfl eu10 (s_X12_back er11) rfl rfl (by decide) (Nat.le_of_ble_eq_true rfl) (Nat.le_refl 0) (Nat.le_refl _) (Or.inl rfl) rfl ?_
          refine r_iload hZ dX12_until_92 rfl ?_
          have H := ok_some H
          subst H
          exact r_iret hZ hF dX12_until_94
      · have H := ok_t H c12
        refine r_iconst (v := (J (-1))) hZ dX12_until_32 (by decide) ?_
        have H := ok_some H
        subst H
        exact r_iret hZ hF dX12_until_33
def b_X12_loudOf_8 (h : Hp) (p0 : Nat) (p1 : Int32) (p2 : Int32) (s : Int64 × Int64 × Int32) : Option ((Int64 × Int64 × Int32) ⊕ ((Int64 × Int64))) :=
  (if (J 16) ≤ s.2.2 then
    some (.inr ((s.1, s.2.1)))
  else
    (isO h p0 11).bind fun u1 =>
    (f_X12_offOf h p0 p1 s.2.2).bind fun r2 =>
    (some (r2.toInt64)).bind fun x3 =>
    (gR h p0 11 0).bind fun x4 =>
    (nz (J 16)).bind fun u5 =>
    (aI h x4 ((p2 * s.2.2) - (p2 * s.2.2) / (J 16) * (J 16))).bind fun x6 =>
    (some (s.1 + (x3 * (x6.toInt64)))).bind fun x7 =>
    (gR h p0 11 0).bind fun x8 =>
    (nz (J 16)).bind fun u9 =>
    (aI h x8 (((p2 * s.2.2) + (J 12)) - ((p2 * s.2.2) + (J 12)) / (J 16) * (J 16))).bind fun x10 =>
    (some (s.2.1 + (x3 * (x10.toInt64)))).bind fun x11 =>
    (some (s.2.2 + (J 1))).bind fun x12 =>
    some (.inl (x7, x11, x12)))
set_option maxRecDepth 100000 in
set_option maxHeartbeats 4000000 in
theorem l_X12_loudOf_8 {Z : Zc} (hZ : Fx cX12_loudOf RX12 10 6 0 Z) {n : Nat} {h : Hp} {p0 : Nat} {p1 : Int32} {p2 : Int32} {P : ((Int64 × Int64)) → Prop} (hx0 : ∀ e : Int64 × Int64, P (e) → R Z 74 [(3, .long e.1), (5, .long e.2)] [] n h 0) : ∀ (m : Nat) (s : Int64 × Int64 × Int32), Ok (iter (b_X12_loudOf_8 h p0 p1 p2) m s) P → R Z 8 [(0, .ref p0), (1, .int p1), (2, .int p2), (3, .long s.1), (5, .long s.2.1), (7, .int s.2.2)] [] n h 0 := by
  intro m
  induction m with
  | zero => exact fun s H => ok_iter0 H
  | succ m ih =>
    intro s H
    have H := ok_iter H
    unfold b_X12_loudOf_8 at H
    refine r_iload hZ dX12_loudOf_8 rfl ?_
    refine r_bipush (v := (J 16)) hZ dX12_loudOf_10 (by decide) ?_
    refine r_icmp_ge (tgt := 74) hZ dX12_loudOf_12 (by decide) (fun c13 => ?_) (fun c13 => ?_)
    · have H := ok_t H c13
      exact r_pick [3, 5] (ls' := [(3, .long s.1), (5, .long s.2.1)]) rfl (hx0 _ (ki_r H))
    · have H := ok_f H c13
      refine r_aload_n hZ dX12_loudOf_15 rfl ?_
      refine r_iload_n hZ dX12_loudOf_16 rfl ?_
      refine r_iload hZ dX12_loudOf_17 rfl ?_
      obtain ⟨u1, eu1, H⟩ := ok_bind H
      obtain ⟨r2, er2, H⟩ := ok_bind H
      refine r_callV (As := [.int p1, .int s.2.2]) (rest := []) (st1 := [.int r2]) (N2 := 0) hZ dX12_loudOf_19 cw_X12_233_X12 rfl eu1 (s_X12_offOf er2) rfl rfl (by decide) (Nat.le_of_ble_eq_true rfl) (Nat.le_refl 0) (Nat.le_refl _) (Or.inl rfl) rfl ?_
      refine r_i2l hZ dX12_loudOf_22 ?_
      obtain ⟨x3, ex3, H⟩ := ok_bind H
      refine r_topl ex3 ?_
      refine r_lstore hZ dX12_loudOf_23 (by decide) (r_pick [0, 1, 2, 3, 5, 7, 8] (ls' := [(0, .ref p0), (1, .int p1), (2, .int p2), (3, .long s.1), (5, .long s.2.1), (7, .int s.2.2), (8, .long x3)]) rfl ?_)
      refine r_lload_n hZ dX12_loudOf_25 rfl ?_
      refine r_lload hZ dX12_loudOf_26 rfl ?_
      refine r_aload_n hZ dX12_loudOf_28 rfl ?_
      obtain ⟨x4, ex4, H⟩ := ok_bind H
      refine r_getR hZ fl_X12_7_11 dX12_loudOf_29 ex4 ?_
      refine r_iload_n hZ dX12_loudOf_32 rfl ?_
      refine r_iload hZ dX12_loudOf_33 rfl ?_
      refine r_imul hZ dX12_loudOf_35 ?_
      refine r_bipush (v := (J 16)) hZ dX12_loudOf_36 (by decide) ?_
      obtain ⟨u5, eu5, H⟩ := ok_bind H
      refine r_irem hZ dX12_loudOf_38 (nz_ne eu5) ?_
      obtain ⟨x6, ex6, H⟩ := ok_bind H
      refine r_aI hZ dX12_loudOf_39 ex6 ?_
      refine r_i2l hZ dX12_loudOf_40 ?_
      refine r_lmul hZ dX12_loudOf_41 ?_
      refine r_ladd hZ dX12_loudOf_42 ?_
      obtain ⟨x7, ex7, H⟩ := ok_bind H
      refine r_topl ex7 ?_
      refine r_lstore_n hZ dX12_loudOf_43 (by decide) (r_pick [0, 1, 2, 3, 5, 7, 8] (ls' := [(0, .ref p0), (1, .int p1), (2, .int p2), (3, .long x7), (5, .long s.2.1), (7, .int s.2.2), (8, .long x3)]) rfl ?_)
      refine r_lload hZ dX12_loudOf_44 rfl ?_
      refine r_lload hZ dX12_loudOf_46 rfl ?_
      refine r_aload_n hZ dX12_loudOf_48 rfl ?_
      obtain ⟨x8, ex8, H⟩ := ok_bind H
      refine r_getR hZ fl_X12_7_11 dX12_loudOf_49 ex8 ?_
      refine r_iload_n hZ dX12_loudOf_52 rfl ?_
      refine r_iload hZ dX12_loudOf_53 rfl ?_
      refine r_imul hZ dX12_loudOf_55 ?_
      refine r_bipush (v := (J 12)) hZ dX12_loudOf_56 (by decide) ?_
      refine r_iadd hZ dX12_loudOf_58 ?_
      refine r_bipush (v := (J 16)) hZ dX12_loudOf_59 (by decide) ?_
      obtain ⟨u9, eu9, H⟩ := ok_bind H
      refine r_irem hZ dX12_loudOf_61 (nz_ne eu9) ?_
      obtain ⟨x10, ex10, H⟩ := ok_bind H
      refine r_aI hZ dX12_loudOf_62 ex10 ?_
      refine r_i2l hZ dX12_loudOf_63 ?_
      refine r_lmul hZ dX12_loudOf_64 ?_
      refine r_ladd hZ dX12_loudOf_65 ?_
      obtain ⟨x11, ex11, H⟩ := ok_bind H
      refine r_topl ex11 ?_
      refine r_lstore hZ dX12_loudOf_66 (by decide) (r_pick [0, 1, 2, 3, 5, 7] (ls' := [(0, .ref p0), (1, .int p1), (2, .int p2), (3, .long x7), (5, .long x11), (7, .int s.2.2)]) rfl ?_)
      obtain ⟨x12, ex12, H⟩ := ok_bind H
      refine r_iincE (w := (J 1)) hZ dX12_loudOf_68 (by decide) rfl (by decide) ex12 (r_pick [0, 1, 2, 3, 5, 7] (ls' := [(0, .ref p0), (1, .int p1), (2, .int p2), (3, .long x7), (5, .long x11), (7, .int x12)]) rfl ?_)
      refine r_goto (tgt := 8) hZ dX12_loudOf_71 (by decide) ?_
      exact r_pick [0, 1, 2, 3, 5, 7] (ls' := [(0, .ref p0), (1, .int p1), (2, .int p2), (3, .long x7), (5, .long x11), (7, .int x12)]) rfl (ih _ (ki_l H))
def f_X12_loudOf  (h : Hp) (a0 : Nat) (a1 : Int32) (a2 : Int32) : Option (Int64) :=
  (some (K 0)).bind fun x1 =>
  (some (K 0)).bind fun x2 =>
  (some (J 0)).bind fun x3 =>
  (iter (b_X12_loudOf_8 h a0 a1 a2) FU (x1, x2, x3)).bind fun e4 =>
  (nzL (K 1000000)).bind fun u5 =>
  some (((e4.1 * e4.1) + (e4.2 * e4.2)) / (K 1000000))
set_option maxRecDepth 100000 in
set_option maxHeartbeats 4000000 in
theorem s_X12_loudOf {n : Nat} {h : Hp} {a0 : Nat} {a1 : Int32} {a2 : Int32}  {r : Int64} (hf : f_X12_loudOf  h a0 a1 a2 = some r) : Ev 6 yX12_loudOf cX12_loudOf 10 (some .long) [.ref a0, .int a1, .int a2] n h (some (.long r)) n h := by
  refine Ev_of RX12 rfl (by decide) (Nat.le_of_ble_eq_true rfl) (Nat.le_refl _) (Or.inl rfl) (fun Z hZ hF hN hI => ?_)
  have H : Ok (f_X12_loudOf  h a0 a1 a2) (fun y => y = r) := ⟨_, hf, rfl⟩
  unfold f_X12_loudOf at H
  refine r_ls (ls' := [(0, .ref a0), (1, .int a1), (2, .int a2)]) rfl ?_
  refine r_lconst (v := (K 0)) hZ dX12_loudOf_0 (by decide) ?_
  obtain ⟨x1, ex1, H⟩ := ok_bind H
  refine r_topl ex1 ?_
  refine r_lstore_n hZ dX12_loudOf_1 (by decide) (r_pick [0, 1, 2, 3] (ls' := [(0, .ref a0), (1, .int a1), (2, .int a2), (3, .long x1)]) rfl ?_)
  refine r_lconst (v := (K 0)) hZ dX12_loudOf_2 (by decide) ?_
  obtain ⟨x2, ex2, H⟩ := ok_bind H
  refine r_topl ex2 ?_
  refine r_lstore hZ dX12_loudOf_3 (by decide) (r_pick [0, 1, 2, 3, 5] (ls' := [(0, .ref a0), (1, .int a1), (2, .int a2), (3, .long x1), (5, .long x2)]) rfl ?_)
  refine r_iconst (v := (J 0)) hZ dX12_loudOf_5 (by decide) ?_
  obtain ⟨x3, ex3, H⟩ := ok_bind H
  refine r_topi ex3 ?_
  refine r_istore hZ dX12_loudOf_6 (by decide) (r_pick [0, 1, 2, 3, 5, 7] (ls' := [(0, .ref a0), (1, .int a1), (2, .int a2), (3, .long x1), (5, .long x2), (7, .int x3)]) rfl ?_)
  have H := ok_bindK H
  refine r_pick [0, 1, 2, 3, 5, 7] (ls' := [(0, .ref a0), (1, .int a1), (2, .int a2), (3, .long x1), (5, .long x2), (7, .int x3)]) rfl (l_X12_loudOf_8 hZ (fun e4 H => ?_) FU _ H)
  · refine r_lload_n hZ dX12_loudOf_74 rfl ?_
    refine r_lload_n hZ dX12_loudOf_75 rfl ?_
    refine r_lmul hZ dX12_loudOf_76 ?_
    refine r_lload hZ dX12_loudOf_77 rfl ?_
    refine r_lload hZ dX12_loudOf_79 rfl ?_
    refine r_lmul hZ dX12_loudOf_81 ?_
    refine r_ladd hZ dX12_loudOf_82 ?_
    refine r_ldc2 (v := (K 1000000)) hZ wc_X12_265 dX12_loudOf_83 ?_
    obtain ⟨u5, eu5, H⟩ := ok_bind H
    refine r_ldiv hZ dX12_loudOf_86 (nzL_ne eu5) ?_
    have H := ok_some H
    subst H
    exact r_lret hZ hF dX12_loudOf_87
def f_X12_loud  (h : Hp) (a0 : Nat) (a1 : Int32) (a2 : Int32) : Option (Int64) :=
  (isO h a0 11).bind fun u1 =>
  (f_X12_isMesh h a0 a1).bind fun r2 =>
  ((if r2 = 0 then
    some (K (-1))
  else
    (f_X12_isIn (a2.toInt64) (K 0) (K 8)).bind fun r4 =>
    (if r4 = 0 then
      some (K (-1))
    else
      (isO h a0 11).bind fun u5 =>
      (f_X12_loudOf h a0 a1 a2).bind fun r6 =>
      some r6))).bind fun (j3 : Int64) =>
  some j3
set_option maxRecDepth 100000 in
set_option maxHeartbeats 4000000 in
theorem s_X12_loud {n : Nat} {h : Hp} {a0 : Nat} {a1 : Int32} {a2 : Int32}  {r : Int64} (hf : f_X12_loud  h a0 a1 a2 = some r) : Ev 7 yX12_loud cX12_loud 3 (some .long) [.ref a0, .int a1, .int a2] n h (some (.long r)) n h := by
  refine Ev_of RX12 rfl (by decide) (Nat.le_of_ble_eq_true rfl) (Nat.le_refl _) (Or.inl rfl) (fun Z hZ hF hN hI => ?_)
  have H : Ok (f_X12_loud  h a0 a1 a2) (fun y => y = r) := ⟨_, hf, rfl⟩
  unfold f_X12_loud at H
  refine r_ls (ls' := [(0, .ref a0), (1, .int a1), (2, .int a2)]) rfl ?_
  refine r_aload_n hZ dX12_loud_0 rfl ?_
  refine r_iload_n hZ dX12_loud_1 rfl ?_
  obtain ⟨u1, eu1, H⟩ := ok_bind H
  obtain ⟨r2, er2, H⟩ := ok_bind H
  refine r_callV (As := [.int a1]) (rest := []) (st1 := [.int r2]) (N2 := 0) hZ dX12_loud_2 cw_X12_163_X12 rfl eu1 (s_X12_isMesh er2) rfl rfl (by decide) (Nat.le_of_ble_eq_true rfl) (Nat.le_refl 0) (Nat.le_refl _) (Or.inl rfl) rfl ?_
  refine ok_join (Q := fun j3 : Int64 => R Z 32 [] [.long j3] n h 0) H (fun j3 H => ?_) (fun H => ?_)
  · have H := ok_some H
    subst H
    exact r_lret hZ hF dX12_loud_32
  · refine r_if_eq (tgt := 29) hZ dX12_loud_5 (by decide) (fun c8 => ?_) (fun c8 => ?_)
    · have H := ok_t H c8
      refine r_ldc2 (v := (K (-1))) hZ wc_X12_168 dX12_loud_29 ?_
      have H := ok_some H
      exact r_pick [] (ls' := []) rfl H
    · have H := ok_f H c8
      refine r_iload_n hZ dX12_loud_8 rfl ?_
      refine r_i2l hZ dX12_loud_9 ?_
      refine r_lconst (v := (K 0)) hZ dX12_loud_10 (by decide) ?_
      refine r_ldc2 (v := (K 8)) hZ wc_X12_267 dX12_loud_11 ?_
      obtain ⟨r4, er4, H⟩ := ok_bind H
      refine r_callS (As := [.long (a2.toInt64), .long (K 0), .long (K 8)]) (rest := []) (st1 := [.int r4]) (N2 := 0) hZ dX12_loud_14 cw_X12_73 (s_X12_isIn er4) rfl rfl (by decide) (Nat.le_of_ble_eq_true rfl) (Nat.le_refl 0) (Nat.le_refl _) (Or.inl rfl) rfl ?_
      refine r_if_eq (tgt := 29) hZ dX12_loud_17 (by decide) (fun c7 => ?_) (fun c7 => ?_)
      · have H := ok_t H c7
        refine r_ldc2 (v := (K (-1))) hZ wc_X12_168 dX12_loud_29 ?_
        have H := ok_some H
        exact r_pick [] (ls' := []) rfl H
      · have H := ok_f H c7
        refine r_aload_n hZ dX12_loud_20 rfl ?_
        refine r_iload_n hZ dX12_loud_21 rfl ?_
        refine r_iload_n hZ dX12_loud_22 rfl ?_
        obtain ⟨u5, eu5, H⟩ := ok_bind H
        obtain ⟨r6, er6, H⟩ := ok_bind H
        refine r_callV (As := [.int a1, .int a2]) (rest := []) (st1 := [.long r6]) (N2 := 0) hZ dX12_loud_23 cw_X12_269_X12 rfl eu5 (s_X12_loudOf er6) rfl rfl (by decide) (Nat.le_of_ble_eq_true rfl) (Nat.le_refl 0) (Nat.le_refl _) (Or.inl rfl) rfl ?_
        refine r_goto (tgt := 32) hZ dX12_loud_26 (by decide) ?_
        have H := ok_some H
        exact r_pick [] (ls' := []) rfl H
def b_X12_whineOf_4 (h : Hp) (p0 : Nat) (p1 : Int32) (s : Int32 × Int32) : Option ((Int32 × Int32) ⊕ ((Int32))) :=
  (if (J 8) < s.2 then
    some (.inr (s.1))
  else
    (isO h p0 11).bind fun u1 =>
    (f_X12_loudOf h p0 p1 s.2).bind fun r2 =>
    (isO h p0 11).bind fun u3 =>
    (f_X12_loudOf h p0 p1 s.1).bind fun r4 =>
    ((if (lg_cmp r2 r4) ≤ 0 then
      some s.1
    else
      some s.2)).bind fun (j5 : Int32) =>
    (some (s.2 + (J 1))).bind fun x7 =>
    some (.inl (j5, x7)))
set_option maxRecDepth 100000 in
set_option maxHeartbeats 4000000 in
theorem l_X12_whineOf_4 {Z : Zc} (hZ : Fx cX12_whineOf RX12 4 7 0 Z) {n : Nat} {h : Hp} {p0 : Nat} {p1 : Int32} {P : ((Int32)) → Prop} (hx0 : ∀ e : Int32, P (e) → R Z 38 [(2, .int e)] [] n h 0) : ∀ (m : Nat) (s : Int32 × Int32), Ok (iter (b_X12_whineOf_4 h p0 p1) m s) P → R Z 4 [(0, .ref p0), (1, .int p1), (2, .int s.1), (3, .int s.2)] [] n h 0 := by
  intro m
  induction m with
  | zero => exact fun s H => ok_iter0 H
  | succ m ih =>
    intro s H
    have H := ok_iter H
    unfold b_X12_whineOf_4 at H
    refine r_iload_n hZ dX12_whineOf_4 rfl ?_
    refine r_bipush (v := (J 8)) hZ dX12_whineOf_5 (by decide) ?_
    refine r_icmp_gt (tgt := 38) hZ dX12_whineOf_7 (by decide) (fun c8 => ?_) (fun c8 => ?_)
    · have H := ok_t H c8
      exact r_pick [2] (ls' := [(2, .int s.1)]) rfl (hx0 _ (ki_r H))
    · have H := ok_f H c8
      refine r_aload_n hZ dX12_whineOf_10 rfl ?_
      refine r_iload_n hZ dX12_whineOf_11 rfl ?_
      refine r_iload_n hZ dX12_whineOf_12 rfl ?_
      obtain ⟨u1, eu1, H⟩ := ok_bind H
      obtain ⟨r2, er2, H⟩ := ok_bind H
      refine r_callV (As := [.int p1, .int s.2]) (rest := []) (st1 := [.long r2]) (N2 := 0) hZ dX12_whineOf_13 cw_X12_269_X12 rfl eu1 (s_X12_loudOf er2) rfl rfl (by decide) (Nat.le_of_ble_eq_true rfl) (Nat.le_refl 0) (Nat.le_refl _) (Or.inl rfl) rfl ?_
      refine r_aload_n hZ dX12_whineOf_16 rfl ?_
      refine r_iload_n hZ dX12_whineOf_17 rfl ?_
      refine r_iload_n hZ dX12_whineOf_18 rfl ?_
      obtain ⟨u3, eu3, H⟩ := ok_bind H
      obtain ⟨r4, er4, H⟩ := ok_bind H
      refine r_callV (As := [.int p1, .int s.1]) (rest := [.long r2]) (st1 := [.long r4, .long r2]) (N2 := 0) hZ dX12_whineOf_19 cw_X12_269_X12 rfl eu3 (s_X12_loudOf er4) rfl rfl (by decide) (Nat.le_of_ble_eq_true rfl) (Nat.le_refl 0) (Nat.le_refl _) (Or.inl rfl) rfl ?_
      refine r_lcmp hZ dX12_whineOf_22 ?_
      refine ok_join (Q := fun j5 : Int32 => R Z 31 [(0, .ref p0), (1, .int p1), (3, .int s.2)] [.int j5] n h 0) H (fun j5 H => ?_) (fun H => ?_)
      · refine r_istore_n hZ dX12_whineOf_31 (by decide) (r_pick [0, 1, 2, 3] (ls' := [(0, .ref p0), (1, .int p1), (2, .int j5), (3, .int s.2)]) rfl ?_)
        obtain ⟨x7, ex7, H⟩ := ok_bind H
        refine r_iincE (w := (J 1)) hZ dX12_whineOf_32 (by decide) rfl (by decide) ex7 (r_pick [0, 1, 2, 3] (ls' := [(0, .ref p0), (1, .int p1), (2, .int j5), (3, .int x7)]) rfl ?_)
        refine r_goto (tgt := 4) hZ dX12_whineOf_35 (by decide) ?_
        exact r_pick [0, 1, 2, 3] (ls' := [(0, .ref p0), (1, .int p1), (2, .int j5), (3, .int x7)]) rfl (ih _ (ki_l H))
      · refine r_if_le (tgt := 30) hZ dX12_whineOf_23 (by decide) (fun c6 => ?_) (fun c6 => ?_)
        · have H := ok_t H c6
          refine r_iload_n hZ dX12_whineOf_30 rfl ?_
          have H := ok_some H
          exact r_pick [0, 1, 3] (ls' := [(0, .ref p0), (1, .int p1), (3, .int s.2)]) rfl H
        · have H := ok_f H c6
          refine r_iload_n hZ dX12_whineOf_26 rfl ?_
          refine r_goto (tgt := 31) hZ dX12_whineOf_27 (by decide) ?_
          have H := ok_some H
          exact r_pick [0, 1, 3] (ls' := [(0, .ref p0), (1, .int p1), (3, .int s.2)]) rfl H
def f_X12_whineOf  (h : Hp) (a0 : Nat) (a1 : Int32) : Option (Int32) :=
  (some (J 1)).bind fun x1 =>
  (some (J 2)).bind fun x2 =>
  (iter (b_X12_whineOf_4 h a0 a1) FU (x1, x2)).bind fun e3 =>
  some e3
set_option maxRecDepth 100000 in
set_option maxHeartbeats 4000000 in
theorem s_X12_whineOf {n : Nat} {h : Hp} {a0 : Nat} {a1 : Int32}  {r : Int32} (hf : f_X12_whineOf  h a0 a1 = some r) : Ev 7 yX12_whineOf cX12_whineOf 4 (some .int) [.ref a0, .int a1] n h (some (.int r)) n h := by
  refine Ev_of RX12 rfl (by decide) (Nat.le_of_ble_eq_true rfl) (Nat.le_refl _) (Or.inl rfl) (fun Z hZ hF hN hI => ?_)
  have H : Ok (f_X12_whineOf  h a0 a1) (fun y => y = r) := ⟨_, hf, rfl⟩
  unfold f_X12_whineOf at H
  refine r_ls (ls' := [(0, .ref a0), (1, .int a1)]) rfl ?_
  refine r_iconst (v := (J 1)) hZ dX12_whineOf_0 (by decide) ?_
  obtain ⟨x1, ex1, H⟩ := ok_bind H
  refine r_topi ex1 ?_
  refine r_istore_n hZ dX12_whineOf_1 (by decide) (r_pick [0, 1, 2] (ls' := [(0, .ref a0), (1, .int a1), (2, .int x1)]) rfl ?_)
  refine r_iconst (v := (J 2)) hZ dX12_whineOf_2 (by decide) ?_
  obtain ⟨x2, ex2, H⟩ := ok_bind H
  refine r_topi ex2 ?_
  refine r_istore_n hZ dX12_whineOf_3 (by decide) (r_pick [0, 1, 2, 3] (ls' := [(0, .ref a0), (1, .int a1), (2, .int x1), (3, .int x2)]) rfl ?_)
  have H := ok_bindK H
  refine r_pick [0, 1, 2, 3] (ls' := [(0, .ref a0), (1, .int a1), (2, .int x1), (3, .int x2)]) rfl (l_X12_whineOf_4 hZ (fun e3 H => ?_) FU _ H)
  · refine r_iload_n hZ dX12_whineOf_38 rfl ?_
    have H := ok_some H
    subst H
    exact r_iret hZ hF dX12_whineOf_39
def f_X12_whine  (h : Hp) (a0 : Nat) (a1 : Int32) : Option (Int32) :=
  (isO h a0 11).bind fun u1 =>
  (f_X12_isMesh h a0 a1).bind fun r2 =>
  ((if r2 = 0 then
    some (J (-1))
  else
    (isO h a0 11).bind fun u4 =>
    (f_X12_whineOf h a0 a1).bind fun r5 =>
    some r5)).bind fun (j3 : Int32) =>
  some j3
set_option maxRecDepth 100000 in
set_option maxHeartbeats 4000000 in
theorem s_X12_whine {n : Nat} {h : Hp} {a0 : Nat} {a1 : Int32}  {r : Int32} (hf : f_X12_whine  h a0 a1 = some r) : Ev 8 yX12_whine cX12_whine 2 (some .int) [.ref a0, .int a1] n h (some (.int r)) n h := by
  refine Ev_of RX12 rfl (by decide) (Nat.le_of_ble_eq_true rfl) (Nat.le_refl _) (Or.inl rfl) (fun Z hZ hF hN hI => ?_)
  have H : Ok (f_X12_whine  h a0 a1) (fun y => y = r) := ⟨_, hf, rfl⟩
  unfold f_X12_whine at H
  refine r_ls (ls' := [(0, .ref a0), (1, .int a1)]) rfl ?_
  refine r_aload_n hZ dX12_whine_0 rfl ?_
  refine r_iload_n hZ dX12_whine_1 rfl ?_
  obtain ⟨u1, eu1, H⟩ := ok_bind H
  obtain ⟨r2, er2, H⟩ := ok_bind H
  refine r_callV (As := [.int a1]) (rest := []) (st1 := [.int r2]) (N2 := 0) hZ dX12_whine_2 cw_X12_163_X12 rfl eu1 (s_X12_isMesh er2) rfl rfl (by decide) (Nat.le_of_ble_eq_true rfl) (Nat.le_refl 0) (Nat.le_refl _) (Or.inl rfl) rfl ?_
  refine ok_join (Q := fun j3 : Int32 => R Z 17 [] [.int j3] n h 0) H (fun j3 H => ?_) (fun H => ?_)
  · have H := ok_some H
    subst H
    exact r_iret hZ hF dX12_whine_17
  · refine r_if_eq (tgt := 16) hZ dX12_whine_5 (by decide) (fun c6 => ?_) (fun c6 => ?_)
    · have H := ok_t H c6
      refine r_iconst (v := (J (-1))) hZ dX12_whine_16 (by decide) ?_
      have H := ok_some H
      exact r_pick [] (ls' := []) rfl H
    · have H := ok_f H c6
      refine r_aload_n hZ dX12_whine_8 rfl ?_
      refine r_iload_n hZ dX12_whine_9 rfl ?_
      obtain ⟨u4, eu4, H⟩ := ok_bind H
      obtain ⟨r5, er5, H⟩ := ok_bind H
      refine r_callV (As := [.int a1]) (rest := []) (st1 := [.int r5]) (N2 := 0) hZ dX12_whine_10 cw_X12_273_X12 rfl eu4 (s_X12_whineOf er5) rfl rfl (by decide) (Nat.le_of_ble_eq_true rfl) (Nat.le_refl 0) (Nat.le_refl _) (Or.inl rfl) rfl ?_
      refine r_goto (tgt := 17) hZ dX12_whine_13 (by decide) ?_
      have H := ok_some H
      exact r_pick [] (ls' := []) rfl H
def f_X12_pair  (h : Hp) (a0 : Nat) (a1 : Int32) (a2 : Int32) : Option (Int32 × Hp) :=
  (f_X12_isIn (a1.toInt64) (K 0) (K 99)).bind fun r1 =>
  (if r1 = 0 then
    some ((J (-1)), h)
  else
    (f_X12_isIn (a2.toInt64) (K 1) (K 99)).bind fun r2 =>
    (if r2 = 0 then
      some ((J (-1)), h)
    else
      (gR h a0 11 1).bind fun x3 =>
      (aI h x3 (J 1743)).bind fun x4 =>
      (if x4 = (J 6) then
        some ((J (-2)), h)
      else
        (gR h a0 11 1).bind fun x5 =>
        (gR h a0 11 1).bind fun x6 =>
        (aI h x6 (J 1743)).bind fun x7 =>
        (sI h x5 ((J 1728) + ((J 2) * x7)) a1).bind fun h8 =>
        (gR h8 a0 11 1).bind fun x9 =>
        (gR h8 a0 11 1).bind fun x10 =>
        (aI h8 x10 (J 1743)).bind fun x11 =>
        (sI h8 x9 (((J 1728) + ((J 2) * x11)) + (J 1)) a2).bind fun h12 =>
        (gR h12 a0 11 1).bind fun x13 =>
        (some (J 1743)).bind fun x14 =>
        (aI h12 x13 x14).bind fun x15 =>
        (sI h12 x13 x14 (x15 + (J 1))).bind fun h16 =>
        (gR h16 a0 11 1).bind fun x17 =>
        (aI h16 x17 (J 1743)).bind fun x18 =>
        some (x18, h16))))
set_option maxRecDepth 100000 in
set_option maxHeartbeats 4000000 in
theorem s_X12_pair {n : Nat} {h : Hp} {a0 : Nat} {a1 : Int32} {a2 : Int32}  {r : Int32 × Hp} (hf : f_X12_pair  h a0 a1 a2 = some r) : Ev 3 yX12_pair cX12_pair 3 (some .int) [.ref a0, .int a1, .int a2] n h (some (.int r.1)) n r.2 := by
  refine Ev_of RX12 rfl (by decide) (Nat.le_of_ble_eq_true rfl) (Nat.le_refl _) (Or.inl rfl) (fun Z hZ hF hN hI => ?_)
  have H : Ok (f_X12_pair  h a0 a1 a2) (fun y => y = r) := ⟨_, hf, rfl⟩
  unfold f_X12_pair at H
  refine r_ls (ls' := [(0, .ref a0), (1, .int a1), (2, .int a2)]) rfl ?_
  refine r_iload_n hZ dX12_pair_0 rfl ?_
  refine r_i2l hZ dX12_pair_1 ?_
  refine r_lconst (v := (K 0)) hZ dX12_pair_2 (by decide) ?_
  refine r_ldc2 (v := (K 99)) hZ wc_X12_202 dX12_pair_3 ?_
  obtain ⟨r1, er1, H⟩ := ok_bind H
  refine r_callS (As := [.long (a1.toInt64), .long (K 0), .long (K 99)]) (rest := []) (st1 := [.int r1]) (N2 := 0) hZ dX12_pair_6 cw_X12_73 (s_X12_isIn er1) rfl rfl (by decide) (Nat.le_of_ble_eq_true rfl) (Nat.le_refl 0) (Nat.le_refl _) (Or.inl rfl) rfl ?_
  refine r_if_eq (tgt := 24) hZ dX12_pair_9 (by decide) (fun c21 => ?_) (fun c21 => ?_)
  · have H := ok_t H c21
    refine r_iconst (v := (J (-1))) hZ dX12_pair_24 (by decide) ?_
    have H := ok_some H
    subst H
    exact r_iret hZ hF dX12_pair_25
  · have H := ok_f H c21
    refine r_iload_n hZ dX12_pair_12 rfl ?_
    refine r_i2l hZ dX12_pair_13 ?_
    refine r_lconst (v := (K 1)) hZ dX12_pair_14 (by decide) ?_
    refine r_ldc2 (v := (K 99)) hZ wc_X12_202 dX12_pair_15 ?_
    obtain ⟨r2, er2, H⟩ := ok_bind H
    refine r_callS (As := [.long (a2.toInt64), .long (K 1), .long (K 99)]) (rest := []) (st1 := [.int r2]) (N2 := 0) hZ dX12_pair_18 cw_X12_73 (s_X12_isIn er2) rfl rfl (by decide) (Nat.le_of_ble_eq_true rfl) (Nat.le_refl 0) (Nat.le_refl _) (Or.inl rfl) rfl ?_
    refine r_if_ne (tgt := 26) hZ dX12_pair_21 (by decide) (fun c20 => ?_) (fun c20 => ?_)
    · have H := ok_f H c20
      refine r_aload_n hZ dX12_pair_26 rfl ?_
      obtain ⟨x3, ex3, H⟩ := ok_bind H
      refine r_getR hZ fl_X12_13_11 dX12_pair_27 ex3 ?_
      refine r_sipush (v := (J 1743)) hZ dX12_pair_30 (by decide) ?_
      obtain ⟨x4, ex4, H⟩ := ok_bind H
      refine r_aI hZ dX12_pair_33 ex4 ?_
      refine r_bipush (v := (J 6)) hZ dX12_pair_34 (by decide) ?_
      refine r_icmp_ne (tgt := 42) hZ dX12_pair_36 (by decide) (fun c19 => ?_) (fun c19 => ?_)
      · have H := ok_f H c19
        refine r_aload_n hZ dX12_pair_42 rfl ?_
        obtain ⟨x5, ex5, H⟩ := ok_bind H
        refine r_getR hZ fl_X12_13_11 dX12_pair_43 ex5 ?_
        refine r_sipush (v := (J 1728)) hZ dX12_pair_46 (by decide) ?_
        refine r_iconst (v := (J 2)) hZ dX12_pair_49 (by decide) ?_
        refine r_aload_n hZ dX12_pair_50 rfl ?_
        obtain ⟨x6, ex6, H⟩ := ok_bind H
        refine r_getR hZ fl_X12_13_11 dX12_pair_51 ex6 ?_
        refine r_sipush (v := (J 1743)) hZ dX12_pair_54 (by decide) ?_
        obtain ⟨x7, ex7, H⟩ := ok_bind H
        refine r_aI hZ dX12_pair_57 ex7 ?_
        refine r_imul hZ dX12_pair_58 ?_
        refine r_iadd hZ dX12_pair_59 ?_
        refine r_iload_n hZ dX12_pair_60 rfl ?_
        obtain ⟨h8, eh8, H⟩ := ok_bind H
        refine r_sI hZ dX12_pair_61 eh8 ?_
        refine r_aload_n hZ dX12_pair_62 rfl ?_
        obtain ⟨x9, ex9, H⟩ := ok_bind H
        refine r_getR hZ fl_X12_13_11 dX12_pair_63 ex9 ?_
        refine r_sipush (v := (J 1728)) hZ dX12_pair_66 (by decide) ?_
        refine r_iconst (v := (J 2)) hZ dX12_pair_69 (by decide) ?_
        refine r_aload_n hZ dX12_pair_70 rfl ?_
        obtain ⟨x10, ex10, H⟩ := ok_bind H
        refine r_getR hZ fl_X12_13_11 dX12_pair_71 ex10 ?_
        refine r_sipush (v := (J 1743)) hZ dX12_pair_74 (by decide) ?_
        obtain ⟨x11, ex11, H⟩ := ok_bind H
        refine r_aI hZ dX12_pair_77 ex11 ?_
        refine r_imul hZ dX12_pair_78 ?_
        refine r_iadd hZ dX12_pair_79 ?_
        refine r_iconst (v := (J 1)) hZ dX12_pair_80 (by decide) ?_
        refine r_iadd hZ dX12_pair_81 ?_
        refine r_iload_n hZ dX12_pair_82 rfl ?_
        obtain ⟨h12, eh12, H⟩ := ok_bind H
        refine r_sI hZ dX12_pair_83 eh12 ?_
        refine r_aload_n hZ dX12_pair_84 rfl ?_
        obtain ⟨x13, ex13, H⟩ := ok_bind H
        refine r_getR hZ fl_X12_13_11 dX12_pair_85 ex13 ?_
        refine r_sipush (v := (J 1743)) hZ dX12_pair_88 (by decide) ?_
        obtain ⟨x14, ex14, H⟩ := ok_bind H
        refine r_topi ex14 ?_
        refine r_dup2_ia hZ dX12_pair_91 ?_
        obtain ⟨x15, ex15, H⟩ := ok_bind H
        refine r_aI hZ dX12_pair_92 ex15 ?_
        refine r_iconst (v := (J 1)) hZ dX12_pair_93 (by decide) ?_
        refine r_iadd hZ dX12_pair_94 ?_
        obtain ⟨h16, eh16, H⟩ := ok_bind H
        refine r_sI hZ dX12_pair_95 eh16 ?_
        refine r_aload_n hZ dX12_pair_96 rfl ?_
        obtain ⟨x17, ex17, H⟩ := ok_bind H
        refine r_getR hZ fl_X12_13_11 dX12_pair_97 ex17 ?_
        refine r_sipush (v := (J 1743)) hZ dX12_pair_100 (by decide) ?_
        obtain ⟨x18, ex18, H⟩ := ok_bind H
        refine r_aI hZ dX12_pair_103 ex18 ?_
        have H := ok_some H
        subst H
        exact r_iret hZ hF dX12_pair_104
      · have H := ok_t H c19
        refine r_bipush (v := (J (-2))) hZ dX12_pair_39 (by decide) ?_
        have H := ok_some H
        subst H
        exact r_iret hZ hF dX12_pair_41
    · have H := ok_t H c20
      refine r_iconst (v := (J (-1))) hZ dX12_pair_24 (by decide) ?_
      have H := ok_some H
      subst H
      exact r_iret hZ hF dX12_pair_25
def f_X12_clear  (h : Hp) (a0 : Nat) : Option (Int32 × Hp) :=
  (gR h a0 11 1).bind fun x1 =>
  (aI h x1 (J 1743)).bind fun x2 =>
  (gR h a0 11 1).bind fun x3 =>
  (sI h x3 (J 1743) (J 0)).bind fun h4 =>
  some (x2, h4)
set_option maxRecDepth 100000 in
set_option maxHeartbeats 4000000 in
theorem s_X12_clear {n : Nat} {h : Hp} {a0 : Nat}  {r : Int32 × Hp} (hf : f_X12_clear  h a0 = some r) : Ev 2 yX12_clear cX12_clear 2 (some .int) [.ref a0] n h (some (.int r.1)) n r.2 := by
  refine Ev_of RX12 rfl (by decide) (Nat.le_of_ble_eq_true rfl) (Nat.le_refl _) (Or.inl rfl) (fun Z hZ hF hN hI => ?_)
  have H : Ok (f_X12_clear  h a0) (fun y => y = r) := ⟨_, hf, rfl⟩
  unfold f_X12_clear at H
  refine r_ls (ls' := [(0, .ref a0)]) rfl ?_
  refine r_aload_n hZ dX12_clear_0 rfl ?_
  obtain ⟨x1, ex1, H⟩ := ok_bind H
  refine r_getR hZ fl_X12_13_11 dX12_clear_1 ex1 ?_
  refine r_sipush (v := (J 1743)) hZ dX12_clear_4 (by decide) ?_
  obtain ⟨x2, ex2, H⟩ := ok_bind H
  refine r_aI hZ dX12_clear_7 ex2 ?_
  refine r_istore_n hZ dX12_clear_8 (by decide) (r_pick [0, 1] (ls' := [(0, .ref a0), (1, .int x2)]) rfl ?_)
  refine r_aload_n hZ dX12_clear_9 rfl ?_
  obtain ⟨x3, ex3, H⟩ := ok_bind H
  refine r_getR hZ fl_X12_13_11 dX12_clear_10 ex3 ?_
  refine r_sipush (v := (J 1743)) hZ dX12_clear_13 (by decide) ?_
  refine r_iconst (v := (J 0)) hZ dX12_clear_16 (by decide) ?_
  obtain ⟨h4, eh4, H⟩ := ok_bind H
  refine r_sI hZ dX12_clear_17 eh4 ?_
  refine r_iload_n hZ dX12_clear_18 rfl ?_
  have H := ok_some H
  subst H
  exact r_iret hZ hF dX12_clear_19
def f_X12_shareAt  (h : Hp) (a0 : Nat) (a1 : Int32) (a2 : Int32) : Option (Int32) :=
  (gR h a0 11 1).bind fun x1 =>
  (aI h x1 ((J 1728) + ((J 2) * a1))).bind fun x2 =>
  ((if a2 ≤ x2 then
    some (J 0)
  else
    (gR h a0 11 1).bind fun x4 =>
    (aI h x4 (((J 1728) + ((J 2) * a1)) + (J 1))).bind fun x5 =>
    (gR h a0 11 1).bind fun x6 =>
    (aI h x6 ((J 1728) + ((J 2) * a1))).bind fun x7 =>
    some (x5 * (a2 - x7)))).bind fun (j3 : Int32) =>
  some j3
set_option maxRecDepth 100000 in
set_option maxHeartbeats 4000000 in
theorem s_X12_shareAt {n : Nat} {h : Hp} {a0 : Nat} {a1 : Int32} {a2 : Int32}  {r : Int32} (hf : f_X12_shareAt  h a0 a1 a2 = some r) : Ev 2 yX12_shareAt cX12_shareAt 3 (some .int) [.ref a0, .int a1, .int a2] n h (some (.int r)) n h := by
  refine Ev_of RX12 rfl (by decide) (Nat.le_of_ble_eq_true rfl) (Nat.le_refl _) (Or.inl rfl) (fun Z hZ hF hN hI => ?_)
  have H : Ok (f_X12_shareAt  h a0 a1 a2) (fun y => y = r) := ⟨_, hf, rfl⟩
  unfold f_X12_shareAt at H
  refine r_ls (ls' := [(0, .ref a0), (1, .int a1), (2, .int a2)]) rfl ?_
  refine r_iload_n hZ dX12_shareAt_0 rfl ?_
  refine r_aload_n hZ dX12_shareAt_1 rfl ?_
  obtain ⟨x1, ex1, H⟩ := ok_bind H
  refine r_getR hZ fl_X12_13_11 dX12_shareAt_2 ex1 ?_
  refine r_sipush (v := (J 1728)) hZ dX12_shareAt_5 (by decide) ?_
  refine r_iconst (v := (J 2)) hZ dX12_shareAt_8 (by decide) ?_
  refine r_iload_n hZ dX12_shareAt_9 rfl ?_
  refine r_imul hZ dX12_shareAt_10 ?_
  refine r_iadd hZ dX12_shareAt_11 ?_
  obtain ⟨x2, ex2, H⟩ := ok_bind H
  refine r_aI hZ dX12_shareAt_12 ex2 ?_
  refine ok_join (Q := fun j3 : Int32 => R Z 49 [] [.int j3] n h 0) H (fun j3 H => ?_) (fun H => ?_)
  · have H := ok_some H
    subst H
    exact r_iret hZ hF dX12_shareAt_49
  · refine r_icmp_le (tgt := 48) hZ dX12_shareAt_13 (by decide) (fun c8 => ?_) (fun c8 => ?_)
    · have H := ok_t H c8
      refine r_iconst (v := (J 0)) hZ dX12_shareAt_48 (by decide) ?_
      have H := ok_some H
      exact r_pick [] (ls' := []) rfl H
    · have H := ok_f H c8
      refine r_aload_n hZ dX12_shareAt_16 rfl ?_
      obtain ⟨x4, ex4, H⟩ := ok_bind H
      refine r_getR hZ fl_X12_13_11 dX12_shareAt_17 ex4 ?_
      refine r_sipush (v := (J 1728)) hZ dX12_shareAt_20 (by decide) ?_
      refine r_iconst (v := (J 2)) hZ dX12_shareAt_23 (by decide) ?_
      refine r_iload_n hZ dX12_shareAt_24 rfl ?_
      refine r_imul hZ dX12_shareAt_25 ?_
      refine r_iadd hZ dX12_shareAt_26 ?_
      refine r_iconst (v := (J 1)) hZ dX12_shareAt_27 (by decide) ?_
      refine r_iadd hZ dX12_shareAt_28 ?_
      obtain ⟨x5, ex5, H⟩ := ok_bind H
      refine r_aI hZ dX12_shareAt_29 ex5 ?_
      refine r_iload_n hZ dX12_shareAt_30 rfl ?_
      refine r_aload_n hZ dX12_shareAt_31 rfl ?_
      obtain ⟨x6, ex6, H⟩ := ok_bind H
      refine r_getR hZ fl_X12_13_11 dX12_shareAt_32 ex6 ?_
      refine r_sipush (v := (J 1728)) hZ dX12_shareAt_35 (by decide) ?_
      refine r_iconst (v := (J 2)) hZ dX12_shareAt_38 (by decide) ?_
      refine r_iload_n hZ dX12_shareAt_39 rfl ?_
      refine r_imul hZ dX12_shareAt_40 ?_
      refine r_iadd hZ dX12_shareAt_41 ?_
      obtain ⟨x7, ex7, H⟩ := ok_bind H
      refine r_aI hZ dX12_shareAt_42 ex7 ?_
      refine r_isub hZ dX12_shareAt_43 ?_
      refine r_imul hZ dX12_shareAt_44 ?_
      refine r_goto (tgt := 49) hZ dX12_shareAt_45 (by decide) ?_
      have H := ok_some H
      exact r_pick [] (ls' := []) rfl H
def b_X12_pushedOf_14 (h : Hp) (p0 : Nat) (p1 : Int32) (p2 : Int32) (s : Int32 × Int32) : Option ((Int32 × Int32) ⊕ ((Int32))) :=
  (gR h p0 11 1).bind fun x1 =>
  (aI h x1 (J 1743)).bind fun x2 =>
  (if x2 ≤ s.2 then
    some (.inr (s.1))
  else
    (isO h p0 11).bind fun u3 =>
    (f_X12_shareAt h p0 s.2 p2).bind fun r4 =>
    (some (s.1 + r4)).bind fun x5 =>
    (some (s.2 + (J 1))).bind fun x6 =>
    some (.inl (x5, x6)))
set_option maxRecDepth 100000 in
set_option maxHeartbeats 4000000 in
theorem l_X12_pushedOf_14 {Z : Zc} (hZ : Fx cX12_pushedOf RX12 5 3 0 Z) {n : Nat} {h : Hp} {p0 : Nat} {p1 : Int32} {p2 : Int32} {P : ((Int32)) → Prop} (hx0 : ∀ e : Int32, P (e) → R Z 43 [(0, .ref p0), (1, .int p1), (2, .int p2), (3, .int e)] [] n h 0) : ∀ (m : Nat) (s : Int32 × Int32), Ok (iter (b_X12_pushedOf_14 h p0 p1 p2) m s) P → R Z 14 [(0, .ref p0), (1, .int p1), (2, .int p2), (3, .int s.1), (4, .int s.2)] [] n h 0 := by
  intro m
  induction m with
  | zero => exact fun s H => ok_iter0 H
  | succ m ih =>
    intro s H
    have H := ok_iter H
    unfold b_X12_pushedOf_14 at H
    refine r_iload hZ dX12_pushedOf_14 rfl ?_
    refine r_aload_n hZ dX12_pushedOf_16 rfl ?_
    obtain ⟨x1, ex1, H⟩ := ok_bind H
    refine r_getR hZ fl_X12_13_11 dX12_pushedOf_17 ex1 ?_
    refine r_sipush (v := (J 1743)) hZ dX12_pushedOf_20 (by decide) ?_
    obtain ⟨x2, ex2, H⟩ := ok_bind H
    refine r_aI hZ dX12_pushedOf_23 ex2 ?_
    refine r_icmp_ge (tgt := 43) hZ dX12_pushedOf_24 (by decide) (fun c7 => ?_) (fun c7 => ?_)
    · have H := ok_t H c7
      exact r_pick [0, 1, 2, 3] (ls' := [(0, .ref p0), (1, .int p1), (2, .int p2), (3, .int s.1)]) rfl (hx0 _ (ki_r H))
    · have H := ok_f H c7
      refine r_iload_n hZ dX12_pushedOf_27 rfl ?_
      refine r_aload_n hZ dX12_pushedOf_28 rfl ?_
      refine r_iload hZ dX12_pushedOf_29 rfl ?_
      refine r_iload_n hZ dX12_pushedOf_31 rfl ?_
      obtain ⟨u3, eu3, H⟩ := ok_bind H
      obtain ⟨r4, er4, H⟩ := ok_bind H
      refine r_callV (As := [.int s.2, .int p2]) (rest := [.int s.1]) (st1 := [.int r4, .int s.1]) (N2 := 0) hZ dX12_pushedOf_32 cw_X12_276_X12 rfl eu3 (s_X12_shareAt er4) rfl rfl (by decide) (Nat.le_of_ble_eq_true rfl) (Nat.le_refl 0) (Nat.le_refl _) (Or.inl rfl) rfl ?_
      refine r_iadd hZ dX12_pushedOf_35 ?_
      obtain ⟨x5, ex5, H⟩ := ok_bind H
      refine r_topi ex5 ?_
      refine r_istore_n hZ dX12_pushedOf_36 (by decide) (r_pick [0, 1, 2, 3, 4] (ls' := [(0, .ref p0), (1, .int p1), (2, .int p2), (3, .int x5), (4, .int s.2)]) rfl ?_)
      obtain ⟨x6, ex6, H⟩ := ok_bind H
      refine r_iincE (w := (J 1)) hZ dX12_pushedOf_37 (by decide) rfl (by decide) ex6 (r_pick [0, 1, 2, 3, 4] (ls' := [(0, .ref p0), (1, .int p1), (2, .int p2), (3, .int x5), (4, .int x6)]) rfl ?_)
      refine r_goto (tgt := 14) hZ dX12_pushedOf_40 (by decide) ?_
      exact r_pick [0, 1, 2, 3, 4] (ls' := [(0, .ref p0), (1, .int p1), (2, .int p2), (3, .int x5), (4, .int x6)]) rfl (ih _ (ki_l H))
def b_X12_pushedOf_2 (h : Hp) (p0 : Nat) (p1 : Int32) (s : Int32) : Option ((Int32) ⊕ ((Unit) ⊕ (Int32))) :=
  (if (J 10000) ≤ s then
    some (.inr (.inl ()))
  else
    (some (J 0)).bind fun x1 =>
    (some (J 0)).bind fun x2 =>
    (iter (b_X12_pushedOf_14 h p0 p1 s) FU (x1, x2)).bind fun e3 =>
    (if e3 < p1 then
      (some (s + (J 1))).bind fun x4 =>
      some (.inl x4)
    else
      some (.inr (.inr s))))
set_option maxRecDepth 100000 in
set_option maxHeartbeats 4000000 in
theorem l_X12_pushedOf_2 {Z : Zc} (hZ : Fx cX12_pushedOf RX12 5 3 0 Z) {n : Nat} {h : Hp} {p0 : Nat} {p1 : Int32} {P : ((Unit) ⊕ (Int32)) → Prop} (hx0 : ∀ e : Unit, P (.inl e) → R Z 56 [] [] n h 0) (hx1 : ∀ e : Int32, P (.inr e) → R Z 48 [(2, .int e)] [] n h 0) : ∀ (m : Nat) (s : Int32), Ok (iter (b_X12_pushedOf_2 h p0 p1) m s) P → R Z 2 [(0, .ref p0), (1, .int p1), (2, .int s)] [] n h 0 := by
  intro m
  induction m with
  | zero => exact fun s H => ok_iter0 H
  | succ m ih =>
    intro s H
    have H := ok_iter H
    unfold b_X12_pushedOf_2 at H
    refine r_iload_n hZ dX12_pushedOf_2 rfl ?_
    refine r_sipush (v := (J 10000)) hZ dX12_pushedOf_3 (by decide) ?_
    refine r_icmp_ge (tgt := 56) hZ dX12_pushedOf_6 (by decide) (fun c6 => ?_) (fun c6 => ?_)
    · have H := ok_t H c6
      exact r_pick [] (ls' := []) rfl (hx0 _ (ki_r H))
    · have H := ok_f H c6
      refine r_iconst (v := (J 0)) hZ dX12_pushedOf_9 (by decide) ?_
      obtain ⟨x1, ex1, H⟩ := ok_bind H
      refine r_topi ex1 ?_
      refine r_istore_n hZ dX12_pushedOf_10 (by decide) (r_pick [0, 1, 2, 3] (ls' := [(0, .ref p0), (1, .int p1), (2, .int s), (3, .int x1)]) rfl ?_)
      refine r_iconst (v := (J 0)) hZ dX12_pushedOf_11 (by decide) ?_
      obtain ⟨x2, ex2, H⟩ := ok_bind H
      refine r_topi ex2 ?_
      refine r_istore hZ dX12_pushedOf_12 (by decide) (r_pick [0, 1, 2, 3, 4] (ls' := [(0, .ref p0), (1, .int p1), (2, .int s), (3, .int x1), (4, .int x2)]) rfl ?_)
      have H := ok_bindK H
      refine r_pick [0, 1, 2, 3, 4] (ls' := [(0, .ref p0), (1, .int p1), (2, .int s), (3, .int x1), (4, .int x2)]) rfl (l_X12_pushedOf_14 hZ (fun e3 H => ?_) FU _ H)
      · refine r_iload_n hZ dX12_pushedOf_43 rfl ?_
        refine r_iload_n hZ dX12_pushedOf_44 rfl ?_
        refine r_icmp_lt (tgt := 50) hZ dX12_pushedOf_45 (by decide) (fun c5 => ?_) (fun c5 => ?_)
        · have H := ok_t H c5
          obtain ⟨x4, ex4, H⟩ := ok_bind H
          refine r_iincE (w := (J 1)) hZ dX12_pushedOf_50 (by decide) rfl (by decide) ex4 (r_pick [0, 1, 2] (ls' := [(0, .ref p0), (1, .int p1), (2, .int x4)]) rfl ?_)
          refine r_goto (tgt := 2) hZ dX12_pushedOf_53 (by decide) ?_
          exact r_pick [0, 1, 2] (ls' := [(0, .ref p0), (1, .int p1), (2, .int x4)]) rfl (ih _ (ki_l H))
        · have H := ok_f H c5
          exact r_pick [2] (ls' := [(2, .int s)]) rfl (hx1 _ (ki_r H))
def f_X12_pushedOf  (h : Hp) (a0 : Nat) (a1 : Int32) : Option (Int32) :=
  (some (J 0)).bind fun x1 =>
  (iter (b_X12_pushedOf_2 h a0 a1) FU x1).bind fun e2 =>
  (match e2 with
  | .inl e3 =>
    some (J (-4))
  | .inr e4 =>
    some e4)
set_option maxRecDepth 100000 in
set_option maxHeartbeats 4000000 in
theorem s_X12_pushedOf {n : Nat} {h : Hp} {a0 : Nat} {a1 : Int32}  {r : Int32} (hf : f_X12_pushedOf  h a0 a1 = some r) : Ev 3 yX12_pushedOf cX12_pushedOf 5 (some .int) [.ref a0, .int a1] n h (some (.int r)) n h := by
  refine Ev_of RX12 rfl (by decide) (Nat.le_of_ble_eq_true rfl) (Nat.le_refl _) (Or.inl rfl) (fun Z hZ hF hN hI => ?_)
  have H : Ok (f_X12_pushedOf  h a0 a1) (fun y => y = r) := ⟨_, hf, rfl⟩
  unfold f_X12_pushedOf at H
  refine r_ls (ls' := [(0, .ref a0), (1, .int a1)]) rfl ?_
  refine r_iconst (v := (J 0)) hZ dX12_pushedOf_0 (by decide) ?_
  obtain ⟨x1, ex1, H⟩ := ok_bind H
  refine r_topi ex1 ?_
  refine r_istore_n hZ dX12_pushedOf_1 (by decide) (r_pick [0, 1, 2] (ls' := [(0, .ref a0), (1, .int a1), (2, .int x1)]) rfl ?_)
  have H := ok_bindK H
  refine r_pick [0, 1, 2] (ls' := [(0, .ref a0), (1, .int a1), (2, .int x1)]) rfl (l_X12_pushedOf_2 hZ (fun e3 H => ?_) (fun e4 H => ?_) FU _ H)
  · refine r_bipush (v := (J (-4))) hZ dX12_pushedOf_56 (by decide) ?_
    have H := ok_some H
    subst H
    exact r_iret hZ hF dX12_pushedOf_58
  · refine r_iload_n hZ dX12_pushedOf_48 rfl ?_
    have H := ok_some H
    subst H
    exact r_iret hZ hF dX12_pushedOf_49
def f_X12_isLoad  (a0 : Int32) : Option (Int32) :=
  (f_X12_isIn (a0.toInt64) (K 0) (K 9999)).bind fun r1 =>
  (bz r1).bind fun u2 =>
  some r1
set_option maxRecDepth 100000 in
set_option maxHeartbeats 4000000 in
theorem s_X12_isLoad {n : Nat} {h : Hp} {a0 : Int32}  {r : Int32} (hf : f_X12_isLoad  a0 = some r) : Ev 3 yX12_isLoad cX12_isLoad 1 (some .boolean) [.int a0] n h (some (.int r)) n h := by
  refine Ev_of RX12 rfl (by decide) (Nat.le_of_ble_eq_true rfl) (Nat.le_refl _) (Or.inl rfl) (fun Z hZ hF hN hI => ?_)
  have H : Ok (f_X12_isLoad  a0) (fun y => y = r) := ⟨_, hf, rfl⟩
  unfold f_X12_isLoad at H
  refine r_ls (ls' := [(0, .int a0)]) rfl ?_
  refine r_iload_n hZ dX12_isLoad_0 rfl ?_
  refine r_i2l hZ dX12_isLoad_1 ?_
  refine r_lconst (v := (K 0)) hZ dX12_isLoad_2 (by decide) ?_
  refine r_ldc2 (v := (K 9999)) hZ wc_X12_279 dX12_isLoad_3 ?_
  obtain ⟨r1, er1, H⟩ := ok_bind H
  refine r_callS (As := [.long (a0.toInt64), .long (K 0), .long (K 9999)]) (rest := []) (st1 := [.int r1]) (N2 := 0) hZ dX12_isLoad_6 cw_X12_73 (s_X12_isIn er1) rfl rfl (by decide) (Nat.le_of_ble_eq_true rfl) (Nat.le_refl 0) (Nat.le_refl _) (Or.inl rfl) rfl ?_
  obtain ⟨u2, eu2, H⟩ := ok_bind H
  have H := ok_some H
  subst H
  exact r_zret hZ hF eu2 dX12_isLoad_9
def f_X12_pushed  (h : Hp) (a0 : Nat) (a1 : Int32) : Option (Int32) :=
  (f_X12_isLoad a1).bind fun r1 =>
  ((if r1 = 0 then
    some (J (-1))
  else
    (isO h a0 11).bind fun u3 =>
    (f_X12_pushedOf h a0 a1).bind fun r4 =>
    some r4)).bind fun (j2 : Int32) =>
  some j2
set_option maxRecDepth 100000 in
set_option maxHeartbeats 4000000 in
theorem s_X12_pushed {n : Nat} {h : Hp} {a0 : Nat} {a1 : Int32}  {r : Int32} (hf : f_X12_pushed  h a0 a1 = some r) : Ev 4 yX12_pushed cX12_pushed 2 (some .int) [.ref a0, .int a1] n h (some (.int r)) n h := by
  refine Ev_of RX12 rfl (by decide) (Nat.le_of_ble_eq_true rfl) (Nat.le_refl _) (Or.inl rfl) (fun Z hZ hF hN hI => ?_)
  have H : Ok (f_X12_pushed  h a0 a1) (fun y => y = r) := ⟨_, hf, rfl⟩
  unfold f_X12_pushed at H
  refine r_ls (ls' := [(0, .ref a0), (1, .int a1)]) rfl ?_
  refine r_iload_n hZ dX12_pushed_0 rfl ?_
  obtain ⟨r1, er1, H⟩ := ok_bind H
  refine r_callS (As := [.int a1]) (rest := []) (st1 := [.int r1]) (N2 := 0) hZ dX12_pushed_1 cw_X12_281 (s_X12_isLoad er1) rfl rfl (by decide) (Nat.le_of_ble_eq_true rfl) (Nat.le_refl 0) (Nat.le_refl _) (Or.inl rfl) rfl ?_
  refine ok_join (Q := fun j2 : Int32 => R Z 16 [] [.int j2] n h 0) H (fun j2 H => ?_) (fun H => ?_)
  · have H := ok_some H
    subst H
    exact r_iret hZ hF dX12_pushed_16
  · refine r_if_eq (tgt := 15) hZ dX12_pushed_4 (by decide) (fun c5 => ?_) (fun c5 => ?_)
    · have H := ok_t H c5
      refine r_iconst (v := (J (-1))) hZ dX12_pushed_15 (by decide) ?_
      have H := ok_some H
      exact r_pick [] (ls' := []) rfl H
    · have H := ok_f H c5
      refine r_aload_n hZ dX12_pushed_7 rfl ?_
      refine r_iload_n hZ dX12_pushed_8 rfl ?_
      obtain ⟨u3, eu3, H⟩ := ok_bind H
      obtain ⟨r4, er4, H⟩ := ok_bind H
      refine r_callV (As := [.int a1]) (rest := []) (st1 := [.int r4]) (N2 := 0) hZ dX12_pushed_9 cw_X12_284_X12 rfl eu3 (s_X12_pushedOf er4) rfl rfl (by decide) (Nat.le_of_ble_eq_true rfl) (Nat.le_refl 0) (Nat.le_refl _) (Or.inl rfl) rfl ?_
      refine r_goto (tgt := 16) hZ dX12_pushed_12 (by decide) ?_
      have H := ok_some H
      exact r_pick [] (ls' := []) rfl H
def f_X12_share  (h : Hp) (a0 : Nat) (a1 : Int32) (a2 : Int32) : Option (Int32) :=
  (gR h a0 11 1).bind fun x1 =>
  (aI h x1 (J 1743)).bind fun x2 =>
  (f_X12_isIn (a1.toInt64) (K 0) ((x2 - (J 1)).toInt64)).bind fun r3 =>
  (if r3 = 0 then
    some (J (-1))
  else
    (f_X12_isLoad a2).bind fun r4 =>
    (if r4 = 0 then
      some (J (-1))
    else
      (isO h a0 11).bind fun u5 =>
      (f_X12_pushedOf h a0 a2).bind fun r6 =>
      ((if 0 ≤ r6 then
        (isO h a0 11).bind fun u8 =>
        (f_X12_shareAt h a0 a1 r6).bind fun r9 =>
        some r9
      else
        some (J (-3)))).bind fun (j7 : Int32) =>
      some j7))
set_option maxRecDepth 100000 in
set_option maxHeartbeats 4000000 in
theorem s_X12_share {n : Nat} {h : Hp} {a0 : Nat} {a1 : Int32} {a2 : Int32}  {r : Int32} (hf : f_X12_share  h a0 a1 a2 = some r) : Ev 4 yX12_share cX12_share 4 (some .int) [.ref a0, .int a1, .int a2] n h (some (.int r)) n h := by
  refine Ev_of RX12 rfl (by decide) (Nat.le_of_ble_eq_true rfl) (Nat.le_refl _) (Or.inl rfl) (fun Z hZ hF hN hI => ?_)
  have H : Ok (f_X12_share  h a0 a1 a2) (fun y => y = r) := ⟨_, hf, rfl⟩
  unfold f_X12_share at H
  refine r_ls (ls' := [(0, .ref a0), (1, .int a1), (2, .int a2)]) rfl ?_
  refine r_iload_n hZ dX12_share_0 rfl ?_
  refine r_i2l hZ dX12_share_1 ?_
  refine r_lconst (v := (K 0)) hZ dX12_share_2 (by decide) ?_
  refine r_aload_n hZ dX12_share_3 rfl ?_
  obtain ⟨x1, ex1, H⟩ := ok_bind H
  refine r_getR hZ fl_X12_13_11 dX12_share_4 ex1 ?_
  refine r_sipush (v := (J 1743)) hZ dX12_share_7 (by decide) ?_
  obtain ⟨x2, ex2, H⟩ := ok_bind H
  refine r_aI hZ dX12_share_10 ex2 ?_
  refine r_iconst (v := (J 1)) hZ dX12_share_11 (by decide) ?_
  refine r_isub hZ dX12_share_12 ?_
  refine r_i2l hZ dX12_share_13 ?_
  obtain ⟨r3, er3, H⟩ := ok_bind H
  refine r_callS (As := [.long (a1.toInt64), .long (K 0), .long ((x2 - (J 1)).toInt64)]) (rest := []) (st1 := [.int r3]) (N2 := 0) hZ dX12_share_14 cw_X12_73 (s_X12_isIn er3) rfl rfl (by decide) (Nat.le_of_ble_eq_true rfl) (Nat.le_refl 0) (Nat.le_refl _) (Or.inl rfl) rfl ?_
  refine r_if_eq (tgt := 27) hZ dX12_share_17 (by decide) (fun c12 => ?_) (fun c12 => ?_)
  · have H := ok_t H c12
    refine r_iconst (v := (J (-1))) hZ dX12_share_27 (by decide) ?_
    have H := ok_some H
    subst H
    exact r_iret hZ hF dX12_share_28
  · have H := ok_f H c12
    refine r_iload_n hZ dX12_share_20 rfl ?_
    obtain ⟨r4, er4, H⟩ := ok_bind H
    refine r_callS (As := [.int a2]) (rest := []) (st1 := [.int r4]) (N2 := 0) hZ dX12_share_21 cw_X12_281 (s_X12_isLoad er4) rfl rfl (by decide) (Nat.le_of_ble_eq_true rfl) (Nat.le_refl 0) (Nat.le_refl _) (Or.inl rfl) rfl ?_
    refine r_if_ne (tgt := 29) hZ dX12_share_24 (by decide) (fun c11 => ?_) (fun c11 => ?_)
    · have H := ok_f H c11
      refine r_aload_n hZ dX12_share_29 rfl ?_
      refine r_iload_n hZ dX12_share_30 rfl ?_
      obtain ⟨u5, eu5, H⟩ := ok_bind H
      obtain ⟨r6, er6, H⟩ := ok_bind H
      refine r_callV (As := [.int a2]) (rest := []) (st1 := [.int r6]) (N2 := 0) hZ dX12_share_31 cw_X12_284_X12 rfl eu5 (s_X12_pushedOf er6) rfl rfl (by decide) (Nat.le_of_ble_eq_true rfl) (Nat.le_refl 0) (Nat.le_refl _) (Or.inl rfl) rfl ?_
      refine r_istore_n hZ dX12_share_34 (by decide) (r_pick [0, 1, 3] (ls' := [(0, .ref a0), (1, .int a1), (3, .int r6)]) rfl ?_)
      refine r_iload_n hZ dX12_share_35 rfl ?_
      refine ok_join (Q := fun j7 : Int32 => R Z 50 [] [.int j7] n h 0) H (fun j7 H => ?_) (fun H => ?_)
      · have H := ok_some H
        subst H
        exact r_iret hZ hF dX12_share_50
      · refine r_if_ge (tgt := 44) hZ dX12_share_36 (by decide) (fun c10 => ?_) (fun c10 => ?_)
        · have H := ok_t H c10
          refine r_aload_n hZ dX12_share_44 rfl ?_
          refine r_iload_n hZ dX12_share_45 rfl ?_
          refine r_iload_n hZ dX12_share_46 rfl ?_
          obtain ⟨u8, eu8, H⟩ := ok_bind H
          obtain ⟨r9, er9, H⟩ := ok_bind H
          refine r_callV (As := [.int a1, .int r6]) (rest := []) (st1 := [.int r9]) (N2 := 0) hZ dX12_share_47 cw_X12_276_X12 rfl eu8 (s_X12_shareAt er9) rfl rfl (by decide) (Nat.le_of_ble_eq_true rfl) (Nat.le_refl 0) (Nat.le_refl _) (Or.inl rfl) rfl ?_
          have H := ok_some H
          exact r_pick [] (ls' := []) rfl H
        · have H := ok_f H c10
          refine r_bipush (v := (J (-3))) hZ dX12_share_39 (by decide) ?_
          refine r_goto (tgt := 50) hZ dX12_share_41 (by decide) ?_
          have H := ok_some H
          exact r_pick [] (ls' := []) rfl H
    · have H := ok_t H c11
      refine r_iconst (v := (J (-1))) hZ dX12_share_27 (by decide) ?_
      have H := ok_some H
      subst H
      exact r_iret hZ hF dX12_share_28
def b_X12_bearing_27 (h : Hp) (p0 : Nat) (p2 : Int32) (s : Int32 × Int32) : Option ((Int32 × Int32) ⊕ ((Int32))) :=
  (gR h p0 11 1).bind fun x1 =>
  (aI h x1 (J 1743)).bind fun x2 =>
  (if x2 ≤ s.2 then
    some (.inr (s.1))
  else
    (isO h p0 11).bind fun u3 =>
    (f_X12_shareAt h p0 s.2 p2).bind fun r4 =>
    ((if r4 ≤ 0 then
      some (J 0)
    else
      some ((J 1) <<< (s.2 &&& 31)))).bind fun (j5 : Int32) =>
    (some (s.1 ||| j5)).bind fun x7 =>
    (some (s.2 + (J 1))).bind fun x8 =>
    some (.inl (x7, x8)))
set_option maxRecDepth 100000 in
set_option maxHeartbeats 4000000 in
theorem l_X12_bearing_27 {Z : Zc} (hZ : Fx cX12_bearing RX12 5 4 0 Z) {n : Nat} {h : Hp} {p0 : Nat} {p2 : Int32} {P : ((Int32)) → Prop} (hx0 : ∀ e : Int32, P (e) → R Z 67 [(3, .int e)] [] n h 0) : ∀ (m : Nat) (s : Int32 × Int32), Ok (iter (b_X12_bearing_27 h p0 p2) m s) P → R Z 27 [(0, .ref p0), (2, .int p2), (3, .int s.1), (4, .int s.2)] [] n h 0 := by
  intro m
  induction m with
  | zero => exact fun s H => ok_iter0 H
  | succ m ih =>
    intro s H
    have H := ok_iter H
    unfold b_X12_bearing_27 at H
    refine r_iload hZ dX12_bearing_27 rfl ?_
    refine r_aload_n hZ dX12_bearing_29 rfl ?_
    obtain ⟨x1, ex1, H⟩ := ok_bind H
    refine r_getR hZ fl_X12_13_11 dX12_bearing_30 ex1 ?_
    refine r_sipush (v := (J 1743)) hZ dX12_bearing_33 (by decide) ?_
    obtain ⟨x2, ex2, H⟩ := ok_bind H
    refine r_aI hZ dX12_bearing_36 ex2 ?_
    refine r_icmp_ge (tgt := 67) hZ dX12_bearing_37 (by decide) (fun c9 => ?_) (fun c9 => ?_)
    · have H := ok_t H c9
      exact r_pick [3] (ls' := [(3, .int s.1)]) rfl (hx0 _ (ki_r H))
    · have H := ok_f H c9
      refine r_iload_n hZ dX12_bearing_40 rfl ?_
      refine r_aload_n hZ dX12_bearing_41 rfl ?_
      refine r_iload hZ dX12_bearing_42 rfl ?_
      refine r_iload_n hZ dX12_bearing_44 rfl ?_
      obtain ⟨u3, eu3, H⟩ := ok_bind H
      obtain ⟨r4, er4, H⟩ := ok_bind H
      refine r_callV (As := [.int s.2, .int p2]) (rest := [.int s.1]) (st1 := [.int r4, .int s.1]) (N2 := 0) hZ dX12_bearing_45 cw_X12_276_X12 rfl eu3 (s_X12_shareAt er4) rfl rfl (by decide) (Nat.le_of_ble_eq_true rfl) (Nat.le_refl 0) (Nat.le_refl _) (Or.inl rfl) rfl ?_
      refine ok_join (Q := fun j5 : Int32 => R Z 59 [(0, .ref p0), (2, .int p2), (4, .int s.2)] [.int j5, .int s.1] n h 0) H (fun j5 H => ?_) (fun H => ?_)
      · refine r_ior hZ dX12_bearing_59 ?_
        obtain ⟨x7, ex7, H⟩ := ok_bind H
        refine r_topi ex7 ?_
        refine r_istore_n hZ dX12_bearing_60 (by decide) (r_pick [0, 2, 3, 4] (ls' := [(0, .ref p0), (2, .int p2), (3, .int x7), (4, .int s.2)]) rfl ?_)
        obtain ⟨x8, ex8, H⟩ := ok_bind H
        refine r_iincE (w := (J 1)) hZ dX12_bearing_61 (by decide) rfl (by decide) ex8 (r_pick [0, 2, 3, 4] (ls' := [(0, .ref p0), (2, .int p2), (3, .int x7), (4, .int x8)]) rfl ?_)
        refine r_goto (tgt := 27) hZ dX12_bearing_64 (by decide) ?_
        exact r_pick [0, 2, 3, 4] (ls' := [(0, .ref p0), (2, .int p2), (3, .int x7), (4, .int x8)]) rfl (ih _ (ki_l H))
      · refine r_if_le (tgt := 58) hZ dX12_bearing_48 (by decide) (fun c6 => ?_) (fun c6 => ?_)
        · have H := ok_t H c6
          refine r_iconst (v := (J 0)) hZ dX12_bearing_58 (by decide) ?_
          have H := ok_some H
          exact r_pick [0, 2, 4] (ls' := [(0, .ref p0), (2, .int p2), (4, .int s.2)]) rfl H
        · have H := ok_f H c6
          refine r_iconst (v := (J 1)) hZ dX12_bearing_51 (by decide) ?_
          refine r_iload hZ dX12_bearing_52 rfl ?_
          refine r_ishl hZ dX12_bearing_54 ?_
          refine r_goto (tgt := 59) hZ dX12_bearing_55 (by decide) ?_
          have H := ok_some H
          exact r_pick [0, 2, 4] (ls' := [(0, .ref p0), (2, .int p2), (4, .int s.2)]) rfl H
def f_X12_bearing  (h : Hp) (a0 : Nat) (a1 : Int32) : Option (Int32) :=
  (f_X12_isLoad a1).bind fun r1 =>
  (if r1 = 0 then
    some (J (-1))
  else
    (isO h a0 11).bind fun u2 =>
    (f_X12_pushedOf h a0 a1).bind fun r3 =>
    (if 0 ≤ r3 then
      (some (J 0)).bind fun x4 =>
      (some (J 0)).bind fun x5 =>
      (iter (b_X12_bearing_27 h a0 r3) FU (x4, x5)).bind fun e6 =>
      some e6
    else
      some (J (-3))))
set_option maxRecDepth 100000 in
set_option maxHeartbeats 4000000 in
theorem s_X12_bearing {n : Nat} {h : Hp} {a0 : Nat} {a1 : Int32}  {r : Int32} (hf : f_X12_bearing  h a0 a1 = some r) : Ev 4 yX12_bearing cX12_bearing 5 (some .int) [.ref a0, .int a1] n h (some (.int r)) n h := by
  refine Ev_of RX12 rfl (by decide) (Nat.le_of_ble_eq_true rfl) (Nat.le_refl _) (Or.inl rfl) (fun Z hZ hF hN hI => ?_)
  have H : Ok (f_X12_bearing  h a0 a1) (fun y => y = r) := ⟨_, hf, rfl⟩
  unfold f_X12_bearing at H
  refine r_ls (ls' := [(0, .ref a0), (1, .int a1)]) rfl ?_
  refine r_iload_n hZ dX12_bearing_0 rfl ?_
  obtain ⟨r1, er1, H⟩ := ok_bind H
  refine r_callS (As := [.int a1]) (rest := []) (st1 := [.int r1]) (N2 := 0) hZ dX12_bearing_1 cw_X12_281 (s_X12_isLoad er1) rfl rfl (by decide) (Nat.le_of_ble_eq_true rfl) (Nat.le_refl 0) (Nat.le_refl _) (Or.inl rfl) rfl ?_
  refine r_if_ne (tgt := 9) hZ dX12_bearing_4 (by decide) (fun c8 => ?_) (fun c8 => ?_)
  · have H := ok_f H c8
    refine r_aload_n hZ dX12_bearing_9 rfl ?_
    refine r_iload_n hZ dX12_bearing_10 rfl ?_
    obtain ⟨u2, eu2, H⟩ := ok_bind H
    obtain ⟨r3, er3, H⟩ := ok_bind H
    refine r_callV (As := [.int a1]) (rest := []) (st1 := [.int r3]) (N2 := 0) hZ dX12_bearing_11 cw_X12_284_X12 rfl eu2 (s_X12_pushedOf er3) rfl rfl (by decide) (Nat.le_of_ble_eq_true rfl) (Nat.le_refl 0) (Nat.le_refl _) (Or.inl rfl) rfl ?_
    refine r_istore_n hZ dX12_bearing_14 (by decide) (r_pick [0, 2] (ls' := [(0, .ref a0), (2, .int r3)]) rfl ?_)
    refine r_iload_n hZ dX12_bearing_15 rfl ?_
    refine r_if_ge (tgt := 22) hZ dX12_bearing_16 (by decide) (fun c7 => ?_) (fun c7 => ?_)
    · have H := ok_t H c7
      refine r_iconst (v := (J 0)) hZ dX12_bearing_22 (by decide) ?_
      obtain ⟨x4, ex4, H⟩ := ok_bind H
      refine r_topi ex4 ?_
      refine r_istore_n hZ dX12_bearing_23 (by decide) (r_pick [0, 2, 3] (ls' := [(0, .ref a0), (2, .int r3), (3, .int x4)]) rfl ?_)
      refine r_iconst (v := (J 0)) hZ dX12_bearing_24 (by decide) ?_
      obtain ⟨x5, ex5, H⟩ := ok_bind H
      refine r_topi ex5 ?_
      refine r_istore hZ dX12_bearing_25 (by decide) (r_pick [0, 2, 3, 4] (ls' := [(0, .ref a0), (2, .int r3), (3, .int x4), (4, .int x5)]) rfl ?_)
      have H := ok_bindK H
      refine r_pick [0, 2, 3, 4] (ls' := [(0, .ref a0), (2, .int r3), (3, .int x4), (4, .int x5)]) rfl (l_X12_bearing_27 hZ (fun e6 H => ?_) FU _ H)
      · refine r_iload_n hZ dX12_bearing_67 rfl ?_
        have H := ok_some H
        subst H
        exact r_iret hZ hF dX12_bearing_68
    · have H := ok_f H c7
      refine r_bipush (v := (J (-3))) hZ dX12_bearing_19 (by decide) ?_
      have H := ok_some H
      subst H
      exact r_iret hZ hF dX12_bearing_21
  · have H := ok_t H c8
    refine r_iconst (v := (J (-1))) hZ dX12_bearing_7 (by decide) ?_
    have H := ok_some H
    subst H
    exact r_iret hZ hF dX12_bearing_8
def f_X12_isDigit  (a0 : Int32) : Option (Int32) :=
  ((if a0 < (J 48) then
    some (J 0)
  else
    (if (J 57) < a0 then
      some (J 0)
    else
      some (J 1)))).bind fun (j1 : Int32) =>
  (bz j1).bind fun u4 =>
  some j1
set_option maxRecDepth 100000 in
set_option maxHeartbeats 4000000 in
theorem s_X12_isDigit {n : Nat} {h : Hp} {a0 : Int32}  {r : Int32} (hf : f_X12_isDigit  a0 = some r) : Ev 2 yX12_isDigit cX12_isDigit 1 (some .boolean) [.int a0] n h (some (.int r)) n h := by
  refine Ev_of RX12 rfl (by decide) (Nat.le_of_ble_eq_true rfl) (Nat.le_refl _) (Or.inl rfl) (fun Z hZ hF hN hI => ?_)
  have H : Ok (f_X12_isDigit  a0) (fun y => y = r) := ⟨_, hf, rfl⟩
  unfold f_X12_isDigit at H
  refine r_ls (ls' := [(0, .int a0)]) rfl ?_
  refine r_iload_n hZ dX12_isDigit_0 rfl ?_
  refine r_bipush (v := (J 48)) hZ dX12_isDigit_1 (by decide) ?_
  refine ok_join (Q := fun j1 : Int32 => R Z 17 [] [.int j1] n h 0) H (fun j1 H => ?_) (fun H => ?_)
  · obtain ⟨u4, eu4, H⟩ := ok_bind H
    have H := ok_some H
    subst H
    exact r_zret hZ hF eu4 dX12_isDigit_17
  · refine r_icmp_lt (tgt := 16) hZ dX12_isDigit_3 (by decide) (fun c3 => ?_) (fun c3 => ?_)
    · have H := ok_t H c3
      refine r_iconst (v := (J 0)) hZ dX12_isDigit_16 (by decide) ?_
      have H := ok_some H
      exact r_pick [] (ls' := []) rfl H
    · have H := ok_f H c3
      refine r_iload_n hZ dX12_isDigit_6 rfl ?_
      refine r_bipush (v := (J 57)) hZ dX12_isDigit_7 (by decide) ?_
      refine r_icmp_gt (tgt := 16) hZ dX12_isDigit_9 (by decide) (fun c2 => ?_) (fun c2 => ?_)
      · have H := ok_t H c2
        refine r_iconst (v := (J 0)) hZ dX12_isDigit_16 (by decide) ?_
        have H := ok_some H
        exact r_pick [] (ls' := []) rfl H
      · have H := ok_f H c2
        refine r_iconst (v := (J 1)) hZ dX12_isDigit_12 (by decide) ?_
        refine r_goto (tgt := 17) hZ dX12_isDigit_13 (by decide) ?_
        have H := ok_some H
        exact r_pick [] (ls' := []) rfl H
def f_X12_isField  (a0 : Int32) : Option (Int32) :=
  ((if a0 = (J 101) then
    some (J 1)
  else
    (if a0 = (J 103) then
      some (J 1)
    else
      (if a0 = (J 119) then
        some (J 1)
      else
        (if a0 = (J 108) then
          some (J 1)
        else
          (if a0 = (J 114) then
            some (J 1)
          else
            (if a0 = (J 116) then
              some (J 1)
            else
              (if a0 = (J 117) then
                some (J 1)
              else
                some (J 0))))))))).bind fun (j1 : Int32) =>
  (bz j1).bind fun u9 =>
  some j1
set_option maxRecDepth 100000 in
set_option maxHeartbeats 4000000 in
theorem s_X12_isField {n : Nat} {h : Hp} {a0 : Int32}  {r : Int32} (hf : f_X12_isField  a0 = some r) : Ev 2 yX12_isField cX12_isField 1 (some .boolean) [.int a0] n h (some (.int r)) n h := by
  refine Ev_of RX12 rfl (by decide) (Nat.le_of_ble_eq_true rfl) (Nat.le_refl _) (Or.inl rfl) (fun Z hZ hF hN hI => ?_)
  have H : Ok (f_X12_isField  a0) (fun y => y = r) := ⟨_, hf, rfl⟩
  unfold f_X12_isField at H
  refine r_ls (ls' := [(0, .int a0)]) rfl ?_
  refine r_iload_n hZ dX12_isField_0 rfl ?_
  refine r_bipush (v := (J 101)) hZ dX12_isField_1 (by decide) ?_
  refine ok_join (Q := fun j1 : Int32 => R Z 47 [] [.int j1] n h 0) H (fun j1 H => ?_) (fun H => ?_)
  · obtain ⟨u9, eu9, H⟩ := ok_bind H
    have H := ok_some H
    subst H
    exact r_zret hZ hF eu9 dX12_isField_47
  · refine r_icmp_eq (tgt := 42) hZ dX12_isField_3 (by decide) (fun c8 => ?_) (fun c8 => ?_)
    · have H := ok_t H c8
      refine r_iconst (v := (J 1)) hZ dX12_isField_42 (by decide) ?_
      refine r_goto (tgt := 47) hZ dX12_isField_43 (by decide) ?_
      have H := ok_some H
      exact r_pick [] (ls' := []) rfl H
    · have H := ok_f H c8
      refine r_iload_n hZ dX12_isField_6 rfl ?_
      refine r_bipush (v := (J 103)) hZ dX12_isField_7 (by decide) ?_
      refine r_icmp_eq (tgt := 42) hZ dX12_isField_9 (by decide) (fun c7 => ?_) (fun c7 => ?_)
      · have H := ok_t H c7
        refine r_iconst (v := (J 1)) hZ dX12_isField_42 (by decide) ?_
        refine r_goto (tgt := 47) hZ dX12_isField_43 (by decide) ?_
        have H := ok_some H
        exact r_pick [] (ls' := []) rfl H
      · have H := ok_f H c7
        refine r_iload_n hZ dX12_isField_12 rfl ?_
        refine r_bipush (v := (J 119)) hZ dX12_isField_13 (by decide) ?_
        refine r_icmp_eq (tgt := 42) hZ dX12_isField_15 (by decide) (fun c6 => ?_) (fun c6 => ?_)
        · have H := ok_t H c6
          refine r_iconst (v := (J 1)) hZ dX12_isField_42 (by decide) ?_
          refine r_goto (tgt := 47) hZ dX12_isField_43 (by decide) ?_
          have H := ok_some H
          exact r_pick [] (ls' := []) rfl H
        · have H := ok_f H c6
          refine r_iload_n hZ dX12_isField_18 rfl ?_
          refine r_bipush (v := (J 108)) hZ dX12_isField_19 (by decide) ?_
          refine r_icmp_eq (tgt := 42) hZ dX12_isField_21 (by decide) (fun c5 => ?_) (fun c5 => ?_)
          · have H := ok_t H c5
            refine r_iconst (v := (J 1)) hZ dX12_isField_42 (by decide) ?_
            refine r_goto (tgt := 47) hZ dX12_isField_43 (by decide) ?_
            have H := ok_some H
            exact r_pick [] (ls' := []) rfl H
          · have H := ok_f H c5
            refine r_iload_n hZ dX12_isField_24 rfl ?_
            refine r_bipush (v := (J 114)) hZ dX12_isField_25 (by decide) ?_
            refine r_icmp_eq (tgt := 42) hZ dX12_isField_27 (by decide) (fun c4 => ?_) (fun c4 => ?_)
            · have H := ok_t H c4
              refine r_iconst (v := (J 1)) hZ dX12_isField_42 (by decide) ?_
              refine r_goto (tgt := 47) hZ dX12_isField_43 (by decide) ?_
              have H := ok_some H
              exact r_pick [] (ls' := []) rfl H
            · have H := ok_f H c4
              refine r_iload_n hZ dX12_isField_30 rfl ?_
              refine r_bipush (v := (J 116)) hZ dX12_isField_31 (by decide) ?_
              refine r_icmp_eq (tgt := 42) hZ dX12_isField_33 (by decide) (fun c3 => ?_) (fun c3 => ?_)
              · have H := ok_t H c3
                refine r_iconst (v := (J 1)) hZ dX12_isField_42 (by decide) ?_
                refine r_goto (tgt := 47) hZ dX12_isField_43 (by decide) ?_
                have H := ok_some H
                exact r_pick [] (ls' := []) rfl H
              · have H := ok_f H c3
                refine r_iload_n hZ dX12_isField_36 rfl ?_
                refine r_bipush (v := (J 117)) hZ dX12_isField_37 (by decide) ?_
                refine r_icmp_ne (tgt := 46) hZ dX12_isField_39 (by decide) (fun c2 => ?_) (fun c2 => ?_)
                · have H := ok_f H c2
                  refine r_iconst (v := (J 0)) hZ dX12_isField_46 (by decide) ?_
                  have H := ok_some H
                  exact r_pick [] (ls' := []) rfl H
                · have H := ok_t H c2
                  refine r_iconst (v := (J 1)) hZ dX12_isField_42 (by decide) ?_
                  refine r_goto (tgt := 47) hZ dX12_isField_43 (by decide) ?_
                  have H := ok_some H
                  exact r_pick [] (ls' := []) rfl H
def b_X12_readsAtom_61 (p0 : Nat) (p1 : Int32) (s : Int32 × Hp) : Option ((Int32 × Hp) ⊕ ((Hp))) :=
  (if (J 4) ≤ s.1 then
    some (.inr (s.2))
  else
    (if p1 = 0 then
      (isO s.2 p0 11).bind fun u1 =>
      (f_X12_sign s.2 p0).bind fun r2 =>
      (f_X12_isDigit r2).bind fun r3 =>
      (if r3 = 0 then
        some (.inr (s.2))
      else
        (gI s.2 p0 11 12).bind fun x4 =>
        (pF s.2 p0 11 12 (.int (x4 + (J 1)))).bind fun h5 =>
        (some (s.1 + (J 1))).bind fun x6 =>
        some (.inl (x6, h5)))
    else
      some (.inr (s.2))))
set_option maxRecDepth 100000 in
set_option maxHeartbeats 4000000 in
theorem l_X12_readsAtom_61 {Z : Zc} (hZ : Fx cX12_readsAtom RX12 3 3 0 Z) {n : Nat} {p0 : Nat} {p1 : Int32} {P : ((Hp)) → Prop} (hx0 : ∀ e : Hp, P (e) → R Z 96 [] [] n e 0) : ∀ (m : Nat) (s : Int32 × Hp), Ok (iter (b_X12_readsAtom_61 p0 p1) m s) P → R Z 61 [(0, .ref p0), (1, .int p1), (2, .int s.1)] [] n s.2 0 := by
  intro m
  induction m with
  | zero => exact fun s H => ok_iter0 H
  | succ m ih =>
    intro s H
    have H := ok_iter H
    unfold b_X12_readsAtom_61 at H
    refine r_iload_n hZ dX12_readsAtom_61 rfl ?_
    refine r_iconst (v := (J 4)) hZ dX12_readsAtom_62 (by decide) ?_
    refine r_icmp_ge (tgt := 96) hZ dX12_readsAtom_63 (by decide) (fun c9 => ?_) (fun c9 => ?_)
    · have H := ok_t H c9
      exact r_pick [] (ls' := []) rfl (hx0 _ (ki_r H))
    · have H := ok_f H c9
      refine r_iload_n hZ dX12_readsAtom_66 rfl ?_
      refine r_if_ne (tgt := 96) hZ dX12_readsAtom_67 (by decide) (fun c8 => ?_) (fun c8 => ?_)
      · have H := ok_f H c8
        exact r_pick [] (ls' := []) rfl (hx0 _ (ki_r H))
      · have H := ok_t H c8
        refine r_aload_n hZ dX12_readsAtom_70 rfl ?_
        obtain ⟨u1, eu1, H⟩ := ok_bind H
        obtain ⟨r2, er2, H⟩ := ok_bind H
        refine r_callV (As := []) (rest := []) (st1 := [.int r2]) (N2 := 0) hZ dX12_readsAtom_71 cw_X12_99_X12 rfl eu1 (s_X12_sign er2) rfl rfl (by decide) (Nat.le_of_ble_eq_true rfl) (Nat.le_refl 0) (Nat.le_refl _) (Or.inl rfl) rfl ?_
        obtain ⟨r3, er3, H⟩ := ok_bind H
        refine r_callS (As := [.int r2]) (rest := []) (st1 := [.int r3]) (N2 := 0) hZ dX12_readsAtom_74 cw_X12_308 (s_X12_isDigit er3) rfl rfl (by decide) (Nat.le_of_ble_eq_true rfl) (Nat.le_refl 0) (Nat.le_refl _) (Or.inl rfl) rfl ?_
        refine r_if_eq (tgt := 96) hZ dX12_readsAtom_77 (by decide) (fun c7 => ?_) (fun c7 => ?_)
        · have H := ok_t H c7
          exact r_pick [] (ls' := []) rfl (hx0 _ (ki_r H))
        · have H := ok_f H c7
          refine r_aload_n hZ dX12_readsAtom_80 rfl ?_
          refine r_dup_a hZ dX12_readsAtom_81 ?_
          obtain ⟨x4, ex4, H⟩ := ok_bind H
          refine r_getI hZ fl_X12_90_11 dX12_readsAtom_82 ex4 ?_
          refine r_iconst (v := (J 1)) hZ dX12_readsAtom_85 (by decide) ?_
          refine r_iadd hZ dX12_readsAtom_86 ?_
          obtain ⟨h5, eh5, H⟩ := ok_bind H
          refine r_putf hZ fl_X12_90_11 dX12_readsAtom_87 eh5 rfl rfl ?_
          obtain ⟨x6, ex6, H⟩ := ok_bind H
          refine r_iincE (w := (J 1)) hZ dX12_readsAtom_90 (by decide) rfl (by decide) ex6 (r_pick [0, 1, 2] (ls' := [(0, .ref p0), (1, .int p1), (2, .int x6)]) rfl ?_)
          refine r_goto (tgt := 61) hZ dX12_readsAtom_93 (by decide) ?_
          exact r_pick [0, 1, 2] (ls' := [(0, .ref p0), (1, .int p1), (2, .int x6)]) rfl (ih _ (ki_l H))
def f_X12_readsAtom  (h : Hp) (a0 : Nat) : Option (Int32 × Hp) :=
  (isO h a0 11).bind fun u1 =>
  (f_X12_sign h a0).bind fun r2 =>
  (f_X12_isField r2).bind fun r3 =>
  (if r3 = 0 then
    (isO h a0 11).bind fun u4 =>
    (f_X12_sign h a0).bind fun r5 =>
    (f_X12_isDigit r5).bind fun r6 =>
    (if r6 = 0 then
      some ((J 0), h)
    else
      (isO h a0 11).bind fun u7 =>
      (f_X12_sign h a0).bind fun r8 =>
      ((if r8 = (J 48) then
        some (J 1)
      else
        some (J 0))).bind fun (j9 : Int32) =>
      (gI h a0 11 12).bind fun x11 =>
      (pF h a0 11 12 (.int (x11 + (J 1)))).bind fun h12 =>
      (some (J 1)).bind fun x13 =>
      (iter (b_X12_readsAtom_61 a0 j9) FU (x13, h12)).bind fun e14 =>
      some ((J 1), e14))
  else
    (gI h a0 11 12).bind fun x16 =>
    (pF h a0 11 12 (.int (x16 + (J 1)))).bind fun h17 =>
    some ((J 1), h17))
set_option maxRecDepth 100000 in
set_option maxHeartbeats 4000000 in
theorem s_X12_readsAtom {n : Nat} {h : Hp} {a0 : Nat}  {r : Int32 × Hp} (hf : f_X12_readsAtom  h a0 = some r) : Ev 3 yX12_readsAtom cX12_readsAtom 3 (some .boolean) [.ref a0] n h (some (.int r.1)) n r.2 := by
  refine Ev_of RX12 rfl (by decide) (Nat.le_of_ble_eq_true rfl) (Nat.le_refl _) (Or.inl rfl) (fun Z hZ hF hN hI => ?_)
  have H : Ok (f_X12_readsAtom  h a0) (fun y => y = r) := ⟨_, hf, rfl⟩
  unfold f_X12_readsAtom at H
  refine r_ls (ls' := [(0, .ref a0)]) rfl ?_
  refine r_aload_n hZ dX12_readsAtom_0 rfl ?_
  obtain ⟨u1, eu1, H⟩ := ok_bind H
  obtain ⟨r2, er2, H⟩ := ok_bind H
  refine r_callV (As := []) (rest := []) (st1 := [.int r2]) (N2 := 0) hZ dX12_readsAtom_1 cw_X12_99_X12 rfl eu1 (s_X12_sign er2) rfl rfl (by decide) (Nat.le_of_ble_eq_true rfl) (Nat.le_refl 0) (Nat.le_refl _) (Or.inl rfl) rfl ?_
  obtain ⟨r3, er3, H⟩ := ok_bind H
  refine r_callS (As := [.int r2]) (rest := []) (st1 := [.int r3]) (N2 := 0) hZ dX12_readsAtom_4 cw_X12_305 (s_X12_isField er3) rfl rfl (by decide) (Nat.le_of_ble_eq_true rfl) (Nat.le_refl 0) (Nat.le_refl _) (Or.inl rfl) rfl ?_
  refine r_if_eq (tgt := 22) hZ dX12_readsAtom_7 (by decide) (fun c18 => ?_) (fun c18 => ?_)
  · have H := ok_t H c18
    refine r_aload_n hZ dX12_readsAtom_22 rfl ?_
    obtain ⟨u4, eu4, H⟩ := ok_bind H
    obtain ⟨r5, er5, H⟩ := ok_bind H
    refine r_callV (As := []) (rest := []) (st1 := [.int r5]) (N2 := 0) hZ dX12_readsAtom_23 cw_X12_99_X12 rfl eu4 (s_X12_sign er5) rfl rfl (by decide) (Nat.le_of_ble_eq_true rfl) (Nat.le_refl 0) (Nat.le_refl _) (Or.inl rfl) rfl ?_
    obtain ⟨r6, er6, H⟩ := ok_bind H
    refine r_callS (As := [.int r5]) (rest := []) (st1 := [.int r6]) (N2 := 0) hZ dX12_readsAtom_26 cw_X12_308 (s_X12_isDigit er6) rfl rfl (by decide) (Nat.le_of_ble_eq_true rfl) (Nat.le_refl 0) (Nat.le_refl _) (Or.inl rfl) rfl ?_
    refine r_if_ne (tgt := 34) hZ dX12_readsAtom_29 (by decide) (fun c15 => ?_) (fun c15 => ?_)
    · have H := ok_f H c15
      refine r_aload_n hZ dX12_readsAtom_34 rfl ?_
      obtain ⟨u7, eu7, H⟩ := ok_bind H
      obtain ⟨r8, er8, H⟩ := ok_bind H
      refine r_callV (As := []) (rest := []) (st1 := [.int r8]) (N2 := 0) hZ dX12_readsAtom_35 cw_X12_99_X12 rfl eu7 (s_X12_sign er8) rfl rfl (by decide) (Nat.le_of_ble_eq_true rfl) (Nat.le_refl 0) (Nat.le_refl _) (Or.inl rfl) rfl ?_
      refine r_bipush (v := (J 48)) hZ dX12_readsAtom_38 (by decide) ?_
      refine ok_join (Q := fun j9 : Int32 => R Z 48 [(0, .ref a0)] [.int j9] n h 0) H (fun j9 H => ?_) (fun H => ?_)
      · refine r_istore_n hZ dX12_readsAtom_48 (by decide) (r_pick [0, 1] (ls' := [(0, .ref a0), (1, .int j9)]) rfl ?_)
        refine r_aload_n hZ dX12_readsAtom_49 rfl ?_
        refine r_dup_a hZ dX12_readsAtom_50 ?_
        obtain ⟨x11, ex11, H⟩ := ok_bind H
        refine r_getI hZ fl_X12_90_11 dX12_readsAtom_51 ex11 ?_
        refine r_iconst (v := (J 1)) hZ dX12_readsAtom_54 (by decide) ?_
        refine r_iadd hZ dX12_readsAtom_55 ?_
        obtain ⟨h12, eh12, H⟩ := ok_bind H
        refine r_putf hZ fl_X12_90_11 dX12_readsAtom_56 eh12 rfl rfl ?_
        refine r_iconst (v := (J 1)) hZ dX12_readsAtom_59 (by decide) ?_
        obtain ⟨x13, ex13, H⟩ := ok_bind H
        refine r_topi ex13 ?_
        refine r_istore_n hZ dX12_readsAtom_60 (by decide) (r_pick [0, 1, 2] (ls' := [(0, .ref a0), (1, .int j9), (2, .int x13)]) rfl ?_)
        have H := ok_bindK H
        refine r_pick [0, 1, 2] (ls' := [(0, .ref a0), (1, .int j9), (2, .int x13)]) rfl (l_X12_readsAtom_61 hZ (fun e14 H => ?_) FU _ H)
        · refine r_iconst (v := (J 1)) hZ dX12_readsAtom_96 (by decide) ?_
          have H := ok_some H
          subst H
          exact r_zret hZ hF (by decide) dX12_readsAtom_97
      · refine r_icmp_ne (tgt := 47) hZ dX12_readsAtom_40 (by decide) (fun c10 => ?_) (fun c10 => ?_)
        · have H := ok_f H c10
          refine r_iconst (v := (J 0)) hZ dX12_readsAtom_47 (by decide) ?_
          have H := ok_some H
          exact r_pick [0] (ls' := [(0, .ref a0)]) rfl H
        · have H := ok_t H c10
          refine r_iconst (v := (J 1)) hZ dX12_readsAtom_43 (by decide) ?_
          refine r_goto (tgt := 48) hZ dX12_readsAtom_44 (by decide) ?_
          have H := ok_some H
          exact r_pick [0] (ls' := [(0, .ref a0)]) rfl H
    · have H := ok_t H c15
      refine r_iconst (v := (J 0)) hZ dX12_readsAtom_32 (by decide) ?_
      have H := ok_some H
      subst H
      exact r_zret hZ hF (by decide) dX12_readsAtom_33
  · have H := ok_f H c18
    refine r_aload_n hZ dX12_readsAtom_10 rfl ?_
    refine r_dup_a hZ dX12_readsAtom_11 ?_
    obtain ⟨x16, ex16, H⟩ := ok_bind H
    refine r_getI hZ fl_X12_90_11 dX12_readsAtom_12 ex16 ?_
    refine r_iconst (v := (J 1)) hZ dX12_readsAtom_15 (by decide) ?_
    refine r_iadd hZ dX12_readsAtom_16 ?_
    obtain ⟨h17, eh17, H⟩ := ok_bind H
    refine r_putf hZ fl_X12_90_11 dX12_readsAtom_17 eh17 rfl rfl ?_
    refine r_iconst (v := (J 1)) hZ dX12_readsAtom_20 (by decide) ?_
    have H := ok_some H
    subst H
    exact r_zret hZ hF (by decide) dX12_readsAtom_21
def b_X12_readsSum_9 (p0 : Nat) (s : Hp) : Option ((Hp) ⊕ ((Hp) ⊕ (Hp))) :=
  (isO s p0 11).bind fun u1 =>
  (f_X12_takes s p0 (J 43)).bind fun r2 =>
  (if r2.1 = 0 then
    (isO r2.2 p0 11).bind fun u6 =>
    (f_X12_takes r2.2 p0 (J 45)).bind fun r7 =>
    (if r7.1 = 0 then
      some (.inr (.inl r7.2))
    else
      (isO r7.2 p0 11).bind fun u8 =>
      (f_X12_readsAtom r7.2 p0).bind fun r9 =>
      (if r9.1 = 0 then
        some (.inr (.inr r9.2))
      else
        some (.inl r9.2)))
  else
    (isO r2.2 p0 11).bind fun u3 =>
    (f_X12_readsAtom r2.2 p0).bind fun r4 =>
    (if r4.1 = 0 then
      some (.inr (.inr r4.2))
    else
      some (.inl r4.2)))
set_option maxRecDepth 100000 in
set_option maxHeartbeats 4000000 in
theorem l_X12_readsSum_9 {Z : Zc} (hZ : Fx cX12_readsSum RX12 1 4 0 Z) {n : Nat} {p0 : Nat} {P : ((Hp) ⊕ (Hp)) → Prop} (hx0 : ∀ e : Hp, P (.inl e) → R Z 36 [] [] n e 0) (hx1 : ∀ e : Hp, P (.inr e) → R Z 34 [] [] n e 0) : ∀ (m : Nat) (s : Hp), Ok (iter (b_X12_readsSum_9 p0) m s) P → R Z 9 [(0, .ref p0)] [] n s 0 := by
  intro m
  induction m with
  | zero => exact fun s H => ok_iter0 H
  | succ m ih =>
    intro s H
    have H := ok_iter H
    unfold b_X12_readsSum_9 at H
    refine r_aload_n hZ dX12_readsSum_9 rfl ?_
    refine r_bipush (v := (J 43)) hZ dX12_readsSum_10 (by decide) ?_
    obtain ⟨u1, eu1, H⟩ := ok_bind H
    obtain ⟨r2, er2, H⟩ := ok_bind H
    refine r_callV (As := [.int (J 43)]) (rest := []) (st1 := [.int r2.1]) (N2 := 0) hZ dX12_readsSum_12 cw_X12_110_X12 rfl eu1 (s_X12_takes er2) rfl rfl (by decide) (Nat.le_of_ble_eq_true rfl) (Nat.le_refl 0) (Nat.le_refl _) (Or.inl rfl) rfl ?_
    refine r_if_ne (tgt := 27) hZ dX12_readsSum_15 (by decide) (fun c12 => ?_) (fun c12 => ?_)
    · have H := ok_f H c12
      refine r_aload_n hZ dX12_readsSum_27 rfl ?_
      obtain ⟨u3, eu3, H⟩ := ok_bind H
      obtain ⟨r4, er4, H⟩ := ok_bind H
      refine r_callV (As := []) (rest := []) (st1 := [.int r4.1]) (N2 := 0) hZ dX12_readsSum_28 cw_X12_302_X12 rfl eu3 (s_X12_readsAtom er4) rfl rfl (by decide) (Nat.le_of_ble_eq_true rfl) (Nat.le_refl 0) (Nat.le_refl _) (Or.inl rfl) rfl ?_
      refine r_if_ne (tgt := 9) hZ dX12_readsSum_31 (by decide) (fun c5 => ?_) (fun c5 => ?_)
      · have H := ok_f H c5
        exact r_pick [0] (ls' := [(0, .ref p0)]) rfl (ih _ (ki_l H))
      · have H := ok_t H c5
        exact r_pick [] (ls' := []) rfl (hx1 _ (ki_r H))
    · have H := ok_t H c12
      refine r_aload_n hZ dX12_readsSum_18 rfl ?_
      refine r_bipush (v := (J 45)) hZ dX12_readsSum_19 (by decide) ?_
      obtain ⟨u6, eu6, H⟩ := ok_bind H
      obtain ⟨r7, er7, H⟩ := ok_bind H
      refine r_callV (As := [.int (J 45)]) (rest := []) (st1 := [.int r7.1]) (N2 := 0) hZ dX12_readsSum_21 cw_X12_110_X12 rfl eu6 (s_X12_takes er7) rfl rfl (by decide) (Nat.le_of_ble_eq_true rfl) (Nat.le_refl 0) (Nat.le_refl _) (Or.inl rfl) rfl ?_
      refine r_if_eq (tgt := 36) hZ dX12_readsSum_24 (by decide) (fun c11 => ?_) (fun c11 => ?_)
      · have H := ok_t H c11
        exact r_pick [] (ls' := []) rfl (hx0 _ (ki_r H))
      · have H := ok_f H c11
        refine r_aload_n hZ dX12_readsSum_27 rfl ?_
        obtain ⟨u8, eu8, H⟩ := ok_bind H
        obtain ⟨r9, er9, H⟩ := ok_bind H
        refine r_callV (As := []) (rest := []) (st1 := [.int r9.1]) (N2 := 0) hZ dX12_readsSum_28 cw_X12_302_X12 rfl eu8 (s_X12_readsAtom er9) rfl rfl (by decide) (Nat.le_of_ble_eq_true rfl) (Nat.le_refl 0) (Nat.le_refl _) (Or.inl rfl) rfl ?_
        refine r_if_ne (tgt := 9) hZ dX12_readsSum_31 (by decide) (fun c10 => ?_) (fun c10 => ?_)
        · have H := ok_f H c10
          exact r_pick [0] (ls' := [(0, .ref p0)]) rfl (ih _ (ki_l H))
        · have H := ok_t H c10
          exact r_pick [] (ls' := []) rfl (hx1 _ (ki_r H))
def f_X12_readsSum  (h : Hp) (a0 : Nat) : Option (Int32 × Hp) :=
  (isO h a0 11).bind fun u1 =>
  (f_X12_readsAtom h a0).bind fun r2 =>
  (if r2.1 = 0 then
    some ((J 0), r2.2)
  else
    (iter (b_X12_readsSum_9 a0) FU r2.2).bind fun e3 =>
    (match e3 with
    | .inl e4 =>
      some ((J 1), e4)
    | .inr e5 =>
      some ((J 0), e5)))
set_option maxRecDepth 100000 in
set_option maxHeartbeats 4000000 in
theorem s_X12_readsSum {n : Nat} {h : Hp} {a0 : Nat}  {r : Int32 × Hp} (hf : f_X12_readsSum  h a0 = some r) : Ev 4 yX12_readsSum cX12_readsSum 1 (some .boolean) [.ref a0] n h (some (.int r.1)) n r.2 := by
  refine Ev_of RX12 rfl (by decide) (Nat.le_of_ble_eq_true rfl) (Nat.le_refl _) (Or.inl rfl) (fun Z hZ hF hN hI => ?_)
  have H : Ok (f_X12_readsSum  h a0) (fun y => y = r) := ⟨_, hf, rfl⟩
  unfold f_X12_readsSum at H
  refine r_ls (ls' := [(0, .ref a0)]) rfl ?_
  refine r_aload_n hZ dX12_readsSum_0 rfl ?_
  obtain ⟨u1, eu1, H⟩ := ok_bind H
  obtain ⟨r2, er2, H⟩ := ok_bind H
  refine r_callV (As := []) (rest := []) (st1 := [.int r2.1]) (N2 := 0) hZ dX12_readsSum_1 cw_X12_302_X12 rfl eu1 (s_X12_readsAtom er2) rfl rfl (by decide) (Nat.le_of_ble_eq_true rfl) (Nat.le_refl 0) (Nat.le_refl _) (Or.inl rfl) rfl ?_
  refine r_if_ne (tgt := 9) hZ dX12_readsSum_4 (by decide) (fun c6 => ?_) (fun c6 => ?_)
  · have H := ok_f H c6
    have H := ok_bindK H
    refine r_pick [0] (ls' := [(0, .ref a0)]) rfl (l_X12_readsSum_9 hZ (fun e4 H => ?_) (fun e5 H => ?_) FU _ H)
    · refine r_iconst (v := (J 1)) hZ dX12_readsSum_36 (by decide) ?_
      have H := ok_some H
      subst H
      exact r_zret hZ hF (by decide) dX12_readsSum_37
    · refine r_iconst (v := (J 0)) hZ dX12_readsSum_34 (by decide) ?_
      have H := ok_some H
      subst H
      exact r_zret hZ hF (by decide) dX12_readsSum_35
  · have H := ok_t H c6
    refine r_iconst (v := (J 0)) hZ dX12_readsSum_7 (by decide) ?_
    have H := ok_some H
    subst H
    exact r_zret hZ hF (by decide) dX12_readsSum_8
def F_X12_readsTest (g_X12_readsOr : Hp → Nat → Option (Int32 × Hp)) (g_X12_readsTest : Hp → Nat → Option (Int32 × Hp)) (h : Hp) (a0 : Nat) : Option (Int32 × Hp) :=
  (isO h a0 11).bind fun u1 =>
  (f_X12_takes h a0 (J 33)).bind fun r2 =>
  (if r2.1 = 0 then
    (isO r2.2 a0 11).bind fun u3 =>
    (f_X12_sign r2.2 a0).bind fun r4 =>
    (if r4 = (J 40) then
      (gI r2.2 a0 11 25).bind fun x26 =>
      (if x26 = (J 8) then
        some ((J 0), r2.2)
      else
        (gI r2.2 a0 11 12).bind fun x27 =>
        (pF r2.2 a0 11 12 (.int (x27 + (J 1)))).bind fun h28 =>
        (gI h28 a0 11 25).bind fun x29 =>
        (pF h28 a0 11 25 (.int (x29 + (J 1)))).bind fun h30 =>
        (isO h30 a0 11).bind fun u31 =>
        (g_X12_readsOr h30 a0).bind fun r32 =>
        (if r32.1 = 0 then
          some ((J 0), r32.2)
        else
          (isO r32.2 a0 11).bind fun u33 =>
          (f_X12_takes r32.2 a0 (J 41)).bind fun r34 =>
          (if r34.1 = 0 then
            some ((J 0), r34.2)
          else
            (gI r34.2 a0 11 25).bind fun x35 =>
            (pF r34.2 a0 11 25 (.int (x35 - (J 1)))).bind fun h36 =>
            some ((J 1), h36))))
    else
      (isO r2.2 a0 11).bind fun u5 =>
      (f_X12_readsSum r2.2 a0).bind fun r6 =>
      (if r6.1 = 0 then
        some ((J 0), r6.2)
      else
        (isO r6.2 a0 11).bind fun u7 =>
        (f_X12_takes r6.2 a0 (J 60)).bind fun r8 =>
        (if r8.1 = 0 then
          (isO r8.2 a0 11).bind fun u12 =>
          (f_X12_takes r8.2 a0 (J 62)).bind fun r13 =>
          (if r13.1 = 0 then
            (isO r13.2 a0 11).bind fun u17 =>
            (f_X12_takes r13.2 a0 (J 61)).bind fun r18 =>
            (if r18.1 = 0 then
              some ((J 0), r18.2)
            else
              (isO r18.2 a0 11).bind fun u19 =>
              (f_X12_readsSum r18.2 a0).bind fun r20 =>
              (bz r20.1).bind fun u21 =>
              some (r20.1, r20.2))
          else
            (isO r13.2 a0 11).bind fun u14 =>
            (f_X12_readsSum r13.2 a0).bind fun r15 =>
            (bz r15.1).bind fun u16 =>
            some (r15.1, r15.2))
        else
          (isO r8.2 a0 11).bind fun u9 =>
          (f_X12_readsSum r8.2 a0).bind fun r10 =>
          (bz r10.1).bind fun u11 =>
          some (r10.1, r10.2))))
  else
    (isO r2.2 a0 11).bind fun u41 =>
    (g_X12_readsTest r2.2 a0).bind fun r42 =>
    (bz r42.1).bind fun u43 =>
    some (r42.1, r42.2))
set_option maxRecDepth 100000 in
set_option maxHeartbeats 4000000 in
theorem sF_X12_readsTest {d : Nat} (hd9 : 4 < d) {dr_X12_readsOr : Nat} (hd_X12_readsOr : dr_X12_readsOr < d) {g_X12_readsOr : Hp → Nat → Option (Int32 × Hp)} {dr_X12_readsTest : Nat} (hd_X12_readsTest : dr_X12_readsTest < d) {g_X12_readsTest : Hp → Nat → Option (Int32 × Hp)} {n : Nat} {h : Hp} {a0 : Nat} (hg_X12_readsOr : ∀ {n : Nat} {h : Hp} {b0 : Nat} {r : _}, g_X12_readsOr h b0 = some r → Ev dr_X12_readsOr yX12_readsOr cX12_readsOr 1 (some .boolean) [.ref b0] n h (some (.int r.1)) n r.2) (hg_X12_readsTest : ∀ {n : Nat} {h : Hp} {b0 : Nat} {r : _}, g_X12_readsTest h b0 = some r → Ev dr_X12_readsTest yX12_readsTest cX12_readsTest 1 (some .boolean) [.ref b0] n h (some (.int r.1)) n r.2) {r : Int32 × Hp} (hf : F_X12_readsTest g_X12_readsOr g_X12_readsTest h a0 = some r) : Ev d yX12_readsTest cX12_readsTest 1 (some .boolean) [.ref a0] n h (some (.int r.1)) n r.2 := by
  refine Ev_of RX12 rfl (by decide) (Nat.le_of_ble_eq_true rfl) (Nat.le_refl _) (Or.inl rfl) (fun Z hZ hF hN hI => ?_)
  have H : Ok (F_X12_readsTest g_X12_readsOr g_X12_readsTest h a0) (fun y => y = r) := ⟨_, hf, rfl⟩
  unfold F_X12_readsTest at H
  refine r_ls (ls' := [(0, .ref a0)]) rfl ?_
  refine r_aload_n hZ dX12_readsTest_0 rfl ?_
  refine r_bipush (v := (J 33)) hZ dX12_readsTest_1 (by decide) ?_
  obtain ⟨u1, eu1, H⟩ := ok_bind H
  obtain ⟨r2, er2, H⟩ := ok_bind H
  refine r_callV (As := [.int (J 33)]) (rest := []) (st1 := [.int r2.1]) (N2 := 0) hZ dX12_readsTest_3 cw_X12_110_X12 rfl eu1 (s_X12_takes er2) rfl rfl (by omega) (Nat.le_of_ble_eq_true rfl) (Nat.le_refl 0) (Nat.le_refl _) (Or.inl rfl) rfl ?_
  refine r_if_eq (tgt := 14) hZ dX12_readsTest_6 (by decide) (fun c44 => ?_) (fun c44 => ?_)
  · have H := ok_t H c44
    refine r_aload_n hZ dX12_readsTest_14 rfl ?_
    obtain ⟨u3, eu3, H⟩ := ok_bind H
    obtain ⟨r4, er4, H⟩ := ok_bind H
    refine r_callV (As := []) (rest := []) (st1 := [.int r4]) (N2 := 0) hZ dX12_readsTest_15 cw_X12_99_X12 rfl eu3 (s_X12_sign er4) rfl rfl (by omega) (Nat.le_of_ble_eq_true rfl) (Nat.le_refl 0) (Nat.le_refl _) (Or.inl rfl) rfl ?_
    refine r_bipush (v := (J 40)) hZ dX12_readsTest_18 (by decide) ?_
    refine r_icmp_ne (tgt := 84) hZ dX12_readsTest_20 (by decide) (fun c40 => ?_) (fun c40 => ?_)
    · have H := ok_f H c40
      refine r_aload_n hZ dX12_readsTest_84 rfl ?_
      obtain ⟨u5, eu5, H⟩ := ok_bind H
      obtain ⟨r6, er6, H⟩ := ok_bind H
      refine r_callV (As := []) (rest := []) (st1 := [.int r6.1]) (N2 := 0) hZ dX12_readsTest_85 cw_X12_299_X12 rfl eu5 (s_X12_readsSum er6) rfl rfl (by omega) (Nat.le_of_ble_eq_true rfl) (Nat.le_refl 0) (Nat.le_refl _) (Or.inl rfl) rfl ?_
      refine r_if_eq (tgt := 118) hZ dX12_readsTest_88 (by decide) (fun c25 => ?_) (fun c25 => ?_)
      · have H := ok_t H c25
        refine r_iconst (v := (J 0)) hZ dX12_readsTest_118 (by decide) ?_
        have H := ok_some H
        subst H
        exact r_zret hZ hF (by decide) dX12_readsTest_119
      · have H := ok_f H c25
        refine r_aload_n hZ dX12_readsTest_91 rfl ?_
        refine r_bipush (v := (J 60)) hZ dX12_readsTest_92 (by decide) ?_
        obtain ⟨u7, eu7, H⟩ := ok_bind H
        obtain ⟨r8, er8, H⟩ := ok_bind H
        refine r_callV (As := [.int (J 60)]) (rest := []) (st1 := [.int r8.1]) (N2 := 0) hZ dX12_readsTest_94 cw_X12_110_X12 rfl eu7 (s_X12_takes er8) rfl rfl (by omega) (Nat.le_of_ble_eq_true rfl) (Nat.le_refl 0) (Nat.le_refl _) (Or.inl rfl) rfl ?_
        refine r_if_ne (tgt := 120) hZ dX12_readsTest_97 (by decide) (fun c24 => ?_) (fun c24 => ?_)
        · have H := ok_f H c24
          refine r_aload_n hZ dX12_readsTest_120 rfl ?_
          obtain ⟨u9, eu9, H⟩ := ok_bind H
          obtain ⟨r10, er10, H⟩ := ok_bind H
          refine r_callV (As := []) (rest := []) (st1 := [.int r10.1]) (N2 := 0) hZ dX12_readsTest_121 cw_X12_299_X12 rfl eu9 (s_X12_readsSum er10) rfl rfl (by omega) (Nat.le_of_ble_eq_true rfl) (Nat.le_refl 0) (Nat.le_refl _) (Or.inl rfl) rfl ?_
          obtain ⟨u11, eu11, H⟩ := ok_bind H
          have H := ok_some H
          subst H
          exact r_zret hZ hF eu11 dX12_readsTest_124
        · have H := ok_t H c24
          refine r_aload_n hZ dX12_readsTest_100 rfl ?_
          refine r_bipush (v := (J 62)) hZ dX12_readsTest_101 (by decide) ?_
          obtain ⟨u12, eu12, H⟩ := ok_bind H
          obtain ⟨r13, er13, H⟩ := ok_bind H
          refine r_callV (As := [.int (J 62)]) (rest := []) (st1 := [.int r13.1]) (N2 := 0) hZ dX12_readsTest_103 cw_X12_110_X12 rfl eu12 (s_X12_takes er13) rfl rfl (by omega) (Nat.le_of_ble_eq_true rfl) (Nat.le_refl 0) (Nat.le_refl _) (Or.inl rfl) rfl ?_
          refine r_if_ne (tgt := 120) hZ dX12_readsTest_106 (by decide) (fun c23 => ?_) (fun c23 => ?_)
          · have H := ok_f H c23
            refine r_aload_n hZ dX12_readsTest_120 rfl ?_
            obtain ⟨u14, eu14, H⟩ := ok_bind H
            obtain ⟨r15, er15, H⟩ := ok_bind H
            refine r_callV (As := []) (rest := []) (st1 := [.int r15.1]) (N2 := 0) hZ dX12_readsTest_121 cw_X12_299_X12 rfl eu14 (s_X12_readsSum er15) rfl rfl (by omega) (Nat.le_of_ble_eq_true rfl) (Nat.le_refl 0) (Nat.le_refl _) (Or.inl rfl) rfl ?_
            obtain ⟨u16, eu16, H⟩ := ok_bind H
            have H := ok_some H
            subst H
            exact r_zret hZ hF eu16 dX12_readsTest_124
          · have H := ok_t H c23
            refine r_aload_n hZ dX12_readsTest_109 rfl ?_
            refine r_bipush (v := (J 61)) hZ dX12_readsTest_110 (by decide) ?_
            obtain ⟨u17, eu17, H⟩ := ok_bind H
            obtain ⟨r18, er18, H⟩ := ok_bind H
            refine r_callV (As := [.int (J 61)]) (rest := []) (st1 := [.int r18.1]) (N2 := 0) hZ dX12_readsTest_112 cw_X12_110_X12 rfl eu17 (s_X12_takes er18) rfl rfl (by omega) (Nat.le_of_ble_eq_true rfl) (Nat.le_refl 0) (Nat.le_refl _) (Or.inl rfl) rfl ?_
            refine r_if_ne (tgt := 120) hZ dX12_readsTest_115 (by decide) (fun c22 => ?_) (fun c22 => ?_)
            · have H := ok_f H c22
              refine r_aload_n hZ dX12_readsTest_120 rfl ?_
              obtain ⟨u19, eu19, H⟩ := ok_bind H
              obtain ⟨r20, er20, H⟩ := ok_bind H
              refine r_callV (As := []) (rest := []) (st1 := [.int r20.1]) (N2 := 0) hZ dX12_readsTest_121 cw_X12_299_X12 rfl eu19 (s_X12_readsSum er20) rfl rfl (by omega) (Nat.le_of_ble_eq_true rfl) (Nat.le_refl 0) (Nat.le_refl _) (Or.inl rfl) rfl ?_
              obtain ⟨u21, eu21, H⟩ := ok_bind H
              have H := ok_some H
              subst H
              exact r_zret hZ hF eu21 dX12_readsTest_124
            · have H := ok_t H c22
              refine r_iconst (v := (J 0)) hZ dX12_readsTest_118 (by decide) ?_
              have H := ok_some H
              subst H
              exact r_zret hZ hF (by decide) dX12_readsTest_119
    · have H := ok_t H c40
      refine r_aload_n hZ dX12_readsTest_23 rfl ?_
      obtain ⟨x26, ex26, H⟩ := ok_bind H
      refine r_getI hZ fl_X12_293_11 dX12_readsTest_24 ex26 ?_
      refine r_bipush (v := (J 8)) hZ dX12_readsTest_27 (by decide) ?_
      refine r_icmp_ne (tgt := 34) hZ dX12_readsTest_29 (by decide) (fun c39 => ?_) (fun c39 => ?_)
      · have H := ok_f H c39
        refine r_aload_n hZ dX12_readsTest_34 rfl ?_
        refine r_dup_a hZ dX12_readsTest_35 ?_
        obtain ⟨x27, ex27, H⟩ := ok_bind H
        refine r_getI hZ fl_X12_90_11 dX12_readsTest_36 ex27 ?_
        refine r_iconst (v := (J 1)) hZ dX12_readsTest_39 (by decide) ?_
        refine r_iadd hZ dX12_readsTest_40 ?_
        obtain ⟨h28, eh28, H⟩ := ok_bind H
        refine r_putf hZ fl_X12_90_11 dX12_readsTest_41 eh28 rfl rfl ?_
        refine r_aload_n hZ dX12_readsTest_44 rfl ?_
        refine r_dup_a hZ dX12_readsTest_45 ?_
        obtain ⟨x29, ex29, H⟩ := ok_bind H
        refine r_getI hZ fl_X12_293_11 dX12_readsTest_46 ex29 ?_
        refine r_iconst (v := (J 1)) hZ dX12_readsTest_49 (by decide) ?_
        refine r_iadd hZ dX12_readsTest_50 ?_
        obtain ⟨h30, eh30, H⟩ := ok_bind H
        refine r_putf hZ fl_X12_293_11 dX12_readsTest_51 eh30 rfl rfl ?_
        refine r_aload_n hZ dX12_readsTest_54 rfl ?_
        obtain ⟨u31, eu31, H⟩ := ok_bind H
        obtain ⟨r32, er32, H⟩ := ok_bind H
        refine r_callV (As := []) (rest := []) (st1 := [.int r32.1]) (N2 := 0) hZ dX12_readsTest_55 cw_X12_296_X12 rfl eu31 (hg_X12_readsOr er32) rfl rfl (by omega) (Nat.le_of_ble_eq_true rfl) (Nat.le_refl 0) (Nat.le_refl _) (Or.inl rfl) rfl ?_
        refine r_if_eq (tgt := 70) hZ dX12_readsTest_58 (by decide) (fun c38 => ?_) (fun c38 => ?_)
        · have H := ok_t H c38
          refine r_iconst (v := (J 0)) hZ dX12_readsTest_70 (by decide) ?_
          have H := ok_some H
          subst H
          exact r_zret hZ hF (by decide) dX12_readsTest_71
        · have H := ok_f H c38
          refine r_aload_n hZ dX12_readsTest_61 rfl ?_
          refine r_bipush (v := (J 41)) hZ dX12_readsTest_62 (by decide) ?_
          obtain ⟨u33, eu33, H⟩ := ok_bind H
          obtain ⟨r34, er34, H⟩ := ok_bind H
          refine r_callV (As := [.int (J 41)]) (rest := []) (st1 := [.int r34.1]) (N2 := 0) hZ dX12_readsTest_64 cw_X12_110_X12 rfl eu33 (s_X12_takes er34) rfl rfl (by omega) (Nat.le_of_ble_eq_true rfl) (Nat.le_refl 0) (Nat.le_refl _) (Or.inl rfl) rfl ?_
          refine r_if_ne (tgt := 72) hZ dX12_readsTest_67 (by decide) (fun c37 => ?_) (fun c37 => ?_)
          · have H := ok_f H c37
            refine r_aload_n hZ dX12_readsTest_72 rfl ?_
            refine r_dup_a hZ dX12_readsTest_73 ?_
            obtain ⟨x35, ex35, H⟩ := ok_bind H
            refine r_getI hZ fl_X12_293_11 dX12_readsTest_74 ex35 ?_
            refine r_iconst (v := (J 1)) hZ dX12_readsTest_77 (by decide) ?_
            refine r_isub hZ dX12_readsTest_78 ?_
            obtain ⟨h36, eh36, H⟩ := ok_bind H
            refine r_putf hZ fl_X12_293_11 dX12_readsTest_79 eh36 rfl rfl ?_
            refine r_iconst (v := (J 1)) hZ dX12_readsTest_82 (by decide) ?_
            have H := ok_some H
            subst H
            exact r_zret hZ hF (by decide) dX12_readsTest_83
          · have H := ok_t H c37
            refine r_iconst (v := (J 0)) hZ dX12_readsTest_70 (by decide) ?_
            have H := ok_some H
            subst H
            exact r_zret hZ hF (by decide) dX12_readsTest_71
      · have H := ok_t H c39
        refine r_iconst (v := (J 0)) hZ dX12_readsTest_32 (by decide) ?_
        have H := ok_some H
        subst H
        exact r_zret hZ hF (by decide) dX12_readsTest_33
  · have H := ok_f H c44
    refine r_aload_n hZ dX12_readsTest_9 rfl ?_
    obtain ⟨u41, eu41, H⟩ := ok_bind H
    obtain ⟨r42, er42, H⟩ := ok_bind H
    refine r_callV (As := []) (rest := []) (st1 := [.int r42.1]) (N2 := 0) hZ dX12_readsTest_10 cw_X12_290_X12 rfl eu41 (hg_X12_readsTest er42) rfl rfl (by omega) (Nat.le_of_ble_eq_true rfl) (Nat.le_refl 0) (Nat.le_refl _) (Or.inl rfl) rfl ?_
    obtain ⟨u43, eu43, H⟩ := ok_bind H
    have H := ok_some H
    subst H
    exact r_zret hZ hF eu43 dX12_readsTest_13
def b_X12_readsAnd_9 (g_X12_readsTest : Hp → Nat → Option (Int32 × Hp)) (p0 : Nat) (s : Hp) : Option ((Hp) ⊕ ((Hp) ⊕ (Hp))) :=
  (isO s p0 11).bind fun u1 =>
  (f_X12_takes s p0 (J 38)).bind fun r2 =>
  (if r2.1 = 0 then
    some (.inr (.inl r2.2))
  else
    (isO r2.2 p0 11).bind fun u3 =>
    (g_X12_readsTest r2.2 p0).bind fun r4 =>
    (if r4.1 = 0 then
      some (.inr (.inr r4.2))
    else
      some (.inl r4.2)))
set_option maxRecDepth 100000 in
set_option maxHeartbeats 4000000 in
theorem l_X12_readsAnd_9 {Z : Zc} {d : Nat} (hd9 : 3 < d) {dr_X12_readsTest : Nat} (hd_X12_readsTest : dr_X12_readsTest < d) {g_X12_readsTest : Hp → Nat → Option (Int32 × Hp)} (hZ : Fx cX12_readsAnd RX12 1 d 0 Z) {n : Nat} {p0 : Nat} {P : ((Hp) ⊕ (Hp)) → Prop} (hg_X12_readsTest : ∀ {n : Nat} {h : Hp} {b0 : Nat} {r : _}, g_X12_readsTest h b0 = some r → Ev dr_X12_readsTest yX12_readsTest cX12_readsTest 1 (some .boolean) [.ref b0] n h (some (.int r.1)) n r.2) (hx0 : ∀ e : Hp, P (.inl e) → R Z 27 [] [] n e 0) (hx1 : ∀ e : Hp, P (.inr e) → R Z 25 [] [] n e 0) : ∀ (m : Nat) (s : Hp), Ok (iter (b_X12_readsAnd_9 g_X12_readsTest p0) m s) P → R Z 9 [(0, .ref p0)] [] n s 0 := by
  intro m
  induction m with
  | zero => exact fun s H => ok_iter0 H
  | succ m ih =>
    intro s H
    have H := ok_iter H
    unfold b_X12_readsAnd_9 at H
    refine r_aload_n hZ dX12_readsAnd_9 rfl ?_
    refine r_bipush (v := (J 38)) hZ dX12_readsAnd_10 (by decide) ?_
    obtain ⟨u1, eu1, H⟩ := ok_bind H
    obtain ⟨r2, er2, H⟩ := ok_bind H
    refine r_callV (As := [.int (J 38)]) (rest := []) (st1 := [.int r2.1]) (N2 := 0) hZ dX12_readsAnd_12 cw_X12_110_X12 rfl eu1 (s_X12_takes er2) rfl rfl (by omega) (Nat.le_of_ble_eq_true rfl) (Nat.le_refl 0) (Nat.le_refl _) (Or.inl rfl) rfl ?_
    refine r_if_eq (tgt := 27) hZ dX12_readsAnd_15 (by decide) (fun c6 => ?_) (fun c6 => ?_)
    · have H := ok_t H c6
      exact r_pick [] (ls' := []) rfl (hx0 _ (ki_r H))
    · have H := ok_f H c6
      refine r_aload_n hZ dX12_readsAnd_18 rfl ?_
      obtain ⟨u3, eu3, H⟩ := ok_bind H
      obtain ⟨r4, er4, H⟩ := ok_bind H
      refine r_callV (As := []) (rest := []) (st1 := [.int r4.1]) (N2 := 0) hZ dX12_readsAnd_19 cw_X12_290_X12 rfl eu3 (hg_X12_readsTest er4) rfl rfl (by omega) (Nat.le_of_ble_eq_true rfl) (Nat.le_refl 0) (Nat.le_refl _) (Or.inl rfl) rfl ?_
      refine r_if_ne (tgt := 9) hZ dX12_readsAnd_22 (by decide) (fun c5 => ?_) (fun c5 => ?_)
      · have H := ok_f H c5
        exact r_pick [0] (ls' := [(0, .ref p0)]) rfl (ih _ (ki_l H))
      · have H := ok_t H c5
        exact r_pick [] (ls' := []) rfl (hx1 _ (ki_r H))
def F_X12_readsAnd (g_X12_readsTest : Hp → Nat → Option (Int32 × Hp)) (h : Hp) (a0 : Nat) : Option (Int32 × Hp) :=
  (isO h a0 11).bind fun u1 =>
  (g_X12_readsTest h a0).bind fun r2 =>
  (if r2.1 = 0 then
    some ((J 0), r2.2)
  else
    (iter (b_X12_readsAnd_9 g_X12_readsTest a0) FU r2.2).bind fun e3 =>
    (match e3 with
    | .inl e4 =>
      some ((J 1), e4)
    | .inr e5 =>
      some ((J 0), e5)))
set_option maxRecDepth 100000 in
set_option maxHeartbeats 4000000 in
theorem sF_X12_readsAnd {d : Nat} (hd9 : 3 < d) {dr_X12_readsTest : Nat} (hd_X12_readsTest : dr_X12_readsTest < d) {g_X12_readsTest : Hp → Nat → Option (Int32 × Hp)} {n : Nat} {h : Hp} {a0 : Nat} (hg_X12_readsTest : ∀ {n : Nat} {h : Hp} {b0 : Nat} {r : _}, g_X12_readsTest h b0 = some r → Ev dr_X12_readsTest yX12_readsTest cX12_readsTest 1 (some .boolean) [.ref b0] n h (some (.int r.1)) n r.2) {r : Int32 × Hp} (hf : F_X12_readsAnd g_X12_readsTest h a0 = some r) : Ev d yX12_readsAnd cX12_readsAnd 1 (some .boolean) [.ref a0] n h (some (.int r.1)) n r.2 := by
  refine Ev_of RX12 rfl (by decide) (Nat.le_of_ble_eq_true rfl) (Nat.le_refl _) (Or.inl rfl) (fun Z hZ hF hN hI => ?_)
  have H : Ok (F_X12_readsAnd g_X12_readsTest h a0) (fun y => y = r) := ⟨_, hf, rfl⟩
  unfold F_X12_readsAnd at H
  refine r_ls (ls' := [(0, .ref a0)]) rfl ?_
  refine r_aload_n hZ dX12_readsAnd_0 rfl ?_
  obtain ⟨u1, eu1, H⟩ := ok_bind H
  obtain ⟨r2, er2, H⟩ := ok_bind H
  refine r_callV (As := []) (rest := []) (st1 := [.int r2.1]) (N2 := 0) hZ dX12_readsAnd_1 cw_X12_290_X12 rfl eu1 (hg_X12_readsTest er2) rfl rfl (by omega) (Nat.le_of_ble_eq_true rfl) (Nat.le_refl 0) (Nat.le_refl _) (Or.inl rfl) rfl ?_
  refine r_if_ne (tgt := 9) hZ dX12_readsAnd_4 (by decide) (fun c6 => ?_) (fun c6 => ?_)
  · have H := ok_f H c6
    have H := ok_bindK H
    refine r_pick [0] (ls' := [(0, .ref a0)]) rfl (l_X12_readsAnd_9 hd9 hd_X12_readsTest hZ hg_X12_readsTest (fun e4 H => ?_) (fun e5 H => ?_) FU _ H)
    · refine r_iconst (v := (J 1)) hZ dX12_readsAnd_27 (by decide) ?_
      have H := ok_some H
      subst H
      exact r_zret hZ hF (by decide) dX12_readsAnd_28
    · refine r_iconst (v := (J 0)) hZ dX12_readsAnd_25 (by decide) ?_
      have H := ok_some H
      subst H
      exact r_zret hZ hF (by decide) dX12_readsAnd_26
  · have H := ok_t H c6
    refine r_iconst (v := (J 0)) hZ dX12_readsAnd_7 (by decide) ?_
    have H := ok_some H
    subst H
    exact r_zret hZ hF (by decide) dX12_readsAnd_8
def b_X12_readsOr_9 (g_X12_readsAnd : Hp → Nat → Option (Int32 × Hp)) (p0 : Nat) (s : Hp) : Option ((Hp) ⊕ ((Hp) ⊕ (Hp))) :=
  (isO s p0 11).bind fun u1 =>
  (f_X12_takes s p0 (J 124)).bind fun r2 =>
  (if r2.1 = 0 then
    some (.inr (.inl r2.2))
  else
    (isO r2.2 p0 11).bind fun u3 =>
    (g_X12_readsAnd r2.2 p0).bind fun r4 =>
    (if r4.1 = 0 then
      some (.inr (.inr r4.2))
    else
      some (.inl r4.2)))
set_option maxRecDepth 100000 in
set_option maxHeartbeats 4000000 in
theorem l_X12_readsOr_9 {Z : Zc} {d : Nat} (hd9 : 3 < d) {dr_X12_readsAnd : Nat} (hd_X12_readsAnd : dr_X12_readsAnd < d) {g_X12_readsAnd : Hp → Nat → Option (Int32 × Hp)} (hZ : Fx cX12_readsOr RX12 1 d 0 Z) {n : Nat} {p0 : Nat} {P : ((Hp) ⊕ (Hp)) → Prop} (hg_X12_readsAnd : ∀ {n : Nat} {h : Hp} {b0 : Nat} {r : _}, g_X12_readsAnd h b0 = some r → Ev dr_X12_readsAnd yX12_readsAnd cX12_readsAnd 1 (some .boolean) [.ref b0] n h (some (.int r.1)) n r.2) (hx0 : ∀ e : Hp, P (.inl e) → R Z 27 [] [] n e 0) (hx1 : ∀ e : Hp, P (.inr e) → R Z 25 [] [] n e 0) : ∀ (m : Nat) (s : Hp), Ok (iter (b_X12_readsOr_9 g_X12_readsAnd p0) m s) P → R Z 9 [(0, .ref p0)] [] n s 0 := by
  intro m
  induction m with
  | zero => exact fun s H => ok_iter0 H
  | succ m ih =>
    intro s H
    have H := ok_iter H
    unfold b_X12_readsOr_9 at H
    refine r_aload_n hZ dX12_readsOr_9 rfl ?_
    refine r_bipush (v := (J 124)) hZ dX12_readsOr_10 (by decide) ?_
    obtain ⟨u1, eu1, H⟩ := ok_bind H
    obtain ⟨r2, er2, H⟩ := ok_bind H
    refine r_callV (As := [.int (J 124)]) (rest := []) (st1 := [.int r2.1]) (N2 := 0) hZ dX12_readsOr_12 cw_X12_110_X12 rfl eu1 (s_X12_takes er2) rfl rfl (by omega) (Nat.le_of_ble_eq_true rfl) (Nat.le_refl 0) (Nat.le_refl _) (Or.inl rfl) rfl ?_
    refine r_if_eq (tgt := 27) hZ dX12_readsOr_15 (by decide) (fun c6 => ?_) (fun c6 => ?_)
    · have H := ok_t H c6
      exact r_pick [] (ls' := []) rfl (hx0 _ (ki_r H))
    · have H := ok_f H c6
      refine r_aload_n hZ dX12_readsOr_18 rfl ?_
      obtain ⟨u3, eu3, H⟩ := ok_bind H
      obtain ⟨r4, er4, H⟩ := ok_bind H
      refine r_callV (As := []) (rest := []) (st1 := [.int r4.1]) (N2 := 0) hZ dX12_readsOr_19 cw_X12_287_X12 rfl eu3 (hg_X12_readsAnd er4) rfl rfl (by omega) (Nat.le_of_ble_eq_true rfl) (Nat.le_refl 0) (Nat.le_refl _) (Or.inl rfl) rfl ?_
      refine r_if_ne (tgt := 9) hZ dX12_readsOr_22 (by decide) (fun c5 => ?_) (fun c5 => ?_)
      · have H := ok_f H c5
        exact r_pick [0] (ls' := [(0, .ref p0)]) rfl (ih _ (ki_l H))
      · have H := ok_t H c5
        exact r_pick [] (ls' := []) rfl (hx1 _ (ki_r H))
def F_X12_readsOr (g_X12_readsAnd : Hp → Nat → Option (Int32 × Hp)) (h : Hp) (a0 : Nat) : Option (Int32 × Hp) :=
  (isO h a0 11).bind fun u1 =>
  (g_X12_readsAnd h a0).bind fun r2 =>
  (if r2.1 = 0 then
    some ((J 0), r2.2)
  else
    (iter (b_X12_readsOr_9 g_X12_readsAnd a0) FU r2.2).bind fun e3 =>
    (match e3 with
    | .inl e4 =>
      some ((J 1), e4)
    | .inr e5 =>
      some ((J 0), e5)))
set_option maxRecDepth 100000 in
set_option maxHeartbeats 4000000 in
theorem sF_X12_readsOr {d : Nat} (hd9 : 3 < d) {dr_X12_readsAnd : Nat} (hd_X12_readsAnd : dr_X12_readsAnd < d) {g_X12_readsAnd : Hp → Nat → Option (Int32 × Hp)} {n : Nat} {h : Hp} {a0 : Nat} (hg_X12_readsAnd : ∀ {n : Nat} {h : Hp} {b0 : Nat} {r : _}, g_X12_readsAnd h b0 = some r → Ev dr_X12_readsAnd yX12_readsAnd cX12_readsAnd 1 (some .boolean) [.ref b0] n h (some (.int r.1)) n r.2) {r : Int32 × Hp} (hf : F_X12_readsOr g_X12_readsAnd h a0 = some r) : Ev d yX12_readsOr cX12_readsOr 1 (some .boolean) [.ref a0] n h (some (.int r.1)) n r.2 := by
  refine Ev_of RX12 rfl (by decide) (Nat.le_of_ble_eq_true rfl) (Nat.le_refl _) (Or.inl rfl) (fun Z hZ hF hN hI => ?_)
  have H : Ok (F_X12_readsOr g_X12_readsAnd h a0) (fun y => y = r) := ⟨_, hf, rfl⟩
  unfold F_X12_readsOr at H
  refine r_ls (ls' := [(0, .ref a0)]) rfl ?_
  refine r_aload_n hZ dX12_readsOr_0 rfl ?_
  obtain ⟨u1, eu1, H⟩ := ok_bind H
  obtain ⟨r2, er2, H⟩ := ok_bind H
  refine r_callV (As := []) (rest := []) (st1 := [.int r2.1]) (N2 := 0) hZ dX12_readsOr_1 cw_X12_287_X12 rfl eu1 (hg_X12_readsAnd er2) rfl rfl (by omega) (Nat.le_of_ble_eq_true rfl) (Nat.le_refl 0) (Nat.le_refl _) (Or.inl rfl) rfl ?_
  refine r_if_ne (tgt := 9) hZ dX12_readsOr_4 (by decide) (fun c6 => ?_) (fun c6 => ?_)
  · have H := ok_f H c6
    have H := ok_bindK H
    refine r_pick [0] (ls' := [(0, .ref a0)]) rfl (l_X12_readsOr_9 hd9 hd_X12_readsAnd hZ hg_X12_readsAnd (fun e4 H => ?_) (fun e5 H => ?_) FU _ H)
    · refine r_iconst (v := (J 1)) hZ dX12_readsOr_27 (by decide) ?_
      have H := ok_some H
      subst H
      exact r_zret hZ hF (by decide) dX12_readsOr_28
    · refine r_iconst (v := (J 0)) hZ dX12_readsOr_25 (by decide) ?_
      have H := ok_some H
      subst H
      exact r_zret hZ hF (by decide) dX12_readsOr_26
  · have H := ok_t H c6
    refine r_iconst (v := (J 0)) hZ dX12_readsOr_7 (by decide) ?_
    have H := ok_some H
    subst H
    exact r_zret hZ hF (by decide) dX12_readsOr_8
def f_X12_readsTest : Nat → Hp → Nat → Option (Int32 × Hp)
  | 0 => fun _ _ => none
  | D + 1 => F_X12_readsTest (F_X12_readsOr (F_X12_readsAnd (f_X12_readsTest D))) (f_X12_readsTest D)
theorem s_X12_readsTest : ∀ (D : Nat), ∀ {n : Nat} {h : Hp} {b0 : Nat} {r : _}, f_X12_readsTest D h b0 = some r → Ev (5 + 3 * D) yX12_readsTest cX12_readsTest 1 (some .boolean) [.ref b0] n h (some (.int r.1)) n r.2
  | 0 => fun hf => nomatch hf
  | D + 1 => fun hf => sF_X12_readsTest (d := 5 + 3 * (D + 1)) (by omega) (dr_X12_readsOr := 5 + 3 * D + 1 + 1) (by omega) (dr_X12_readsTest := 5 + 3 * D) (by omega) (fun hf => sF_X12_readsOr (d := 5 + 3 * D + 1 + 1) (by omega) (dr_X12_readsAnd := 5 + 3 * D + 1) (by omega) (fun hf => sF_X12_readsAnd (d := 5 + 3 * D + 1) (by omega) (dr_X12_readsTest := 5 + 3 * D) (by omega) (fun hf => s_X12_readsTest D hf) hf) hf) (fun hf => s_X12_readsTest D hf) hf
def f_X12_readsOr (D : Nat) : Hp → Nat → Option (Int32 × Hp) := F_X12_readsOr (F_X12_readsAnd (f_X12_readsTest D))
theorem s_X12_readsOr (D : Nat) : ∀ {n : Nat} {h : Hp} {b0 : Nat} {r : _}, f_X12_readsOr D h b0 = some r → Ev (5 + 3 * D + 1 + 1) yX12_readsOr cX12_readsOr 1 (some .boolean) [.ref b0] n h (some (.int r.1)) n r.2 := fun hf => sF_X12_readsOr (d := 5 + 3 * D + 1 + 1) (by omega) (dr_X12_readsAnd := 5 + 3 * D + 1) (by omega) (fun hf => sF_X12_readsAnd (d := 5 + 3 * D + 1) (by omega) (dr_X12_readsTest := 5 + 3 * D) (by omega) (fun hf => s_X12_readsTest D hf) hf) hf
def f_X12_faultOf  (h : Hp) (a0 : Nat) (a1 : Int32) : Option (Int32 × Hp) :=
  (isO h a0 11).bind fun u1 =>
  (f_X12_opens h a0 a1).bind fun r2 =>
  (pF r2 a0 11 25 (.int (J 0))).bind fun h3 =>
  (isO h3 a0 11).bind fun u4 =>
  (f_X12_readsOr 130 h3 a0).bind fun r5 =>
  ((if r5.1 = 0 then
    (gI r5.2 a0 11 12).bind fun x7 =>
    some x7
  else
    (gI r5.2 a0 11 12).bind fun x8 =>
    (gI r5.2 a0 11 14).bind fun x9 =>
    (if x8 = x9 then
      some (J (-4))
    else
      (gI r5.2 a0 11 12).bind fun x10 =>
      some x10))).bind fun (j6 : Int32) =>
  some (j6, r5.2)
set_option maxRecDepth 100000 in
set_option maxHeartbeats 4000000 in
theorem s_X12_faultOf {n : Nat} {h : Hp} {a0 : Nat} {a1 : Int32}  {r : Int32 × Hp} (hf : f_X12_faultOf  h a0 a1 = some r) : Ev 398 yX12_faultOf cX12_faultOf 3 (some .int) [.ref a0, .int a1] n h (some (.int r.1)) n r.2 := by
  refine Ev_of RX12 rfl (by decide) (Nat.le_of_ble_eq_true rfl) (Nat.le_refl _) (Or.inl rfl) (fun Z hZ hF hN hI => ?_)
  have H : Ok (f_X12_faultOf  h a0 a1) (fun y => y = r) := ⟨_, hf, rfl⟩
  unfold f_X12_faultOf at H
  refine r_ls (ls' := [(0, .ref a0), (1, .int a1)]) rfl ?_
  refine r_aload_n hZ dX12_faultOf_0 rfl ?_
  refine r_iload_n hZ dX12_faultOf_1 rfl ?_
  obtain ⟨u1, eu1, H⟩ := ok_bind H
  obtain ⟨r2, er2, H⟩ := ok_bind H
  refine r_callV (As := [.int a1]) (rest := []) (st1 := []) (N2 := 0) hZ dX12_faultOf_2 cw_X12_133_X12 rfl eu1 (s_X12_opens er2) rfl rfl (by decide) (Nat.le_of_ble_eq_true rfl) (Nat.le_refl 0) (Nat.le_refl _) (Or.inl rfl) rfl ?_
  refine r_aload_n hZ dX12_faultOf_5 rfl ?_
  refine r_iconst (v := (J 0)) hZ dX12_faultOf_6 (by decide) ?_
  obtain ⟨h3, eh3, H⟩ := ok_bind H
  refine r_putf hZ fl_X12_293_11 dX12_faultOf_7 eh3 rfl rfl ?_
  refine r_aload_n hZ dX12_faultOf_10 rfl ?_
  obtain ⟨u4, eu4, H⟩ := ok_bind H
  obtain ⟨r5, er5, H⟩ := ok_bind H
  refine r_callV (As := []) (rest := []) (st1 := [.int r5.1]) (N2 := 0) hZ dX12_faultOf_11 cw_X12_296_X12 rfl eu4 (s_X12_readsOr 130 er5) rfl rfl (by decide) (Nat.le_of_ble_eq_true rfl) (Nat.le_refl 0) (Nat.le_refl _) (Or.inl rfl) rfl ?_
  refine r_istore_n hZ dX12_faultOf_14 (by decide) (r_pick [0, 2] (ls' := [(0, .ref a0), (2, .int r5.1)]) rfl ?_)
  refine r_iload_n hZ dX12_faultOf_15 rfl ?_
  refine ok_join (Q := fun j6 : Int32 => R Z 39 [] [.int j6] n r5.2 0) H (fun j6 H => ?_) (fun H => ?_)
  · have H := ok_some H
    subst H
    exact r_iret hZ hF dX12_faultOf_39
  · refine r_if_eq (tgt := 35) hZ dX12_faultOf_16 (by decide) (fun c12 => ?_) (fun c12 => ?_)
    · have H := ok_t H c12
      refine r_aload_n hZ dX12_faultOf_35 rfl ?_
      obtain ⟨x7, ex7, H⟩ := ok_bind H
      refine r_getI hZ fl_X12_90_11 dX12_faultOf_36 ex7 ?_
      have H := ok_some H
      exact r_pick [] (ls' := []) rfl H
    · have H := ok_f H c12
      refine r_aload_n hZ dX12_faultOf_19 rfl ?_
      obtain ⟨x8, ex8, H⟩ := ok_bind H
      refine r_getI hZ fl_X12_90_11 dX12_faultOf_20 ex8 ?_
      refine r_aload_n hZ dX12_faultOf_23 rfl ?_
      obtain ⟨x9, ex9, H⟩ := ok_bind H
      refine r_getI hZ fl_X12_93_11 dX12_faultOf_24 ex9 ?_
      refine r_icmp_ne (tgt := 35) hZ dX12_faultOf_27 (by decide) (fun c11 => ?_) (fun c11 => ?_)
      · have H := ok_f H c11
        refine r_aload_n hZ dX12_faultOf_35 rfl ?_
        obtain ⟨x10, ex10, H⟩ := ok_bind H
        refine r_getI hZ fl_X12_90_11 dX12_faultOf_36 ex10 ?_
        have H := ok_some H
        exact r_pick [] (ls' := []) rfl H
      · have H := ok_t H c11
        refine r_bipush (v := (J (-4))) hZ dX12_faultOf_30 (by decide) ?_
        refine r_goto (tgt := 39) hZ dX12_faultOf_32 (by decide) ?_
        have H := ok_some H
        exact r_pick [] (ls' := []) rfl H
def f_X12_fault  (h : Hp) (a0 : Nat) (a1 : Int32) : Option (Int32 × Hp) :=
  (isO h a0 11).bind fun u1 =>
  (f_X12_wrongRow h a0 a1 (J 0)).bind fun r2 =>
  ((if r2 = 0 then
    (isO h a0 11).bind fun u4 =>
    (f_X12_faultOf h a0 a1).bind fun r5 =>
    some (r5.1, r5.2)
  else
    some (r2, h))).bind fun (j3 : Int32 × Hp) =>
  some (j3.1, j3.2)
set_option maxRecDepth 100000 in
set_option maxHeartbeats 4000000 in
theorem s_X12_fault {n : Nat} {h : Hp} {a0 : Nat} {a1 : Int32}  {r : Int32 × Hp} (hf : f_X12_fault  h a0 a1 = some r) : Ev 399 yX12_fault cX12_fault 3 (some .int) [.ref a0, .int a1] n h (some (.int r.1)) n r.2 := by
  refine Ev_of RX12 rfl (by decide) (Nat.le_of_ble_eq_true rfl) (Nat.le_refl _) (Or.inl rfl) (fun Z hZ hF hN hI => ?_)
  have H : Ok (f_X12_fault  h a0 a1) (fun y => y = r) := ⟨_, hf, rfl⟩
  unfold f_X12_fault at H
  refine r_ls (ls' := [(0, .ref a0), (1, .int a1)]) rfl ?_
  refine r_aload_n hZ dX12_fault_0 rfl ?_
  refine r_iload_n hZ dX12_fault_1 rfl ?_
  refine r_iconst (v := (J 0)) hZ dX12_fault_2 (by decide) ?_
  obtain ⟨u1, eu1, H⟩ := ok_bind H
  obtain ⟨r2, er2, H⟩ := ok_bind H
  refine r_callV (As := [.int a1, .int (J 0)]) (rest := []) (st1 := [.int r2]) (N2 := 0) hZ dX12_fault_3 cw_X12_130_X12 rfl eu1 (s_X12_wrongRow er2) rfl rfl (by decide) (Nat.le_of_ble_eq_true rfl) (Nat.le_refl 0) (Nat.le_refl _) (Or.inl rfl) rfl ?_
  refine r_istore_n hZ dX12_fault_6 (by decide) (r_pick [0, 1, 2] (ls' := [(0, .ref a0), (1, .int a1), (2, .int r2)]) rfl ?_)
  refine r_iload_n hZ dX12_fault_7 rfl ?_
  refine ok_join (Q := fun j3 : Int32 × Hp => R Z 20 [] [.int j3.1] n j3.2 0) H (fun j3 H => ?_) (fun H => ?_)
  · have H := ok_some H
    subst H
    exact r_iret hZ hF dX12_fault_20
  · refine r_if_eq (tgt := 15) hZ dX12_fault_8 (by decide) (fun c6 => ?_) (fun c6 => ?_)
    · have H := ok_t H c6
      refine r_aload_n hZ dX12_fault_15 rfl ?_
      refine r_iload_n hZ dX12_fault_16 rfl ?_
      obtain ⟨u4, eu4, H⟩ := ok_bind H
      obtain ⟨r5, er5, H⟩ := ok_bind H
      refine r_callV (As := [.int a1]) (rest := []) (st1 := [.int r5.1]) (N2 := 0) hZ dX12_fault_17 cw_X12_311_X12 rfl eu4 (s_X12_faultOf er5) rfl rfl (by decide) (Nat.le_of_ble_eq_true rfl) (Nat.le_refl 0) (Nat.le_refl _) (Or.inl rfl) rfl ?_
      have H := ok_some H
      exact r_pick [] (ls' := []) rfl H
    · have H := ok_f H c6
      refine r_iload_n hZ dX12_fault_11 rfl ?_
      refine r_goto (tgt := 20) hZ dX12_fault_12 (by decide) ?_
      have H := ok_some H
      exact r_pick [] (ls' := []) rfl H
def b_X12_rule_100 (p0 : Nat) (p1 : Int32) (p4 : Int32) (s : Int32 × Hp) : Option ((Int32 × Hp) ⊕ ((Hp))) :=
  (gR s.2 p0 11 6).bind fun x1 =>
  (aI s.2 x1 p1).bind fun x2 =>
  (if x2 ≤ s.1 then
    some (.inr (s.2))
  else
    (gR s.2 p0 11 1).bind fun x3 =>
    (gR s.2 p0 11 7).bind fun x4 =>
    (aI s.2 x4 (((J 120) * p1) + s.1)).bind fun x5 =>
    (sI s.2 x3 ((((J 276) + ((J 121) * p4)) + (J 1)) + s.1) x5).bind fun h6 =>
    (some (s.1 + (J 1))).bind fun x7 =>
    some (.inl (x7, h6)))
set_option maxRecDepth 100000 in
set_option maxHeartbeats 4000000 in
theorem l_X12_rule_100 {Z : Zc} (hZ : Fx cX12_rule RX12 6 399 0 Z) {n : Nat} {p0 : Nat} {p1 : Int32} {p4 : Int32} {P : ((Hp)) → Prop} (hx0 : ∀ e : Hp, P (e) → R Z 148 [(4, .int p4)] [] n e 0) : ∀ (m : Nat) (s : Int32 × Hp), Ok (iter (b_X12_rule_100 p0 p1 p4) m s) P → R Z 100 [(0, .ref p0), (1, .int p1), (4, .int p4), (5, .int s.1)] [] n s.2 0 := by
  intro m
  induction m with
  | zero => exact fun s H => ok_iter0 H
  | succ m ih =>
    intro s H
    have H := ok_iter H
    unfold b_X12_rule_100 at H
    refine r_iload hZ dX12_rule_100 rfl ?_
    refine r_aload_n hZ dX12_rule_102 rfl ?_
    obtain ⟨x1, ex1, H⟩ := ok_bind H
    refine r_getR hZ fl_X12_28_11 dX12_rule_103 ex1 ?_
    refine r_iload_n hZ dX12_rule_106 rfl ?_
    obtain ⟨x2, ex2, H⟩ := ok_bind H
    refine r_aI hZ dX12_rule_107 ex2 ?_
    refine r_icmp_ge (tgt := 148) hZ dX12_rule_108 (by decide) (fun c8 => ?_) (fun c8 => ?_)
    · have H := ok_t H c8
      exact r_pick [4] (ls' := [(4, .int p4)]) rfl (hx0 _ (ki_r H))
    · have H := ok_f H c8
      refine r_aload_n hZ dX12_rule_111 rfl ?_
      obtain ⟨x3, ex3, H⟩ := ok_bind H
      refine r_getR hZ fl_X12_13_11 dX12_rule_112 ex3 ?_
      refine r_sipush (v := (J 276)) hZ dX12_rule_115 (by decide) ?_
      refine r_bipush (v := (J 121)) hZ dX12_rule_118 (by decide) ?_
      refine r_iload hZ dX12_rule_120 rfl ?_
      refine r_imul hZ dX12_rule_122 ?_
      refine r_iadd hZ dX12_rule_123 ?_
      refine r_iconst (v := (J 1)) hZ dX12_rule_124 (by decide) ?_
      refine r_iadd hZ dX12_rule_125 ?_
      refine r_iload hZ dX12_rule_126 rfl ?_
      refine r_iadd hZ dX12_rule_128 ?_
      refine r_aload_n hZ dX12_rule_129 rfl ?_
      obtain ⟨x4, ex4, H⟩ := ok_bind H
      refine r_getR hZ fl_X12_31_11 dX12_rule_130 ex4 ?_
      refine r_bipush (v := (J 120)) hZ dX12_rule_133 (by decide) ?_
      refine r_iload_n hZ dX12_rule_135 rfl ?_
      refine r_imul hZ dX12_rule_136 ?_
      refine r_iload hZ dX12_rule_137 rfl ?_
      refine r_iadd hZ dX12_rule_139 ?_
      obtain ⟨x5, ex5, H⟩ := ok_bind H
      refine r_aI hZ dX12_rule_140 ex5 ?_
      obtain ⟨h6, eh6, H⟩ := ok_bind H
      refine r_sI hZ dX12_rule_141 eh6 ?_
      obtain ⟨x7, ex7, H⟩ := ok_bind H
      refine r_iincE (w := (J 1)) hZ dX12_rule_142 (by decide) rfl (by decide) ex7 (r_pick [0, 1, 4, 5] (ls' := [(0, .ref p0), (1, .int p1), (4, .int p4), (5, .int x7)]) rfl ?_)
      refine r_goto (tgt := 100) hZ dX12_rule_145 (by decide) ?_
      exact r_pick [0, 1, 4, 5] (ls' := [(0, .ref p0), (1, .int p1), (4, .int p4), (5, .int x7)]) rfl (ih _ (ki_l H))
def f_X12_rule  (h : Hp) (a0 : Nat) (a1 : Int32) : Option (Int32 × Hp) :=
  (f_X12_isShelf a1).bind fun r1 =>
  (if r1 = 0 then
    some ((J (-1)), h)
  else
    (gR h a0 11 1).bind fun x2 =>
    (aI h x2 (J 1742)).bind fun x3 =>
    (if x3 = (J 12) then
      some ((J (-2)), h)
    else
      (isO h a0 11).bind fun u4 =>
      (f_X12_wrongRow h a0 a1 (J 0)).bind fun r5 =>
      (if r5 = 0 then
        (isO h a0 11).bind fun u6 =>
        (f_X12_faultOf h a0 a1).bind fun r7 =>
        (if r7.1 = (J (-4)) then
          (gR r7.2 a0 11 1).bind fun x8 =>
          (aI r7.2 x8 (J 1742)).bind fun x9 =>
          (gR r7.2 a0 11 1).bind fun x10 =>
          (some (J 1742)).bind fun x11 =>
          (aI r7.2 x10 x11).bind fun x12 =>
          (sI r7.2 x10 x11 (x12 + (J 1))).bind fun h13 =>
          (gR h13 a0 11 1).bind fun x14 =>
          (gR h13 a0 11 6).bind fun x15 =>
          (aI h13 x15 a1).bind fun x16 =>
          (sI h13 x14 ((J 276) + ((J 121) * x9)) x16).bind fun h17 =>
          (some (J 0)).bind fun x18 =>
          (iter (b_X12_rule_100 a0 a1 x9) FU (x18, h17)).bind fun e19 =>
          some (x9, e19)
        else
          some (((J (-100)) - r7.1), r7.2))
      else
        some (r5, h))))
set_option maxRecDepth 100000 in
set_option maxHeartbeats 4000000 in
theorem s_X12_rule {n : Nat} {h : Hp} {a0 : Nat} {a1 : Int32}  {r : Int32 × Hp} (hf : f_X12_rule  h a0 a1 = some r) : Ev 399 yX12_rule cX12_rule 6 (some .int) [.ref a0, .int a1] n h (some (.int r.1)) n r.2 := by
  refine Ev_of RX12 rfl (by decide) (Nat.le_of_ble_eq_true rfl) (Nat.le_refl _) (Or.inl rfl) (fun Z hZ hF hN hI => ?_)
  have H : Ok (f_X12_rule  h a0 a1) (fun y => y = r) := ⟨_, hf, rfl⟩
  unfold f_X12_rule at H
  refine r_ls (ls' := [(0, .ref a0), (1, .int a1)]) rfl ?_
  refine r_iload_n hZ dX12_rule_0 rfl ?_
  obtain ⟨r1, er1, H⟩ := ok_bind H
  refine r_callS (As := [.int a1]) (rest := []) (st1 := [.int r1]) (N2 := 0) hZ dX12_rule_1 cw_X12_127 (s_X12_isShelf er1) rfl rfl (by decide) (Nat.le_of_ble_eq_true rfl) (Nat.le_refl 0) (Nat.le_refl _) (Or.inl rfl) rfl ?_
  refine r_if_ne (tgt := 9) hZ dX12_rule_4 (by decide) (fun c23 => ?_) (fun c23 => ?_)
  · have H := ok_f H c23
    refine r_aload_n hZ dX12_rule_9 rfl ?_
    obtain ⟨x2, ex2, H⟩ := ok_bind H
    refine r_getR hZ fl_X12_13_11 dX12_rule_10 ex2 ?_
    refine r_sipush (v := (J 1742)) hZ dX12_rule_13 (by decide) ?_
    obtain ⟨x3, ex3, H⟩ := ok_bind H
    refine r_aI hZ dX12_rule_16 ex3 ?_
    refine r_bipush (v := (J 12)) hZ dX12_rule_17 (by decide) ?_
    refine r_icmp_ne (tgt := 25) hZ dX12_rule_19 (by decide) (fun c22 => ?_) (fun c22 => ?_)
    · have H := ok_f H c22
      refine r_aload_n hZ dX12_rule_25 rfl ?_
      refine r_iload_n hZ dX12_rule_26 rfl ?_
      refine r_iconst (v := (J 0)) hZ dX12_rule_27 (by decide) ?_
      obtain ⟨u4, eu4, H⟩ := ok_bind H
      obtain ⟨r5, er5, H⟩ := ok_bind H
      refine r_callV (As := [.int a1, .int (J 0)]) (rest := []) (st1 := [.int r5]) (N2 := 0) hZ dX12_rule_28 cw_X12_130_X12 rfl eu4 (s_X12_wrongRow er5) rfl rfl (by decide) (Nat.le_of_ble_eq_true rfl) (Nat.le_refl 0) (Nat.le_refl _) (Or.inl rfl) rfl ?_
      refine r_istore_n hZ dX12_rule_31 (by decide) (r_pick [0, 1, 2] (ls' := [(0, .ref a0), (1, .int a1), (2, .int r5)]) rfl ?_)
      refine r_iload_n hZ dX12_rule_32 rfl ?_
      refine r_if_eq (tgt := 38) hZ dX12_rule_33 (by decide) (fun c21 => ?_) (fun c21 => ?_)
      · have H := ok_t H c21
        refine r_aload_n hZ dX12_rule_38 rfl ?_
        refine r_iload_n hZ dX12_rule_39 rfl ?_
        obtain ⟨u6, eu6, H⟩ := ok_bind H
        obtain ⟨r7, er7, H⟩ := ok_bind H
        refine r_callV (As := [.int a1]) (rest := []) (st1 := [.int r7.1]) (N2 := 0) hZ dX12_rule_40 cw_X12_311_X12 rfl eu6 (s_X12_faultOf er7) rfl rfl (by decide) (Nat.le_of_ble_eq_true rfl) (Nat.le_refl 0) (Nat.le_refl _) (Or.inl rfl) rfl ?_
        refine r_istore_n hZ dX12_rule_43 (by decide) (r_pick [0, 1, 3] (ls' := [(0, .ref a0), (1, .int a1), (3, .int r7.1)]) rfl ?_)
        refine r_iload_n hZ dX12_rule_44 rfl ?_
        refine r_bipush (v := (J (-4))) hZ dX12_rule_45 (by decide) ?_
        refine r_icmp_eq (tgt := 55) hZ dX12_rule_47 (by decide) (fun c20 => ?_) (fun c20 => ?_)
        · have H := ok_t H c20
          refine r_aload_n hZ dX12_rule_55 rfl ?_
          obtain ⟨x8, ex8, H⟩ := ok_bind H
          refine r_getR hZ fl_X12_13_11 dX12_rule_56 ex8 ?_
          refine r_sipush (v := (J 1742)) hZ dX12_rule_59 (by decide) ?_
          obtain ⟨x9, ex9, H⟩ := ok_bind H
          refine r_aI hZ dX12_rule_62 ex9 ?_
          refine r_istore hZ dX12_rule_63 (by decide) (r_pick [0, 1, 4] (ls' := [(0, .ref a0), (1, .int a1), (4, .int x9)]) rfl ?_)
          refine r_aload_n hZ dX12_rule_65 rfl ?_
          obtain ⟨x10, ex10, H⟩ := ok_bind H
          refine r_getR hZ fl_X12_13_11 dX12_rule_66 ex10 ?_
          refine r_sipush (v := (J 1742)) hZ dX12_rule_69 (by decide) ?_
          obtain ⟨x11, ex11, H⟩ := ok_bind H
          refine r_topi ex11 ?_
          refine r_dup2_ia hZ dX12_rule_72 ?_
          obtain ⟨x12, ex12, H⟩ := ok_bind H
          refine r_aI hZ dX12_rule_73 ex12 ?_
          refine r_iconst (v := (J 1)) hZ dX12_rule_74 (by decide) ?_
          refine r_iadd hZ dX12_rule_75 ?_
          obtain ⟨h13, eh13, H⟩ := ok_bind H
          refine r_sI hZ dX12_rule_76 eh13 ?_
          refine r_aload_n hZ dX12_rule_77 rfl ?_
          obtain ⟨x14, ex14, H⟩ := ok_bind H
          refine r_getR hZ fl_X12_13_11 dX12_rule_78 ex14 ?_
          refine r_sipush (v := (J 276)) hZ dX12_rule_81 (by decide) ?_
          refine r_bipush (v := (J 121)) hZ dX12_rule_84 (by decide) ?_
          refine r_iload hZ dX12_rule_86 rfl ?_
          refine r_imul hZ dX12_rule_88 ?_
          refine r_iadd hZ dX12_rule_89 ?_
          refine r_aload_n hZ dX12_rule_90 rfl ?_
          obtain ⟨x15, ex15, H⟩ := ok_bind H
          refine r_getR hZ fl_X12_28_11 dX12_rule_91 ex15 ?_
          refine r_iload_n hZ dX12_rule_94 rfl ?_
          obtain ⟨x16, ex16, H⟩ := ok_bind H
          refine r_aI hZ dX12_rule_95 ex16 ?_
          obtain ⟨h17, eh17, H⟩ := ok_bind H
          refine r_sI hZ dX12_rule_96 eh17 ?_
          refine r_iconst (v := (J 0)) hZ dX12_rule_97 (by decide) ?_
          obtain ⟨x18, ex18, H⟩ := ok_bind H
          refine r_topi ex18 ?_
          refine r_istore hZ dX12_rule_98 (by decide) (r_pick [0, 1, 4, 5] (ls' := [(0, .ref a0), (1, .int a1), (4, .int x9), (5, .int x18)]) rfl ?_)
          have H := ok_bindK H
          refine r_pick [0, 1, 4, 5] (ls' := [(0, .ref a0), (1, .int a1), (4, .int x9), (5, .int x18)]) rfl (l_X12_rule_100 hZ (fun e19 H => ?_) FU _ H)
          · refine r_iload hZ dX12_rule_148 rfl ?_
            have H := ok_some H
            subst H
            exact r_iret hZ hF dX12_rule_150
        · have H := ok_f H c20
          refine r_bipush (v := (J (-100))) hZ dX12_rule_50 (by decide) ?_
          refine r_iload_n hZ dX12_rule_52 rfl ?_
          refine r_isub hZ dX12_rule_53 ?_
          have H := ok_some H
          subst H
          exact r_iret hZ hF dX12_rule_54
      · have H := ok_f H c21
        refine r_iload_n hZ dX12_rule_36 rfl ?_
        have H := ok_some H
        subst H
        exact r_iret hZ hF dX12_rule_37
    · have H := ok_t H c22
      refine r_bipush (v := (J (-2))) hZ dX12_rule_22 (by decide) ?_
      have H := ok_some H
      subst H
      exact r_iret hZ hF dX12_rule_24
  · have H := ok_t H c23
    refine r_iconst (v := (J (-1))) hZ dX12_rule_7 (by decide) ?_
    have H := ok_some H
    subst H
    exact r_iret hZ hF dX12_rule_8
def f_X12_fieldOf  (h : Hp) (a0 : Nat) (a1 : Int32) : Option (Int32) :=
  (if a1 = (J 101) then
    (gI h a0 11 26).bind fun x1 =>
    (isO h a0 11).bind fun u2 =>
    (f_X12_evenOf h a0 x1).bind fun r3 =>
    some r3
  else
    (if a1 = (J 103) then
      (gI h a0 11 26).bind fun x5 =>
      (isO h a0 11).bind fun u6 =>
      (f_X12_gapOf h a0 x5).bind fun r7 =>
      some r7
    else
      (if a1 = (J 108) then
        (gI h a0 11 26).bind fun x9 =>
        (gI h a0 11 26).bind fun x10 =>
        (isO h a0 11).bind fun u11 =>
        (f_X12_whineOf h a0 x10).bind fun r12 =>
        (isO h a0 11).bind fun u13 =>
        (f_X12_loudOf h a0 x9 r12).bind fun r14 =>
        ((if (lg_cmp r14 (K 9999)) ≤ 0 then
          some (r14.toInt32)
        else
          some (J 9999))).bind fun (j15 : Int32) =>
        some j15
      else
        (if a1 = (J 114) then
          (gI h a0 11 27).bind fun x18 =>
          some x18
        else
          (if a1 = (J 116) then
            (gI h a0 11 26).bind fun x20 =>
            (isO h a0 11).bind fun u21 =>
            (f_X12_meshOf h a0 x20 (J 0)).bind fun r22 =>
            (isO h a0 11).bind fun u23 =>
            (f_X12_thin h a0 r22).bind fun r24 =>
            some r24
          else
            (if a1 = (J 119) then
              (gI h a0 11 26).bind fun x26 =>
              (isO h a0 11).bind fun u27 =>
              (f_X12_whineOf h a0 x26).bind fun r28 =>
              some r28
            else
              (gI h a0 11 26).bind fun x30 =>
              (isO h a0 11).bind fun u31 =>
              (f_X12_meshOf h a0 x30 (J 1)).bind fun r32 =>
              (isO h a0 11).bind fun u33 =>
              (f_X12_thin h a0 r32).bind fun r34 =>
              some r34))))))
set_option maxRecDepth 100000 in
set_option maxHeartbeats 4000000 in
theorem s_X12_fieldOf {n : Nat} {h : Hp} {a0 : Nat} {a1 : Int32}  {r : Int32} (hf : f_X12_fieldOf  h a0 a1 = some r) : Ev 8 yX12_fieldOf cX12_fieldOf 4 (some .int) [.ref a0, .int a1] n h (some (.int r)) n h := by
  refine Ev_of RX12 rfl (by decide) (Nat.le_of_ble_eq_true rfl) (Nat.le_refl _) (Or.inl rfl) (fun Z hZ hF hN hI => ?_)
  have H : Ok (f_X12_fieldOf  h a0 a1) (fun y => y = r) := ⟨_, hf, rfl⟩
  unfold f_X12_fieldOf at H
  refine r_ls (ls' := [(0, .ref a0), (1, .int a1)]) rfl ?_
  refine r_iload_n hZ dX12_fieldOf_0 rfl ?_
  by_cases c4 : a1 = (J 101)
  · have hs : R Z 92 [(0, .ref a0), (1, .int a1)] [] n h 0 → R Z 1 [(0, .ref a0), (1, .int a1)] [.int a1] n h 0 := by
      exact fun k => r_tableIn hZ dX12_fieldOf_1 (by rw [c4]; decide) (by rw [c4]; decide) (off := 91) (by rw [c4]; rfl) (by decide) k
    refine hs ?_
    clear hs
    have H := ok_t H c4
    refine r_aload_n hZ dX12_fieldOf_92 rfl ?_
    refine r_aload_n hZ dX12_fieldOf_93 rfl ?_
    obtain ⟨x1, ex1, H⟩ := ok_bind H
    refine r_getI hZ fl_X12_332_11 dX12_fieldOf_94 ex1 ?_
    obtain ⟨u2, eu2, H⟩ := ok_bind H
    obtain ⟨r3, er3, H⟩ := ok_bind H
    refine r_callV (As := [.int x1]) (rest := []) (st1 := [.int r3]) (N2 := 0) hZ dX12_fieldOf_97 cw_X12_243_X12 rfl eu2 (s_X12_evenOf er3) rfl rfl (by decide) (Nat.le_of_ble_eq_true rfl) (Nat.le_refl 0) (Nat.le_refl _) (Or.inl rfl) rfl ?_
    have H := ok_some H
    subst H
    exact r_iret hZ hF dX12_fieldOf_100
  · have H := ok_f H c4
    by_cases c8 : a1 = (J 103)
    · have hs : R Z 101 [(0, .ref a0), (1, .int a1)] [] n h 0 → R Z 1 [(0, .ref a0), (1, .int a1)] [.int a1] n h 0 := by
        exact fun k => r_tableIn hZ dX12_fieldOf_1 (by rw [c8]; decide) (by rw [c8]; decide) (off := 100) (by rw [c8]; rfl) (by decide) k
      refine hs ?_
      clear hs
      have H := ok_t H c8
      refine r_aload_n hZ dX12_fieldOf_101 rfl ?_
      refine r_aload_n hZ dX12_fieldOf_102 rfl ?_
      obtain ⟨x5, ex5, H⟩ := ok_bind H
      refine r_getI hZ fl_X12_332_11 dX12_fieldOf_103 ex5 ?_
      obtain ⟨u6, eu6, H⟩ := ok_bind H
      obtain ⟨r7, er7, H⟩ := ok_bind H
      refine r_callV (As := [.int x5]) (rest := []) (st1 := [.int r7]) (N2 := 0) hZ dX12_fieldOf_106 cw_X12_240_X12 rfl eu6 (s_X12_gapOf er7) rfl rfl (by decide) (Nat.le_of_ble_eq_true rfl) (Nat.le_refl 0) (Nat.le_refl _) (Or.inl rfl) rfl ?_
      have H := ok_some H
      subst H
      exact r_iret hZ hF dX12_fieldOf_109
    · have H := ok_f H c8
      by_cases c17 : a1 = (J 108)
      · have hs : R Z 119 [(0, .ref a0), (1, .int a1)] [] n h 0 → R Z 1 [(0, .ref a0), (1, .int a1)] [.int a1] n h 0 := by
          exact fun k => r_tableIn hZ dX12_fieldOf_1 (by rw [c17]; decide) (by rw [c17]; decide) (off := 118) (by rw [c17]; rfl) (by decide) k
        refine hs ?_
        clear hs
        have H := ok_t H c17
        refine r_aload_n hZ dX12_fieldOf_119 rfl ?_
        refine r_aload_n hZ dX12_fieldOf_120 rfl ?_
        obtain ⟨x9, ex9, H⟩ := ok_bind H
        refine r_getI hZ fl_X12_332_11 dX12_fieldOf_121 ex9 ?_
        refine r_aload_n hZ dX12_fieldOf_124 rfl ?_
        refine r_aload_n hZ dX12_fieldOf_125 rfl ?_
        obtain ⟨x10, ex10, H⟩ := ok_bind H
        refine r_getI hZ fl_X12_332_11 dX12_fieldOf_126 ex10 ?_
        obtain ⟨u11, eu11, H⟩ := ok_bind H
        obtain ⟨r12, er12, H⟩ := ok_bind H
        refine r_callV (As := [.int x10]) (rest := [.int x9, .ref a0]) (st1 := [.int r12, .int x9, .ref a0]) (N2 := 0) hZ dX12_fieldOf_129 cw_X12_273_X12 rfl eu11 (s_X12_whineOf er12) rfl rfl (by decide) (Nat.le_of_ble_eq_true rfl) (Nat.le_refl 0) (Nat.le_refl _) (Or.inl rfl) rfl ?_
        obtain ⟨u13, eu13, H⟩ := ok_bind H
        obtain ⟨r14, er14, H⟩ := ok_bind H
        refine r_callV (As := [.int x9, .int r12]) (rest := []) (st1 := [.long r14]) (N2 := 0) hZ dX12_fieldOf_132 cw_X12_269_X12 rfl eu13 (s_X12_loudOf er14) rfl rfl (by decide) (Nat.le_of_ble_eq_true rfl) (Nat.le_refl 0) (Nat.le_refl _) (Or.inl rfl) rfl ?_
        refine r_lstore_n hZ dX12_fieldOf_135 (by decide) (r_pick [2] (ls' := [(2, .long r14)]) rfl ?_)
        refine r_lload_n hZ dX12_fieldOf_136 rfl ?_
        refine r_ldc2 (v := (K 9999)) hZ wc_X12_279 dX12_fieldOf_137 ?_
        refine r_lcmp hZ dX12_fieldOf_140 ?_
        refine ok_join (Q := fun j15 : Int32 => R Z 152 [] [.int j15] n h 0) H (fun j15 H => ?_) (fun H => ?_)
        · have H := ok_some H
          subst H
          exact r_iret hZ hF dX12_fieldOf_152
        · refine r_if_le (tgt := 150) hZ dX12_fieldOf_141 (by decide) (fun c16 => ?_) (fun c16 => ?_)
          · have H := ok_t H c16
            refine r_lload_n hZ dX12_fieldOf_150 rfl ?_
            refine r_l2i hZ dX12_fieldOf_151 ?_
            have H := ok_some H
            exact r_pick [] (ls' := []) rfl H
          · have H := ok_f H c16
            refine r_sipush (v := (J 9999)) hZ dX12_fieldOf_144 (by decide) ?_
            refine r_goto (tgt := 152) hZ dX12_fieldOf_147 (by decide) ?_
            have H := ok_some H
            exact r_pick [] (ls' := []) rfl H
      · have H := ok_f H c17
        by_cases c19 : a1 = (J 114)
        · have hs : R Z 153 [(0, .ref a0), (1, .int a1)] [] n h 0 → R Z 1 [(0, .ref a0), (1, .int a1)] [.int a1] n h 0 := by
            exact fun k => r_tableIn hZ dX12_fieldOf_1 (by rw [c19]; decide) (by rw [c19]; decide) (off := 152) (by rw [c19]; rfl) (by decide) k
          refine hs ?_
          clear hs
          have H := ok_t H c19
          refine r_aload_n hZ dX12_fieldOf_153 rfl ?_
          obtain ⟨x18, ex18, H⟩ := ok_bind H
          refine r_getI hZ fl_X12_335_11 dX12_fieldOf_154 ex18 ?_
          have H := ok_some H
          subst H
          exact r_iret hZ hF dX12_fieldOf_157
        · have H := ok_f H c19
          by_cases c25 : a1 = (J 116)
          · have hs : R Z 158 [(0, .ref a0), (1, .int a1)] [] n h 0 → R Z 1 [(0, .ref a0), (1, .int a1)] [.int a1] n h 0 := by
              exact fun k => r_tableIn hZ dX12_fieldOf_1 (by rw [c25]; decide) (by rw [c25]; decide) (off := 157) (by rw [c25]; rfl) (by decide) k
            refine hs ?_
            clear hs
            have H := ok_t H c25
            refine r_aload_n hZ dX12_fieldOf_158 rfl ?_
            refine r_aload_n hZ dX12_fieldOf_159 rfl ?_
            refine r_aload_n hZ dX12_fieldOf_160 rfl ?_
            obtain ⟨x20, ex20, H⟩ := ok_bind H
            refine r_getI hZ fl_X12_332_11 dX12_fieldOf_161 ex20 ?_
            refine r_iconst (v := (J 0)) hZ dX12_fieldOf_164 (by decide) ?_
            obtain ⟨u21, eu21, H⟩ := ok_bind H
            obtain ⟨r22, er22, H⟩ := ok_bind H
            refine r_callV (As := [.int x20, .int (J 0)]) (rest := [.ref a0]) (st1 := [.int r22, .ref a0]) (N2 := 0) hZ dX12_fieldOf_165 cw_X12_118_X12 rfl eu21 (s_X12_meshOf er22) rfl rfl (by decide) (Nat.le_of_ble_eq_true rfl) (Nat.le_refl 0) (Nat.le_refl _) (Or.inl rfl) rfl ?_
            obtain ⟨u23, eu23, H⟩ := ok_bind H
            obtain ⟨r24, er24, H⟩ := ok_bind H
            refine r_callV (As := [.int r22]) (rest := []) (st1 := [.int r24]) (N2 := 0) hZ dX12_fieldOf_168 cw_X12_155_X12 rfl eu23 (s_X12_thin er24) rfl rfl (by decide) (Nat.le_of_ble_eq_true rfl) (Nat.le_refl 0) (Nat.le_refl _) (Or.inl rfl) rfl ?_
            have H := ok_some H
            subst H
            exact r_iret hZ hF dX12_fieldOf_171
          · have H := ok_f H c25
            by_cases c29 : a1 = (J 119)
            · have hs : R Z 110 [(0, .ref a0), (1, .int a1)] [] n h 0 → R Z 1 [(0, .ref a0), (1, .int a1)] [.int a1] n h 0 := by
                exact fun k => r_tableIn hZ dX12_fieldOf_1 (by rw [c29]; decide) (by rw [c29]; decide) (off := 109) (by rw [c29]; rfl) (by decide) k
              refine hs ?_
              clear hs
              have H := ok_t H c29
              refine r_aload_n hZ dX12_fieldOf_110 rfl ?_
              refine r_aload_n hZ dX12_fieldOf_111 rfl ?_
              obtain ⟨x26, ex26, H⟩ := ok_bind H
              refine r_getI hZ fl_X12_332_11 dX12_fieldOf_112 ex26 ?_
              obtain ⟨u27, eu27, H⟩ := ok_bind H
              obtain ⟨r28, er28, H⟩ := ok_bind H
              refine r_callV (As := [.int x26]) (rest := []) (st1 := [.int r28]) (N2 := 0) hZ dX12_fieldOf_115 cw_X12_273_X12 rfl eu27 (s_X12_whineOf er28) rfl rfl (by decide) (Nat.le_of_ble_eq_true rfl) (Nat.le_refl 0) (Nat.le_refl _) (Or.inl rfl) rfl ?_
              have H := ok_some H
              subst H
              exact r_iret hZ hF dX12_fieldOf_118
            · have H := ok_f H c29
              have hs : R Z 172 [(0, .ref a0), (1, .int a1)] [] n h 0 → R Z 1 [(0, .ref a0), (1, .int a1)] [.int a1] n h 0 := by
                rcases Decidable.em (a1.toInt < 101 ∨ 119 < a1.toInt) with q | q
                · exact fun k => r_tableOut (tgt := 172) hZ dX12_fieldOf_1 q (by decide) k
                · have q2 : a1.toInt = 102 ∨ a1.toInt = 104 ∨ a1.toInt = 105 ∨ a1.toInt = 106 ∨ a1.toInt = 107 ∨ a1.toInt = 109 ∨ a1.toInt = 110 ∨ a1.toInt = 111 ∨ a1.toInt = 112 ∨ a1.toInt = 113 ∨ a1.toInt = 115 ∨ a1.toInt = 117 ∨ a1.toInt = 118 := by have := sw_n c4; have := sw_n c8; have := sw_n c17; have := sw_n c19; have := sw_n c25; have := sw_n c29; omega
                  rcases q2 with e | e | e | e | e | e | e | e | e | e | e | e | e
                  · exact fun k => r_tableIn hZ dX12_fieldOf_1 (by rw [e]; decide) (by rw [e]; decide) (off := 171) (by rw [e]; rfl) (by decide) k
                  · exact fun k => r_tableIn hZ dX12_fieldOf_1 (by rw [e]; decide) (by rw [e]; decide) (off := 171) (by rw [e]; rfl) (by decide) k
                  · exact fun k => r_tableIn hZ dX12_fieldOf_1 (by rw [e]; decide) (by rw [e]; decide) (off := 171) (by rw [e]; rfl) (by decide) k
                  · exact fun k => r_tableIn hZ dX12_fieldOf_1 (by rw [e]; decide) (by rw [e]; decide) (off := 171) (by rw [e]; rfl) (by decide) k
                  · exact fun k => r_tableIn hZ dX12_fieldOf_1 (by rw [e]; decide) (by rw [e]; decide) (off := 171) (by rw [e]; rfl) (by decide) k
                  · exact fun k => r_tableIn hZ dX12_fieldOf_1 (by rw [e]; decide) (by rw [e]; decide) (off := 171) (by rw [e]; rfl) (by decide) k
                  · exact fun k => r_tableIn hZ dX12_fieldOf_1 (by rw [e]; decide) (by rw [e]; decide) (off := 171) (by rw [e]; rfl) (by decide) k
                  · exact fun k => r_tableIn hZ dX12_fieldOf_1 (by rw [e]; decide) (by rw [e]; decide) (off := 171) (by rw [e]; rfl) (by decide) k
                  · exact fun k => r_tableIn hZ dX12_fieldOf_1 (by rw [e]; decide) (by rw [e]; decide) (off := 171) (by rw [e]; rfl) (by decide) k
                  · exact fun k => r_tableIn hZ dX12_fieldOf_1 (by rw [e]; decide) (by rw [e]; decide) (off := 171) (by rw [e]; rfl) (by decide) k
                  · exact fun k => r_tableIn hZ dX12_fieldOf_1 (by rw [e]; decide) (by rw [e]; decide) (off := 171) (by rw [e]; rfl) (by decide) k
                  · exact fun k => r_tableIn hZ dX12_fieldOf_1 (by rw [e]; decide) (by rw [e]; decide) (off := 171) (by rw [e]; rfl) (by decide) k
                  · exact fun k => r_tableIn hZ dX12_fieldOf_1 (by rw [e]; decide) (by rw [e]; decide) (off := 171) (by rw [e]; rfl) (by decide) k
              refine hs ?_
              clear hs
              refine r_aload_n hZ dX12_fieldOf_172 rfl ?_
              refine r_aload_n hZ dX12_fieldOf_173 rfl ?_
              refine r_aload_n hZ dX12_fieldOf_174 rfl ?_
              obtain ⟨x30, ex30, H⟩ := ok_bind H
              refine r_getI hZ fl_X12_332_11 dX12_fieldOf_175 ex30 ?_
              refine r_iconst (v := (J 1)) hZ dX12_fieldOf_178 (by decide) ?_
              obtain ⟨u31, eu31, H⟩ := ok_bind H
              obtain ⟨r32, er32, H⟩ := ok_bind H
              refine r_callV (As := [.int x30, .int (J 1)]) (rest := [.ref a0]) (st1 := [.int r32, .ref a0]) (N2 := 0) hZ dX12_fieldOf_179 cw_X12_118_X12 rfl eu31 (s_X12_meshOf er32) rfl rfl (by decide) (Nat.le_of_ble_eq_true rfl) (Nat.le_refl 0) (Nat.le_refl _) (Or.inl rfl) rfl ?_
              obtain ⟨u33, eu33, H⟩ := ok_bind H
              obtain ⟨r34, er34, H⟩ := ok_bind H
              refine r_callV (As := [.int r32]) (rest := []) (st1 := [.int r34]) (N2 := 0) hZ dX12_fieldOf_182 cw_X12_155_X12 rfl eu33 (s_X12_thin er34) rfl rfl (by decide) (Nat.le_of_ble_eq_true rfl) (Nat.le_refl 0) (Nat.le_refl _) (Or.inl rfl) rfl ?_
              have H := ok_some H
              subst H
              exact r_iret hZ hF dX12_fieldOf_185
def b_X12_atom_30 (p0 : Nat) (s : Int32 × Hp) : Option ((Int32 × Hp) ⊕ ((Int32 × Hp))) :=
  (isO s.2 p0 11).bind fun u1 =>
  (f_X12_sign s.2 p0).bind fun r2 =>
  (f_X12_isDigit r2).bind fun r3 =>
  (if r3 = 0 then
    some (.inr ((s.1, s.2)))
  else
    (isO s.2 p0 11).bind fun u4 =>
    (f_X12_sign s.2 p0).bind fun r5 =>
    (some ((((J 10) * s.1) + r5) - (J 48))).bind fun x6 =>
    (gI s.2 p0 11 12).bind fun x7 =>
    (pF s.2 p0 11 12 (.int (x7 + (J 1)))).bind fun h8 =>
    some (.inl (x6, h8)))
set_option maxRecDepth 100000 in
set_option maxHeartbeats 4000000 in
theorem l_X12_atom_30 {Z : Zc} (hZ : Fx cX12_atom RX12 3 9 0 Z) {n : Nat} {p0 : Nat} {P : ((Int32 × Hp)) → Prop} (hx0 : ∀ e : Int32 × Hp, P (e) → R Z 66 [(2, .int e.1)] [] n e.2 0) : ∀ (m : Nat) (s : Int32 × Hp), Ok (iter (b_X12_atom_30 p0) m s) P → R Z 30 [(0, .ref p0), (2, .int s.1)] [] n s.2 0 := by
  intro m
  induction m with
  | zero => exact fun s H => ok_iter0 H
  | succ m ih =>
    intro s H
    have H := ok_iter H
    unfold b_X12_atom_30 at H
    refine r_aload_n hZ dX12_atom_30 rfl ?_
    obtain ⟨u1, eu1, H⟩ := ok_bind H
    obtain ⟨r2, er2, H⟩ := ok_bind H
    refine r_callV (As := []) (rest := []) (st1 := [.int r2]) (N2 := 0) hZ dX12_atom_31 cw_X12_99_X12 rfl eu1 (s_X12_sign er2) rfl rfl (by decide) (Nat.le_of_ble_eq_true rfl) (Nat.le_refl 0) (Nat.le_refl _) (Or.inl rfl) rfl ?_
    obtain ⟨r3, er3, H⟩ := ok_bind H
    refine r_callS (As := [.int r2]) (rest := []) (st1 := [.int r3]) (N2 := 0) hZ dX12_atom_34 cw_X12_308 (s_X12_isDigit er3) rfl rfl (by decide) (Nat.le_of_ble_eq_true rfl) (Nat.le_refl 0) (Nat.le_refl _) (Or.inl rfl) rfl ?_
    refine r_if_eq (tgt := 66) hZ dX12_atom_37 (by decide) (fun c9 => ?_) (fun c9 => ?_)
    · have H := ok_t H c9
      exact r_pick [2] (ls' := [(2, .int s.1)]) rfl (hx0 _ (ki_r H))
    · have H := ok_f H c9
      refine r_bipush (v := (J 10)) hZ dX12_atom_40 (by decide) ?_
      refine r_iload_n hZ dX12_atom_42 rfl ?_
      refine r_imul hZ dX12_atom_43 ?_
      refine r_aload_n hZ dX12_atom_44 rfl ?_
      obtain ⟨u4, eu4, H⟩ := ok_bind H
      obtain ⟨r5, er5, H⟩ := ok_bind H
      refine r_callV (As := []) (rest := [.int ((J 10) * s.1)]) (st1 := [.int r5, .int ((J 10) * s.1)]) (N2 := 0) hZ dX12_atom_45 cw_X12_99_X12 rfl eu4 (s_X12_sign er5) rfl rfl (by decide) (Nat.le_of_ble_eq_true rfl) (Nat.le_refl 0) (Nat.le_refl _) (Or.inl rfl) rfl ?_
      refine r_iadd hZ dX12_atom_48 ?_
      refine r_bipush (v := (J 48)) hZ dX12_atom_49 (by decide) ?_
      refine r_isub hZ dX12_atom_51 ?_
      obtain ⟨x6, ex6, H⟩ := ok_bind H
      refine r_topi ex6 ?_
      refine r_istore_n hZ dX12_atom_52 (by decide) (r_pick [0, 2] (ls' := [(0, .ref p0), (2, .int x6)]) rfl ?_)
      refine r_aload_n hZ dX12_atom_53 rfl ?_
      refine r_dup_a hZ dX12_atom_54 ?_
      obtain ⟨x7, ex7, H⟩ := ok_bind H
      refine r_getI hZ fl_X12_90_11 dX12_atom_55 ex7 ?_
      refine r_iconst (v := (J 1)) hZ dX12_atom_58 (by decide) ?_
      refine r_iadd hZ dX12_atom_59 ?_
      obtain ⟨h8, eh8, H⟩ := ok_bind H
      refine r_putf hZ fl_X12_90_11 dX12_atom_60 eh8 rfl rfl ?_
      refine r_goto (tgt := 30) hZ dX12_atom_63 (by decide) ?_
      exact r_pick [0, 2] (ls' := [(0, .ref p0), (2, .int x6)]) rfl (ih _ (ki_l H))
def f_X12_atom  (h : Hp) (a0 : Nat) : Option (Int32 × Hp) :=
  (isO h a0 11).bind fun u1 =>
  (f_X12_sign h a0).bind fun r2 =>
  (f_X12_isDigit r2).bind fun r3 =>
  (if r3 = 0 then
    (gI h a0 11 12).bind fun x6 =>
    (pF h a0 11 12 (.int (x6 + (J 1)))).bind fun h7 =>
    (isO h7 a0 11).bind fun u8 =>
    (f_X12_fieldOf h7 a0 r2).bind fun r9 =>
    some (r9, h7)
  else
    (some (J 0)).bind fun x4 =>
    (iter (b_X12_atom_30 a0) FU (x4, h)).bind fun e5 =>
    some (e5.1, e5.2))
set_option maxRecDepth 100000 in
set_option maxHeartbeats 4000000 in
theorem s_X12_atom {n : Nat} {h : Hp} {a0 : Nat}  {r : Int32 × Hp} (hf : f_X12_atom  h a0 = some r) : Ev 9 yX12_atom cX12_atom 3 (some .int) [.ref a0] n h (some (.int r.1)) n r.2 := by
  refine Ev_of RX12 rfl (by decide) (Nat.le_of_ble_eq_true rfl) (Nat.le_refl _) (Or.inl rfl) (fun Z hZ hF hN hI => ?_)
  have H : Ok (f_X12_atom  h a0) (fun y => y = r) := ⟨_, hf, rfl⟩
  unfold f_X12_atom at H
  refine r_ls (ls' := [(0, .ref a0)]) rfl ?_
  refine r_aload_n hZ dX12_atom_0 rfl ?_
  obtain ⟨u1, eu1, H⟩ := ok_bind H
  obtain ⟨r2, er2, H⟩ := ok_bind H
  refine r_callV (As := []) (rest := []) (st1 := [.int r2]) (N2 := 0) hZ dX12_atom_1 cw_X12_99_X12 rfl eu1 (s_X12_sign er2) rfl rfl (by decide) (Nat.le_of_ble_eq_true rfl) (Nat.le_refl 0) (Nat.le_refl _) (Or.inl rfl) rfl ?_
  refine r_istore_n hZ dX12_atom_4 (by decide) (r_pick [0, 1] (ls' := [(0, .ref a0), (1, .int r2)]) rfl ?_)
  refine r_iload_n hZ dX12_atom_5 rfl ?_
  obtain ⟨r3, er3, H⟩ := ok_bind H
  refine r_callS (As := [.int r2]) (rest := []) (st1 := [.int r3]) (N2 := 0) hZ dX12_atom_6 cw_X12_308 (s_X12_isDigit er3) rfl rfl (by decide) (Nat.le_of_ble_eq_true rfl) (Nat.le_refl 0) (Nat.le_refl _) (Or.inl rfl) rfl ?_
  refine r_if_ne (tgt := 28) hZ dX12_atom_9 (by decide) (fun c10 => ?_) (fun c10 => ?_)
  · have H := ok_f H c10
    refine r_iconst (v := (J 0)) hZ dX12_atom_28 (by decide) ?_
    obtain ⟨x4, ex4, H⟩ := ok_bind H
    refine r_topi ex4 ?_
    refine r_istore_n hZ dX12_atom_29 (by decide) (r_pick [0, 2] (ls' := [(0, .ref a0), (2, .int x4)]) rfl ?_)
    have H := ok_bindK H
    refine r_pick [0, 2] (ls' := [(0, .ref a0), (2, .int x4)]) rfl (l_X12_atom_30 hZ (fun e5 H => ?_) FU _ H)
    · refine r_iload_n hZ dX12_atom_66 rfl ?_
      have H := ok_some H
      subst H
      exact r_iret hZ hF dX12_atom_67
  · have H := ok_t H c10
    refine r_aload_n hZ dX12_atom_12 rfl ?_
    refine r_dup_a hZ dX12_atom_13 ?_
    obtain ⟨x6, ex6, H⟩ := ok_bind H
    refine r_getI hZ fl_X12_90_11 dX12_atom_14 ex6 ?_
    refine r_iconst (v := (J 1)) hZ dX12_atom_17 (by decide) ?_
    refine r_iadd hZ dX12_atom_18 ?_
    obtain ⟨h7, eh7, H⟩ := ok_bind H
    refine r_putf hZ fl_X12_90_11 dX12_atom_19 eh7 rfl rfl ?_
    refine r_aload_n hZ dX12_atom_22 rfl ?_
    refine r_iload_n hZ dX12_atom_23 rfl ?_
    obtain ⟨u8, eu8, H⟩ := ok_bind H
    obtain ⟨r9, er9, H⟩ := ok_bind H
    refine r_callV (As := [.int r2]) (rest := []) (st1 := [.int r9]) (N2 := 0) hZ dX12_atom_24 cw_X12_329_X12 rfl eu8 (s_X12_fieldOf er9) rfl rfl (by decide) (Nat.le_of_ble_eq_true rfl) (Nat.le_refl 0) (Nat.le_refl _) (Or.inl rfl) rfl ?_
    have H := ok_some H
    subst H
    exact r_iret hZ hF dX12_atom_27
def b_X12_sum_5 (p0 : Nat) (s : Int32 × Hp) : Option ((Int32 × Hp) ⊕ ((Int32 × Hp))) :=
  (isO s.2 p0 11).bind fun u1 =>
  (f_X12_sign s.2 p0).bind fun r2 =>
  (if r2 = (J 43) then
    (isO s.2 p0 11).bind fun u3 =>
    (f_X12_sign s.2 p0).bind fun r4 =>
    (gI s.2 p0 11 12).bind fun x5 =>
    (pF s.2 p0 11 12 (.int (x5 + (J 1)))).bind fun h6 =>
    (isO h6 p0 11).bind fun u7 =>
    (f_X12_atom h6 p0).bind fun r8 =>
    ((if r4 = (J 43) then
      some r8.1
    else
      some (-r8.1))).bind fun (j9 : Int32) =>
    (some (s.1 + j9)).bind fun x11 =>
    some (.inl (x11, r8.2))
  else
    (isO s.2 p0 11).bind fun u12 =>
    (f_X12_sign s.2 p0).bind fun r13 =>
    (if r13 = (J 45) then
      (isO s.2 p0 11).bind fun u14 =>
      (f_X12_sign s.2 p0).bind fun r15 =>
      (gI s.2 p0 11 12).bind fun x16 =>
      (pF s.2 p0 11 12 (.int (x16 + (J 1)))).bind fun h17 =>
      (isO h17 p0 11).bind fun u18 =>
      (f_X12_atom h17 p0).bind fun r19 =>
      ((if r15 = (J 43) then
        some r19.1
      else
        some (-r19.1))).bind fun (j20 : Int32) =>
      (some (s.1 + j20)).bind fun x22 =>
      some (.inl (x22, r19.2))
    else
      some (.inr ((s.1, s.2)))))
set_option maxRecDepth 100000 in
set_option maxHeartbeats 4000000 in
theorem l_X12_sum_5 {Z : Zc} (hZ : Fx cX12_sum RX12 4 10 0 Z) {n : Nat} {p0 : Nat} {P : ((Int32 × Hp)) → Prop} (hx0 : ∀ e : Int32 × Hp, P (e) → R Z 61 [(1, .int e.1)] [] n e.2 0) : ∀ (m : Nat) (s : Int32 × Hp), Ok (iter (b_X12_sum_5 p0) m s) P → R Z 5 [(0, .ref p0), (1, .int s.1)] [] n s.2 0 := by
  intro m
  induction m with
  | zero => exact fun s H => ok_iter0 H
  | succ m ih =>
    intro s H
    have H := ok_iter H
    unfold b_X12_sum_5 at H
    refine r_aload_n hZ dX12_sum_5 rfl ?_
    obtain ⟨u1, eu1, H⟩ := ok_bind H
    obtain ⟨r2, er2, H⟩ := ok_bind H
    refine r_callV (As := []) (rest := []) (st1 := [.int r2]) (N2 := 0) hZ dX12_sum_6 cw_X12_99_X12 rfl eu1 (s_X12_sign er2) rfl rfl (by decide) (Nat.le_of_ble_eq_true rfl) (Nat.le_refl 0) (Nat.le_refl _) (Or.inl rfl) rfl ?_
    refine r_bipush (v := (J 43)) hZ dX12_sum_9 (by decide) ?_
    refine r_icmp_eq (tgt := 23) hZ dX12_sum_11 (by decide) (fun c24 => ?_) (fun c24 => ?_)
    · have H := ok_t H c24
      refine r_aload_n hZ dX12_sum_23 rfl ?_
      obtain ⟨u3, eu3, H⟩ := ok_bind H
      obtain ⟨r4, er4, H⟩ := ok_bind H
      refine r_callV (As := []) (rest := []) (st1 := [.int r4]) (N2 := 0) hZ dX12_sum_24 cw_X12_99_X12 rfl eu3 (s_X12_sign er4) rfl rfl (by decide) (Nat.le_of_ble_eq_true rfl) (Nat.le_refl 0) (Nat.le_refl _) (Or.inl rfl) rfl ?_
      refine r_istore_n hZ dX12_sum_27 (by decide) (r_pick [0, 1, 2] (ls' := [(0, .ref p0), (1, .int s.1), (2, .int r4)]) rfl ?_)
      refine r_aload_n hZ dX12_sum_28 rfl ?_
      refine r_dup_a hZ dX12_sum_29 ?_
      obtain ⟨x5, ex5, H⟩ := ok_bind H
      refine r_getI hZ fl_X12_90_11 dX12_sum_30 ex5 ?_
      refine r_iconst (v := (J 1)) hZ dX12_sum_33 (by decide) ?_
      refine r_iadd hZ dX12_sum_34 ?_
      obtain ⟨h6, eh6, H⟩ := ok_bind H
      refine r_putf hZ fl_X12_90_11 dX12_sum_35 eh6 rfl rfl ?_
      refine r_aload_n hZ dX12_sum_38 rfl ?_
      obtain ⟨u7, eu7, H⟩ := ok_bind H
      obtain ⟨r8, er8, H⟩ := ok_bind H
      refine r_callV (As := []) (rest := []) (st1 := [.int r8.1]) (N2 := 0) hZ dX12_sum_39 cw_X12_326_X12 rfl eu7 (s_X12_atom er8) rfl rfl (by decide) (Nat.le_of_ble_eq_true rfl) (Nat.le_refl 0) (Nat.le_refl _) (Or.inl rfl) rfl ?_
      refine r_istore_n hZ dX12_sum_42 (by decide) (r_pick [0, 1, 2, 3] (ls' := [(0, .ref p0), (1, .int s.1), (2, .int r4), (3, .int r8.1)]) rfl ?_)
      refine r_iload_n hZ dX12_sum_43 rfl ?_
      refine r_iload_n hZ dX12_sum_44 rfl ?_
      refine r_bipush (v := (J 43)) hZ dX12_sum_45 (by decide) ?_
      refine ok_join (Q := fun j9 : Int32 => R Z 56 [(0, .ref p0)] [.int j9, .int s.1] n r8.2 0) H (fun j9 H => ?_) (fun H => ?_)
      · refine r_iadd hZ dX12_sum_56 ?_
        obtain ⟨x11, ex11, H⟩ := ok_bind H
        refine r_topi ex11 ?_
        refine r_istore_n hZ dX12_sum_57 (by decide) (r_pick [0, 1] (ls' := [(0, .ref p0), (1, .int x11)]) rfl ?_)
        refine r_goto (tgt := 5) hZ dX12_sum_58 (by decide) ?_
        exact r_pick [0, 1] (ls' := [(0, .ref p0), (1, .int x11)]) rfl (ih _ (ki_l H))
      · refine r_icmp_ne (tgt := 54) hZ dX12_sum_47 (by decide) (fun c10 => ?_) (fun c10 => ?_)
        · have H := ok_f H c10
          refine r_iload_n hZ dX12_sum_54 rfl ?_
          refine r_ineg hZ dX12_sum_55 ?_
          have H := ok_some H
          exact r_pick [0] (ls' := [(0, .ref p0)]) rfl H
        · have H := ok_t H c10
          refine r_iload_n hZ dX12_sum_50 rfl ?_
          refine r_goto (tgt := 56) hZ dX12_sum_51 (by decide) ?_
          have H := ok_some H
          exact r_pick [0] (ls' := [(0, .ref p0)]) rfl H
    · have H := ok_f H c24
      refine r_aload_n hZ dX12_sum_14 rfl ?_
      obtain ⟨u12, eu12, H⟩ := ok_bind H
      obtain ⟨r13, er13, H⟩ := ok_bind H
      refine r_callV (As := []) (rest := []) (st1 := [.int r13]) (N2 := 0) hZ dX12_sum_15 cw_X12_99_X12 rfl eu12 (s_X12_sign er13) rfl rfl (by decide) (Nat.le_of_ble_eq_true rfl) (Nat.le_refl 0) (Nat.le_refl _) (Or.inl rfl) rfl ?_
      refine r_bipush (v := (J 45)) hZ dX12_sum_18 (by decide) ?_
      refine r_icmp_ne (tgt := 61) hZ dX12_sum_20 (by decide) (fun c23 => ?_) (fun c23 => ?_)
      · have H := ok_f H c23
        exact r_pick [1] (ls' := [(1, .int s.1)]) rfl (hx0 _ (ki_r H))
      · have H := ok_t H c23
        refine r_aload_n hZ dX12_sum_23 rfl ?_
        obtain ⟨u14, eu14, H⟩ := ok_bind H
        obtain ⟨r15, er15, H⟩ := ok_bind H
        refine r_callV (As := []) (rest := []) (st1 := [.int r15]) (N2 := 0) hZ dX12_sum_24 cw_X12_99_X12 rfl eu14 (s_X12_sign er15) rfl rfl (by decide) (Nat.le_of_ble_eq_true rfl) (Nat.le_refl 0) (Nat.le_refl _) (Or.inl rfl) rfl ?_
        refine r_istore_n hZ dX12_sum_27 (by decide) (r_pick [0, 1, 2] (ls' := [(0, .ref p0), (1, .int s.1), (2, .int r15)]) rfl ?_)
        refine r_aload_n hZ dX12_sum_28 rfl ?_
        refine r_dup_a hZ dX12_sum_29 ?_
        obtain ⟨x16, ex16, H⟩ := ok_bind H
        refine r_getI hZ fl_X12_90_11 dX12_sum_30 ex16 ?_
        refine r_iconst (v := (J 1)) hZ dX12_sum_33 (by decide) ?_
        refine r_iadd hZ dX12_sum_34 ?_
        obtain ⟨h17, eh17, H⟩ := ok_bind H
        refine r_putf hZ fl_X12_90_11 dX12_sum_35 eh17 rfl rfl ?_
        refine r_aload_n hZ dX12_sum_38 rfl ?_
        obtain ⟨u18, eu18, H⟩ := ok_bind H
        obtain ⟨r19, er19, H⟩ := ok_bind H
        refine r_callV (As := []) (rest := []) (st1 := [.int r19.1]) (N2 := 0) hZ dX12_sum_39 cw_X12_326_X12 rfl eu18 (s_X12_atom er19) rfl rfl (by decide) (Nat.le_of_ble_eq_true rfl) (Nat.le_refl 0) (Nat.le_refl _) (Or.inl rfl) rfl ?_
        refine r_istore_n hZ dX12_sum_42 (by decide) (r_pick [0, 1, 2, 3] (ls' := [(0, .ref p0), (1, .int s.1), (2, .int r15), (3, .int r19.1)]) rfl ?_)
        refine r_iload_n hZ dX12_sum_43 rfl ?_
        refine r_iload_n hZ dX12_sum_44 rfl ?_
        refine r_bipush (v := (J 43)) hZ dX12_sum_45 (by decide) ?_
        refine ok_join (Q := fun j20 : Int32 => R Z 56 [(0, .ref p0)] [.int j20, .int s.1] n r19.2 0) H (fun j20 H => ?_) (fun H => ?_)
        · refine r_iadd hZ dX12_sum_56 ?_
          obtain ⟨x22, ex22, H⟩ := ok_bind H
          refine r_topi ex22 ?_
          refine r_istore_n hZ dX12_sum_57 (by decide) (r_pick [0, 1] (ls' := [(0, .ref p0), (1, .int x22)]) rfl ?_)
          refine r_goto (tgt := 5) hZ dX12_sum_58 (by decide) ?_
          exact r_pick [0, 1] (ls' := [(0, .ref p0), (1, .int x22)]) rfl (ih _ (ki_l H))
        · refine r_icmp_ne (tgt := 54) hZ dX12_sum_47 (by decide) (fun c21 => ?_) (fun c21 => ?_)
          · have H := ok_f H c21
            refine r_iload_n hZ dX12_sum_54 rfl ?_
            refine r_ineg hZ dX12_sum_55 ?_
            have H := ok_some H
            exact r_pick [0] (ls' := [(0, .ref p0)]) rfl H
          · have H := ok_t H c21
            refine r_iload_n hZ dX12_sum_50 rfl ?_
            refine r_goto (tgt := 56) hZ dX12_sum_51 (by decide) ?_
            have H := ok_some H
            exact r_pick [0] (ls' := [(0, .ref p0)]) rfl H
def f_X12_sum  (h : Hp) (a0 : Nat) : Option (Int32 × Hp) :=
  (isO h a0 11).bind fun u1 =>
  (f_X12_atom h a0).bind fun r2 =>
  (iter (b_X12_sum_5 a0) FU (r2.1, r2.2)).bind fun e3 =>
  some (e3.1, e3.2)
set_option maxRecDepth 100000 in
set_option maxHeartbeats 4000000 in
theorem s_X12_sum {n : Nat} {h : Hp} {a0 : Nat}  {r : Int32 × Hp} (hf : f_X12_sum  h a0 = some r) : Ev 10 yX12_sum cX12_sum 4 (some .int) [.ref a0] n h (some (.int r.1)) n r.2 := by
  refine Ev_of RX12 rfl (by decide) (Nat.le_of_ble_eq_true rfl) (Nat.le_refl _) (Or.inl rfl) (fun Z hZ hF hN hI => ?_)
  have H : Ok (f_X12_sum  h a0) (fun y => y = r) := ⟨_, hf, rfl⟩
  unfold f_X12_sum at H
  refine r_ls (ls' := [(0, .ref a0)]) rfl ?_
  refine r_aload_n hZ dX12_sum_0 rfl ?_
  obtain ⟨u1, eu1, H⟩ := ok_bind H
  obtain ⟨r2, er2, H⟩ := ok_bind H
  refine r_callV (As := []) (rest := []) (st1 := [.int r2.1]) (N2 := 0) hZ dX12_sum_1 cw_X12_326_X12 rfl eu1 (s_X12_atom er2) rfl rfl (by decide) (Nat.le_of_ble_eq_true rfl) (Nat.le_refl 0) (Nat.le_refl _) (Or.inl rfl) rfl ?_
  refine r_istore_n hZ dX12_sum_4 (by decide) (r_pick [0, 1] (ls' := [(0, .ref a0), (1, .int r2.1)]) rfl ?_)
  have H := ok_bindK H
  refine r_pick [0, 1] (ls' := [(0, .ref a0), (1, .int r2.1)]) rfl (l_X12_sum_5 hZ (fun e3 H => ?_) FU _ H)
  · refine r_iload_n hZ dX12_sum_61 rfl ?_
    have H := ok_some H
    subst H
    exact r_iret hZ hF dX12_sum_62
def F_X12_test (g_X12_or : Hp → Nat → Option (Int32 × Hp)) (g_X12_test : Hp → Nat → Option (Int32 × Hp)) (h : Hp) (a0 : Nat) : Option (Int32 × Hp) :=
  (isO h a0 11).bind fun u1 =>
  (f_X12_takes h a0 (J 33)).bind fun r2 =>
  (if r2.1 = 0 then
    (isO r2.2 a0 11).bind fun u3 =>
    (f_X12_takes r2.2 a0 (J 40)).bind fun r4 =>
    (if r4.1 = 0 then
      (isO r4.2 a0 11).bind fun u5 =>
      (f_X12_sum r4.2 a0).bind fun r6 =>
      (isO r6.2 a0 11).bind fun u7 =>
      (f_X12_sign r6.2 a0).bind fun r8 =>
      (gI r6.2 a0 11 12).bind fun x9 =>
      (pF r6.2 a0 11 12 (.int (x9 + (J 1)))).bind fun h10 =>
      (isO h10 a0 11).bind fun u11 =>
      (f_X12_sum h10 a0).bind fun r12 =>
      ((if r8 = (J 60) then
        (if r12.1 ≤ r6.1 then
          some (J 0)
        else
          some (J 1))
      else
        (if r8 = (J 62) then
          (if r6.1 ≤ r12.1 then
            some (J 0)
          else
            some (J 1))
        else
          (if r6.1 = r12.1 then
            some (J 1)
          else
            some (J 0))))).bind fun (j13 : Int32) =>
      (bz j13).bind fun u19 =>
      some (j13, r12.2)
    else
      (isO r4.2 a0 11).bind fun u20 =>
      (g_X12_or r4.2 a0).bind fun r21 =>
      (gI r21.2 a0 11 12).bind fun x22 =>
      (pF r21.2 a0 11 12 (.int (x22 + (J 1)))).bind fun h23 =>
      (bz r21.1).bind fun u24 =>
      some (r21.1, h23))
  else
    (isO r2.2 a0 11).bind fun u26 =>
    (g_X12_test r2.2 a0).bind fun r27 =>
    ((if r27.1 = 0 then
      some (J 1)
    else
      some (J 0))).bind fun (j28 : Int32) =>
    (bz j28).bind fun u30 =>
    some (j28, r27.2))
set_option maxRecDepth 100000 in
set_option maxHeartbeats 4000000 in
theorem sF_X12_test {d : Nat} (hd9 : 10 < d) {dr_X12_or : Nat} (hd_X12_or : dr_X12_or < d) {g_X12_or : Hp → Nat → Option (Int32 × Hp)} {dr_X12_test : Nat} (hd_X12_test : dr_X12_test < d) {g_X12_test : Hp → Nat → Option (Int32 × Hp)} {n : Nat} {h : Hp} {a0 : Nat} (hg_X12_or : ∀ {n : Nat} {h : Hp} {b0 : Nat} {r : _}, g_X12_or h b0 = some r → Ev dr_X12_or yX12_or cX12_or 3 (some .boolean) [.ref b0] n h (some (.int r.1)) n r.2) (hg_X12_test : ∀ {n : Nat} {h : Hp} {b0 : Nat} {r : _}, g_X12_test h b0 = some r → Ev dr_X12_test yX12_test cX12_test 4 (some .boolean) [.ref b0] n h (some (.int r.1)) n r.2) {r : Int32 × Hp} (hf : F_X12_test g_X12_or g_X12_test h a0 = some r) : Ev d yX12_test cX12_test 4 (some .boolean) [.ref a0] n h (some (.int r.1)) n r.2 := by
  refine Ev_of RX12 rfl (by decide) (Nat.le_of_ble_eq_true rfl) (Nat.le_refl _) (Or.inl rfl) (fun Z hZ hF hN hI => ?_)
  have H : Ok (F_X12_test g_X12_or g_X12_test h a0) (fun y => y = r) := ⟨_, hf, rfl⟩
  unfold F_X12_test at H
  refine r_ls (ls' := [(0, .ref a0)]) rfl ?_
  refine r_aload_n hZ dX12_test_0 rfl ?_
  refine r_bipush (v := (J 33)) hZ dX12_test_1 (by decide) ?_
  obtain ⟨u1, eu1, H⟩ := ok_bind H
  obtain ⟨r2, er2, H⟩ := ok_bind H
  refine r_callV (As := [.int (J 33)]) (rest := []) (st1 := [.int r2.1]) (N2 := 0) hZ dX12_test_3 cw_X12_110_X12 rfl eu1 (s_X12_takes er2) rfl rfl (by omega) (Nat.le_of_ble_eq_true rfl) (Nat.le_refl 0) (Nat.le_refl _) (Or.inl rfl) rfl ?_
  refine r_if_eq (tgt := 22) hZ dX12_test_6 (by decide) (fun c31 => ?_) (fun c31 => ?_)
  · have H := ok_t H c31
    refine r_aload_n hZ dX12_test_22 rfl ?_
    refine r_bipush (v := (J 40)) hZ dX12_test_23 (by decide) ?_
    obtain ⟨u3, eu3, H⟩ := ok_bind H
    obtain ⟨r4, er4, H⟩ := ok_bind H
    refine r_callV (As := [.int (J 40)]) (rest := []) (st1 := [.int r4.1]) (N2 := 0) hZ dX12_test_25 cw_X12_110_X12 rfl eu3 (s_X12_takes er4) rfl rfl (by omega) (Nat.le_of_ble_eq_true rfl) (Nat.le_refl 0) (Nat.le_refl _) (Or.inl rfl) rfl ?_
    refine r_if_eq (tgt := 48) hZ dX12_test_28 (by decide) (fun c25 => ?_) (fun c25 => ?_)
    · have H := ok_t H c25
      refine r_aload_n hZ dX12_test_48 rfl ?_
      obtain ⟨u5, eu5, H⟩ := ok_bind H
      obtain ⟨r6, er6, H⟩ := ok_bind H
      refine r_callV (As := []) (rest := []) (st1 := [.int r6.1]) (N2 := 0) hZ dX12_test_49 cw_X12_323_X12 rfl eu5 (s_X12_sum er6) rfl rfl (by omega) (Nat.le_of_ble_eq_true rfl) (Nat.le_refl 0) (Nat.le_refl _) (Or.inl rfl) rfl ?_
      refine r_istore_n hZ dX12_test_52 (by decide) (r_pick [0, 1] (ls' := [(0, .ref a0), (1, .int r6.1)]) rfl ?_)
      refine r_aload_n hZ dX12_test_53 rfl ?_
      obtain ⟨u7, eu7, H⟩ := ok_bind H
      obtain ⟨r8, er8, H⟩ := ok_bind H
      refine r_callV (As := []) (rest := []) (st1 := [.int r8]) (N2 := 0) hZ dX12_test_54 cw_X12_99_X12 rfl eu7 (s_X12_sign er8) rfl rfl (by omega) (Nat.le_of_ble_eq_true rfl) (Nat.le_refl 0) (Nat.le_refl _) (Or.inl rfl) rfl ?_
      refine r_istore_n hZ dX12_test_57 (by decide) (r_pick [0, 1, 2] (ls' := [(0, .ref a0), (1, .int r6.1), (2, .int r8)]) rfl ?_)
      refine r_aload_n hZ dX12_test_58 rfl ?_
      refine r_dup_a hZ dX12_test_59 ?_
      obtain ⟨x9, ex9, H⟩ := ok_bind H
      refine r_getI hZ fl_X12_90_11 dX12_test_60 ex9 ?_
      refine r_iconst (v := (J 1)) hZ dX12_test_63 (by decide) ?_
      refine r_iadd hZ dX12_test_64 ?_
      obtain ⟨h10, eh10, H⟩ := ok_bind H
      refine r_putf hZ fl_X12_90_11 dX12_test_65 eh10 rfl rfl ?_
      refine r_aload_n hZ dX12_test_68 rfl ?_
      obtain ⟨u11, eu11, H⟩ := ok_bind H
      obtain ⟨r12, er12, H⟩ := ok_bind H
      refine r_callV (As := []) (rest := []) (st1 := [.int r12.1]) (N2 := 0) hZ dX12_test_69 cw_X12_323_X12 rfl eu11 (s_X12_sum er12) rfl rfl (by omega) (Nat.le_of_ble_eq_true rfl) (Nat.le_refl 0) (Nat.le_refl _) (Or.inl rfl) rfl ?_
      refine r_istore_n hZ dX12_test_72 (by decide) (r_pick [1, 2, 3] (ls' := [(1, .int r6.1), (2, .int r8), (3, .int r12.1)]) rfl ?_)
      refine r_iload_n hZ dX12_test_73 rfl ?_
      refine r_bipush (v := (J 60)) hZ dX12_test_74 (by decide) ?_
      refine ok_join (Q := fun j13 : Int32 => R Z 121 [] [.int j13] n r12.2 0) H (fun j13 H => ?_) (fun H => ?_)
      · obtain ⟨u19, eu19, H⟩ := ok_bind H
        have H := ok_some H
        subst H
        exact r_zret hZ hF eu19 dX12_test_121
      · refine r_icmp_ne (tgt := 92) hZ dX12_test_76 (by decide) (fun c18 => ?_) (fun c18 => ?_)
        · have H := ok_f H c18
          refine r_iload_n hZ dX12_test_92 rfl ?_
          refine r_bipush (v := (J 62)) hZ dX12_test_93 (by decide) ?_
          refine r_icmp_ne (tgt := 111) hZ dX12_test_95 (by decide) (fun c16 => ?_) (fun c16 => ?_)
          · have H := ok_f H c16
            refine r_iload_n hZ dX12_test_111 rfl ?_
            refine r_iload_n hZ dX12_test_112 rfl ?_
            refine r_icmp_ne (tgt := 120) hZ dX12_test_113 (by decide) (fun c14 => ?_) (fun c14 => ?_)
            · have H := ok_f H c14
              refine r_iconst (v := (J 0)) hZ dX12_test_120 (by decide) ?_
              have H := ok_some H
              exact r_pick [] (ls' := []) rfl H
            · have H := ok_t H c14
              refine r_iconst (v := (J 1)) hZ dX12_test_116 (by decide) ?_
              refine r_goto (tgt := 121) hZ dX12_test_117 (by decide) ?_
              have H := ok_some H
              exact r_pick [] (ls' := []) rfl H
          · have H := ok_t H c16
            refine r_iload_n hZ dX12_test_98 rfl ?_
            refine r_iload_n hZ dX12_test_99 rfl ?_
            refine r_icmp_le (tgt := 107) hZ dX12_test_100 (by decide) (fun c15 => ?_) (fun c15 => ?_)
            · have H := ok_t H c15
              refine r_iconst (v := (J 0)) hZ dX12_test_107 (by decide) ?_
              refine r_goto (tgt := 121) hZ dX12_test_108 (by decide) ?_
              have H := ok_some H
              exact r_pick [] (ls' := []) rfl H
            · have H := ok_f H c15
              refine r_iconst (v := (J 1)) hZ dX12_test_103 (by decide) ?_
              refine r_goto (tgt := 121) hZ dX12_test_104 (by decide) ?_
              have H := ok_some H
              exact r_pick [] (ls' := []) rfl H
        · have H := ok_t H c18
          refine r_iload_n hZ dX12_test_79 rfl ?_
          refine r_iload_n hZ dX12_test_80 rfl ?_
          refine r_icmp_ge (tgt := 88) hZ dX12_test_81 (by decide) (fun c17 => ?_) (fun c17 => ?_)
          · have H := ok_t H c17
            refine r_iconst (v := (J 0)) hZ dX12_test_88 (by decide) ?_
            refine r_goto (tgt := 121) hZ dX12_test_89 (by decide) ?_
            have H := ok_some H
            exact r_pick [] (ls' := []) rfl H
          · have H := ok_f H c17
            refine r_iconst (v := (J 1)) hZ dX12_test_84 (by decide) ?_
            refine r_goto (tgt := 121) hZ dX12_test_85 (by decide) ?_
            have H := ok_some H
            exact r_pick [] (ls' := []) rfl H
    · have H := ok_f H c25
      refine r_aload_n hZ dX12_test_31 rfl ?_
      obtain ⟨u20, eu20, H⟩ := ok_bind H
      obtain ⟨r21, er21, H⟩ := ok_bind H
      refine r_callV (As := []) (rest := []) (st1 := [.int r21.1]) (N2 := 0) hZ dX12_test_32 cw_X12_320_X12 rfl eu20 (hg_X12_or er21) rfl rfl (by omega) (Nat.le_of_ble_eq_true rfl) (Nat.le_refl 0) (Nat.le_refl _) (Or.inl rfl) rfl ?_
      refine r_istore_n hZ dX12_test_35 (by decide) (r_pick [0, 1] (ls' := [(0, .ref a0), (1, .int r21.1)]) rfl ?_)
      refine r_aload_n hZ dX12_test_36 rfl ?_
      refine r_dup_a hZ dX12_test_37 ?_
      obtain ⟨x22, ex22, H⟩ := ok_bind H
      refine r_getI hZ fl_X12_90_11 dX12_test_38 ex22 ?_
      refine r_iconst (v := (J 1)) hZ dX12_test_41 (by decide) ?_
      refine r_iadd hZ dX12_test_42 ?_
      obtain ⟨h23, eh23, H⟩ := ok_bind H
      refine r_putf hZ fl_X12_90_11 dX12_test_43 eh23 rfl rfl ?_
      refine r_iload_n hZ dX12_test_46 rfl ?_
      obtain ⟨u24, eu24, H⟩ := ok_bind H
      have H := ok_some H
      subst H
      exact r_zret hZ hF eu24 dX12_test_47
  · have H := ok_f H c31
    refine r_aload_n hZ dX12_test_9 rfl ?_
    obtain ⟨u26, eu26, H⟩ := ok_bind H
    obtain ⟨r27, er27, H⟩ := ok_bind H
    refine r_callV (As := []) (rest := []) (st1 := [.int r27.1]) (N2 := 0) hZ dX12_test_10 cw_X12_317_X12 rfl eu26 (hg_X12_test er27) rfl rfl (by omega) (Nat.le_of_ble_eq_true rfl) (Nat.le_refl 0) (Nat.le_refl _) (Or.inl rfl) rfl ?_
    refine ok_join (Q := fun j28 : Int32 => R Z 21 [] [.int j28] n r27.2 0) H (fun j28 H => ?_) (fun H => ?_)
    · obtain ⟨u30, eu30, H⟩ := ok_bind H
      have H := ok_some H
      subst H
      exact r_zret hZ hF eu30 dX12_test_21
    · refine r_if_ne (tgt := 20) hZ dX12_test_13 (by decide) (fun c29 => ?_) (fun c29 => ?_)
      · have H := ok_f H c29
        refine r_iconst (v := (J 0)) hZ dX12_test_20 (by decide) ?_
        have H := ok_some H
        exact r_pick [] (ls' := []) rfl H
      · have H := ok_t H c29
        refine r_iconst (v := (J 1)) hZ dX12_test_16 (by decide) ?_
        refine r_goto (tgt := 21) hZ dX12_test_17 (by decide) ?_
        have H := ok_some H
        exact r_pick [] (ls' := []) rfl H
def b_X12_and_5 (g_X12_test : Hp → Nat → Option (Int32 × Hp)) (p0 : Nat) (s : Int32 × Hp) : Option ((Int32 × Hp) ⊕ ((Int32 × Hp))) :=
  (isO s.2 p0 11).bind fun u1 =>
  (f_X12_takes s.2 p0 (J 38)).bind fun r2 =>
  (if r2.1 = 0 then
    some (.inr ((s.1, r2.2)))
  else
    (isO r2.2 p0 11).bind fun u3 =>
    (g_X12_test r2.2 p0).bind fun r4 =>
    ((if s.1 = 0 then
      some (J 0)
    else
      (if r4.1 = 0 then
        some (J 0)
      else
        some (J 1)))).bind fun (j5 : Int32) =>
    some (.inl (j5, r4.2)))
set_option maxRecDepth 100000 in
set_option maxHeartbeats 4000000 in
theorem l_X12_and_5 {Z : Zc} {d : Nat} (hd9 : 3 < d) {dr_X12_test : Nat} (hd_X12_test : dr_X12_test < d) {g_X12_test : Hp → Nat → Option (Int32 × Hp)} (hZ : Fx cX12_and RX12 3 d 0 Z) {n : Nat} {p0 : Nat} {P : ((Int32 × Hp)) → Prop} (hg_X12_test : ∀ {n : Nat} {h : Hp} {b0 : Nat} {r : _}, g_X12_test h b0 = some r → Ev dr_X12_test yX12_test cX12_test 4 (some .boolean) [.ref b0] n h (some (.int r.1)) n r.2) (hx0 : ∀ e : Int32 × Hp, P (e) → R Z 36 [(1, .int e.1)] [] n e.2 0) : ∀ (m : Nat) (s : Int32 × Hp), Ok (iter (b_X12_and_5 g_X12_test p0) m s) P → R Z 5 [(0, .ref p0), (1, .int s.1)] [] n s.2 0 := by
  intro m
  induction m with
  | zero => exact fun s H => ok_iter0 H
  | succ m ih =>
    intro s H
    have H := ok_iter H
    unfold b_X12_and_5 at H
    refine r_aload_n hZ dX12_and_5 rfl ?_
    refine r_bipush (v := (J 38)) hZ dX12_and_6 (by decide) ?_
    obtain ⟨u1, eu1, H⟩ := ok_bind H
    obtain ⟨r2, er2, H⟩ := ok_bind H
    refine r_callV (As := [.int (J 38)]) (rest := []) (st1 := [.int r2.1]) (N2 := 0) hZ dX12_and_8 cw_X12_110_X12 rfl eu1 (s_X12_takes er2) rfl rfl (by omega) (Nat.le_of_ble_eq_true rfl) (Nat.le_refl 0) (Nat.le_refl _) (Or.inl rfl) rfl ?_
    refine r_if_eq (tgt := 36) hZ dX12_and_11 (by decide) (fun c8 => ?_) (fun c8 => ?_)
    · have H := ok_t H c8
      exact r_pick [1] (ls' := [(1, .int s.1)]) rfl (hx0 _ (ki_r H))
    · have H := ok_f H c8
      refine r_aload_n hZ dX12_and_14 rfl ?_
      obtain ⟨u3, eu3, H⟩ := ok_bind H
      obtain ⟨r4, er4, H⟩ := ok_bind H
      refine r_callV (As := []) (rest := []) (st1 := [.int r4.1]) (N2 := 0) hZ dX12_and_15 cw_X12_317_X12 rfl eu3 (hg_X12_test er4) rfl rfl (by omega) (Nat.le_of_ble_eq_true rfl) (Nat.le_refl 0) (Nat.le_refl _) (Or.inl rfl) rfl ?_
      refine r_istore_n hZ dX12_and_18 (by decide) (r_pick [0, 1, 2] (ls' := [(0, .ref p0), (1, .int s.1), (2, .int r4.1)]) rfl ?_)
      refine r_iload_n hZ dX12_and_19 rfl ?_
      refine ok_join (Q := fun j5 : Int32 => R Z 32 [(0, .ref p0)] [.int j5] n r4.2 0) H (fun j5 H => ?_) (fun H => ?_)
      · refine r_istore_n hZ dX12_and_32 (by decide) (r_pick [0, 1] (ls' := [(0, .ref p0), (1, .int j5)]) rfl ?_)
        refine r_goto (tgt := 5) hZ dX12_and_33 (by decide) ?_
        exact r_pick [0, 1] (ls' := [(0, .ref p0), (1, .int j5)]) rfl (ih _ (ki_l H))
      · refine r_if_eq (tgt := 31) hZ dX12_and_20 (by decide) (fun c7 => ?_) (fun c7 => ?_)
        · have H := ok_t H c7
          refine r_iconst (v := (J 0)) hZ dX12_and_31 (by decide) ?_
          have H := ok_some H
          exact r_pick [0] (ls' := [(0, .ref p0)]) rfl H
        · have H := ok_f H c7
          refine r_iload_n hZ dX12_and_23 rfl ?_
          refine r_if_eq (tgt := 31) hZ dX12_and_24 (by decide) (fun c6 => ?_) (fun c6 => ?_)
          · have H := ok_t H c6
            refine r_iconst (v := (J 0)) hZ dX12_and_31 (by decide) ?_
            have H := ok_some H
            exact r_pick [0] (ls' := [(0, .ref p0)]) rfl H
          · have H := ok_f H c6
            refine r_iconst (v := (J 1)) hZ dX12_and_27 (by decide) ?_
            refine r_goto (tgt := 32) hZ dX12_and_28 (by decide) ?_
            have H := ok_some H
            exact r_pick [0] (ls' := [(0, .ref p0)]) rfl H
def F_X12_and (g_X12_test : Hp → Nat → Option (Int32 × Hp)) (h : Hp) (a0 : Nat) : Option (Int32 × Hp) :=
  (isO h a0 11).bind fun u1 =>
  (g_X12_test h a0).bind fun r2 =>
  (iter (b_X12_and_5 g_X12_test a0) FU (r2.1, r2.2)).bind fun e3 =>
  (bz e3.1).bind fun u4 =>
  some (e3.1, e3.2)
set_option maxRecDepth 100000 in
set_option maxHeartbeats 4000000 in
theorem sF_X12_and {d : Nat} (hd9 : 3 < d) {dr_X12_test : Nat} (hd_X12_test : dr_X12_test < d) {g_X12_test : Hp → Nat → Option (Int32 × Hp)} {n : Nat} {h : Hp} {a0 : Nat} (hg_X12_test : ∀ {n : Nat} {h : Hp} {b0 : Nat} {r : _}, g_X12_test h b0 = some r → Ev dr_X12_test yX12_test cX12_test 4 (some .boolean) [.ref b0] n h (some (.int r.1)) n r.2) {r : Int32 × Hp} (hf : F_X12_and g_X12_test h a0 = some r) : Ev d yX12_and cX12_and 3 (some .boolean) [.ref a0] n h (some (.int r.1)) n r.2 := by
  refine Ev_of RX12 rfl (by decide) (Nat.le_of_ble_eq_true rfl) (Nat.le_refl _) (Or.inl rfl) (fun Z hZ hF hN hI => ?_)
  have H : Ok (F_X12_and g_X12_test h a0) (fun y => y = r) := ⟨_, hf, rfl⟩
  unfold F_X12_and at H
  refine r_ls (ls' := [(0, .ref a0)]) rfl ?_
  refine r_aload_n hZ dX12_and_0 rfl ?_
  obtain ⟨u1, eu1, H⟩ := ok_bind H
  obtain ⟨r2, er2, H⟩ := ok_bind H
  refine r_callV (As := []) (rest := []) (st1 := [.int r2.1]) (N2 := 0) hZ dX12_and_1 cw_X12_317_X12 rfl eu1 (hg_X12_test er2) rfl rfl (by omega) (Nat.le_of_ble_eq_true rfl) (Nat.le_refl 0) (Nat.le_refl _) (Or.inl rfl) rfl ?_
  refine r_istore_n hZ dX12_and_4 (by decide) (r_pick [0, 1] (ls' := [(0, .ref a0), (1, .int r2.1)]) rfl ?_)
  have H := ok_bindK H
  refine r_pick [0, 1] (ls' := [(0, .ref a0), (1, .int r2.1)]) rfl (l_X12_and_5 hd9 hd_X12_test hZ hg_X12_test (fun e3 H => ?_) FU _ H)
  · refine r_iload_n hZ dX12_and_36 rfl ?_
    obtain ⟨u4, eu4, H⟩ := ok_bind H
    have H := ok_some H
    subst H
    exact r_zret hZ hF eu4 dX12_and_37
def b_X12_or_5 (g_X12_and : Hp → Nat → Option (Int32 × Hp)) (p0 : Nat) (s : Int32 × Hp) : Option ((Int32 × Hp) ⊕ ((Int32 × Hp))) :=
  (isO s.2 p0 11).bind fun u1 =>
  (f_X12_takes s.2 p0 (J 124)).bind fun r2 =>
  (if r2.1 = 0 then
    some (.inr ((s.1, r2.2)))
  else
    (isO r2.2 p0 11).bind fun u3 =>
    (g_X12_and r2.2 p0).bind fun r4 =>
    ((if s.1 = 0 then
      (if r4.1 = 0 then
        some (J 0)
      else
        some (J 1))
    else
      some (J 1))).bind fun (j5 : Int32) =>
    some (.inl (j5, r4.2)))
set_option maxRecDepth 100000 in
set_option maxHeartbeats 4000000 in
theorem l_X12_or_5 {Z : Zc} {d : Nat} (hd9 : 3 < d) {dr_X12_and : Nat} (hd_X12_and : dr_X12_and < d) {g_X12_and : Hp → Nat → Option (Int32 × Hp)} (hZ : Fx cX12_or RX12 3 d 0 Z) {n : Nat} {p0 : Nat} {P : ((Int32 × Hp)) → Prop} (hg_X12_and : ∀ {n : Nat} {h : Hp} {b0 : Nat} {r : _}, g_X12_and h b0 = some r → Ev dr_X12_and yX12_and cX12_and 3 (some .boolean) [.ref b0] n h (some (.int r.1)) n r.2) (hx0 : ∀ e : Int32 × Hp, P (e) → R Z 36 [(1, .int e.1)] [] n e.2 0) : ∀ (m : Nat) (s : Int32 × Hp), Ok (iter (b_X12_or_5 g_X12_and p0) m s) P → R Z 5 [(0, .ref p0), (1, .int s.1)] [] n s.2 0 := by
  intro m
  induction m with
  | zero => exact fun s H => ok_iter0 H
  | succ m ih =>
    intro s H
    have H := ok_iter H
    unfold b_X12_or_5 at H
    refine r_aload_n hZ dX12_or_5 rfl ?_
    refine r_bipush (v := (J 124)) hZ dX12_or_6 (by decide) ?_
    obtain ⟨u1, eu1, H⟩ := ok_bind H
    obtain ⟨r2, er2, H⟩ := ok_bind H
    refine r_callV (As := [.int (J 124)]) (rest := []) (st1 := [.int r2.1]) (N2 := 0) hZ dX12_or_8 cw_X12_110_X12 rfl eu1 (s_X12_takes er2) rfl rfl (by omega) (Nat.le_of_ble_eq_true rfl) (Nat.le_refl 0) (Nat.le_refl _) (Or.inl rfl) rfl ?_
    refine r_if_eq (tgt := 36) hZ dX12_or_11 (by decide) (fun c8 => ?_) (fun c8 => ?_)
    · have H := ok_t H c8
      exact r_pick [1] (ls' := [(1, .int s.1)]) rfl (hx0 _ (ki_r H))
    · have H := ok_f H c8
      refine r_aload_n hZ dX12_or_14 rfl ?_
      obtain ⟨u3, eu3, H⟩ := ok_bind H
      obtain ⟨r4, er4, H⟩ := ok_bind H
      refine r_callV (As := []) (rest := []) (st1 := [.int r4.1]) (N2 := 0) hZ dX12_or_15 cw_X12_314_X12 rfl eu3 (hg_X12_and er4) rfl rfl (by omega) (Nat.le_of_ble_eq_true rfl) (Nat.le_refl 0) (Nat.le_refl _) (Or.inl rfl) rfl ?_
      refine r_istore_n hZ dX12_or_18 (by decide) (r_pick [0, 1, 2] (ls' := [(0, .ref p0), (1, .int s.1), (2, .int r4.1)]) rfl ?_)
      refine r_iload_n hZ dX12_or_19 rfl ?_
      refine ok_join (Q := fun j5 : Int32 => R Z 32 [(0, .ref p0)] [.int j5] n r4.2 0) H (fun j5 H => ?_) (fun H => ?_)
      · refine r_istore_n hZ dX12_or_32 (by decide) (r_pick [0, 1] (ls' := [(0, .ref p0), (1, .int j5)]) rfl ?_)
        refine r_goto (tgt := 5) hZ dX12_or_33 (by decide) ?_
        exact r_pick [0, 1] (ls' := [(0, .ref p0), (1, .int j5)]) rfl (ih _ (ki_l H))
      · refine r_if_ne (tgt := 27) hZ dX12_or_20 (by decide) (fun c7 => ?_) (fun c7 => ?_)
        · have H := ok_f H c7
          refine r_iconst (v := (J 1)) hZ dX12_or_27 (by decide) ?_
          refine r_goto (tgt := 32) hZ dX12_or_28 (by decide) ?_
          have H := ok_some H
          exact r_pick [0] (ls' := [(0, .ref p0)]) rfl H
        · have H := ok_t H c7
          refine r_iload_n hZ dX12_or_23 rfl ?_
          refine r_if_eq (tgt := 31) hZ dX12_or_24 (by decide) (fun c6 => ?_) (fun c6 => ?_)
          · have H := ok_t H c6
            refine r_iconst (v := (J 0)) hZ dX12_or_31 (by decide) ?_
            have H := ok_some H
            exact r_pick [0] (ls' := [(0, .ref p0)]) rfl H
          · have H := ok_f H c6
            refine r_iconst (v := (J 1)) hZ dX12_or_27 (by decide) ?_
            refine r_goto (tgt := 32) hZ dX12_or_28 (by decide) ?_
            have H := ok_some H
            exact r_pick [0] (ls' := [(0, .ref p0)]) rfl H
def F_X12_or (g_X12_and : Hp → Nat → Option (Int32 × Hp)) (h : Hp) (a0 : Nat) : Option (Int32 × Hp) :=
  (isO h a0 11).bind fun u1 =>
  (g_X12_and h a0).bind fun r2 =>
  (iter (b_X12_or_5 g_X12_and a0) FU (r2.1, r2.2)).bind fun e3 =>
  (bz e3.1).bind fun u4 =>
  some (e3.1, e3.2)
set_option maxRecDepth 100000 in
set_option maxHeartbeats 4000000 in
theorem sF_X12_or {d : Nat} (hd9 : 3 < d) {dr_X12_and : Nat} (hd_X12_and : dr_X12_and < d) {g_X12_and : Hp → Nat → Option (Int32 × Hp)} {n : Nat} {h : Hp} {a0 : Nat} (hg_X12_and : ∀ {n : Nat} {h : Hp} {b0 : Nat} {r : _}, g_X12_and h b0 = some r → Ev dr_X12_and yX12_and cX12_and 3 (some .boolean) [.ref b0] n h (some (.int r.1)) n r.2) {r : Int32 × Hp} (hf : F_X12_or g_X12_and h a0 = some r) : Ev d yX12_or cX12_or 3 (some .boolean) [.ref a0] n h (some (.int r.1)) n r.2 := by
  refine Ev_of RX12 rfl (by decide) (Nat.le_of_ble_eq_true rfl) (Nat.le_refl _) (Or.inl rfl) (fun Z hZ hF hN hI => ?_)
  have H : Ok (F_X12_or g_X12_and h a0) (fun y => y = r) := ⟨_, hf, rfl⟩
  unfold F_X12_or at H
  refine r_ls (ls' := [(0, .ref a0)]) rfl ?_
  refine r_aload_n hZ dX12_or_0 rfl ?_
  obtain ⟨u1, eu1, H⟩ := ok_bind H
  obtain ⟨r2, er2, H⟩ := ok_bind H
  refine r_callV (As := []) (rest := []) (st1 := [.int r2.1]) (N2 := 0) hZ dX12_or_1 cw_X12_314_X12 rfl eu1 (hg_X12_and er2) rfl rfl (by omega) (Nat.le_of_ble_eq_true rfl) (Nat.le_refl 0) (Nat.le_refl _) (Or.inl rfl) rfl ?_
  refine r_istore_n hZ dX12_or_4 (by decide) (r_pick [0, 1] (ls' := [(0, .ref a0), (1, .int r2.1)]) rfl ?_)
  have H := ok_bindK H
  refine r_pick [0, 1] (ls' := [(0, .ref a0), (1, .int r2.1)]) rfl (l_X12_or_5 hd9 hd_X12_and hZ hg_X12_and (fun e3 H => ?_) FU _ H)
  · refine r_iload_n hZ dX12_or_36 rfl ?_
    obtain ⟨u4, eu4, H⟩ := ok_bind H
    have H := ok_some H
    subst H
    exact r_zret hZ hF eu4 dX12_or_37
def f_X12_test : Nat → Hp → Nat → Option (Int32 × Hp)
  | 0 => fun _ _ => none
  | D + 1 => F_X12_test (F_X12_or (F_X12_and (f_X12_test D))) (f_X12_test D)
theorem s_X12_test : ∀ (D : Nat), ∀ {n : Nat} {h : Hp} {b0 : Nat} {r : _}, f_X12_test D h b0 = some r → Ev (11 + 3 * D) yX12_test cX12_test 4 (some .boolean) [.ref b0] n h (some (.int r.1)) n r.2
  | 0 => fun hf => nomatch hf
  | D + 1 => fun hf => sF_X12_test (d := 11 + 3 * (D + 1)) (by omega) (dr_X12_or := 11 + 3 * D + 1 + 1) (by omega) (dr_X12_test := 11 + 3 * D) (by omega) (fun hf => sF_X12_or (d := 11 + 3 * D + 1 + 1) (by omega) (dr_X12_and := 11 + 3 * D + 1) (by omega) (fun hf => sF_X12_and (d := 11 + 3 * D + 1) (by omega) (dr_X12_test := 11 + 3 * D) (by omega) (fun hf => s_X12_test D hf) hf) hf) (fun hf => s_X12_test D hf) hf
def f_X12_or (D : Nat) : Hp → Nat → Option (Int32 × Hp) := F_X12_or (F_X12_and (f_X12_test D))
theorem s_X12_or (D : Nat) : ∀ {n : Nat} {h : Hp} {b0 : Nat} {r : _}, f_X12_or D h b0 = some r → Ev (11 + 3 * D + 1 + 1) yX12_or cX12_or 3 (some .boolean) [.ref b0] n h (some (.int r.1)) n r.2 := fun hf => sF_X12_or (d := 11 + 3 * D + 1 + 1) (by omega) (dr_X12_and := 11 + 3 * D + 1) (by omega) (fun hf => sF_X12_and (d := 11 + 3 * D + 1) (by omega) (dr_X12_test := 11 + 3 * D) (by omega) (fun hf => s_X12_test D hf) hf) hf
def f_X12_holdsFor  (h : Hp) (a0 : Nat) (a1 : Int32) (a2 : Int32) (a3 : Int32) : Option (Int32 × Hp) :=
  (pF h a0 11 26 (.int a2)).bind fun h1 =>
  (pF h1 a0 11 27 (.int a3)).bind fun h2 =>
  (gR h2 a0 11 1).bind fun x3 =>
  (pF h2 a0 11 16 (.ref x3)).bind fun h4 =>
  (pF h4 a0 11 13 (.int (((J 276) + ((J 121) * a1)) + (J 1)))).bind fun h5 =>
  (gR h5 a0 11 1).bind fun x6 =>
  (aI h5 x6 ((J 276) + ((J 121) * a1))).bind fun x7 =>
  (pF h5 a0 11 14 (.int x7)).bind fun h8 =>
  (pF h8 a0 11 12 (.int (J 0))).bind fun h9 =>
  (isO h9 a0 11).bind fun u10 =>
  (f_X12_or 130 h9 a0).bind fun r11 =>
  (bz r11.1).bind fun u12 =>
  some (r11.1, r11.2)
set_option maxRecDepth 100000 in
set_option maxHeartbeats 4000000 in
theorem s_X12_holdsFor {n : Nat} {h : Hp} {a0 : Nat} {a1 : Int32} {a2 : Int32} {a3 : Int32}  {r : Int32 × Hp} (hf : f_X12_holdsFor  h a0 a1 a2 a3 = some r) : Ev 404 yX12_holdsFor cX12_holdsFor 4 (some .boolean) [.ref a0, .int a1, .int a2, .int a3] n h (some (.int r.1)) n r.2 := by
  refine Ev_of RX12 rfl (by decide) (Nat.le_of_ble_eq_true rfl) (Nat.le_refl _) (Or.inl rfl) (fun Z hZ hF hN hI => ?_)
  have H : Ok (f_X12_holdsFor  h a0 a1 a2 a3) (fun y => y = r) := ⟨_, hf, rfl⟩
  unfold f_X12_holdsFor at H
  refine r_ls (ls' := [(0, .ref a0), (1, .int a1), (2, .int a2), (3, .int a3)]) rfl ?_
  refine r_aload_n hZ dX12_holdsFor_0 rfl ?_
  refine r_iload_n hZ dX12_holdsFor_1 rfl ?_
  obtain ⟨h1, eh1, H⟩ := ok_bind H
  refine r_putf hZ fl_X12_332_11 dX12_holdsFor_2 eh1 rfl rfl ?_
  refine r_aload_n hZ dX12_holdsFor_5 rfl ?_
  refine r_iload_n hZ dX12_holdsFor_6 rfl ?_
  obtain ⟨h2, eh2, H⟩ := ok_bind H
  refine r_putf hZ fl_X12_335_11 dX12_holdsFor_7 eh2 rfl rfl ?_
  refine r_aload_n hZ dX12_holdsFor_10 rfl ?_
  refine r_aload_n hZ dX12_holdsFor_11 rfl ?_
  obtain ⟨x3, ex3, H⟩ := ok_bind H
  refine r_getR hZ fl_X12_13_11 dX12_holdsFor_12 ex3 ?_
  obtain ⟨h4, eh4, H⟩ := ok_bind H
  refine r_putf hZ fl_X12_40_11 dX12_holdsFor_15 eh4 rfl rfl ?_
  refine r_aload_n hZ dX12_holdsFor_18 rfl ?_
  refine r_sipush (v := (J 276)) hZ dX12_holdsFor_19 (by decide) ?_
  refine r_bipush (v := (J 121)) hZ dX12_holdsFor_22 (by decide) ?_
  refine r_iload_n hZ dX12_holdsFor_24 rfl ?_
  refine r_imul hZ dX12_holdsFor_25 ?_
  refine r_iadd hZ dX12_holdsFor_26 ?_
  refine r_iconst (v := (J 1)) hZ dX12_holdsFor_27 (by decide) ?_
  refine r_iadd hZ dX12_holdsFor_28 ?_
  obtain ⟨h5, eh5, H⟩ := ok_bind H
  refine r_putf hZ fl_X12_96_11 dX12_holdsFor_29 eh5 rfl rfl ?_
  refine r_aload_n hZ dX12_holdsFor_32 rfl ?_
  refine r_aload_n hZ dX12_holdsFor_33 rfl ?_
  obtain ⟨x6, ex6, H⟩ := ok_bind H
  refine r_getR hZ fl_X12_13_11 dX12_holdsFor_34 ex6 ?_
  refine r_sipush (v := (J 276)) hZ dX12_holdsFor_37 (by decide) ?_
  refine r_bipush (v := (J 121)) hZ dX12_holdsFor_40 (by decide) ?_
  refine r_iload_n hZ dX12_holdsFor_42 rfl ?_
  refine r_imul hZ dX12_holdsFor_43 ?_
  refine r_iadd hZ dX12_holdsFor_44 ?_
  obtain ⟨x7, ex7, H⟩ := ok_bind H
  refine r_aI hZ dX12_holdsFor_45 ex7 ?_
  obtain ⟨h8, eh8, H⟩ := ok_bind H
  refine r_putf hZ fl_X12_93_11 dX12_holdsFor_46 eh8 rfl rfl ?_
  refine r_aload_n hZ dX12_holdsFor_49 rfl ?_
  refine r_iconst (v := (J 0)) hZ dX12_holdsFor_50 (by decide) ?_
  obtain ⟨h9, eh9, H⟩ := ok_bind H
  refine r_putf hZ fl_X12_90_11 dX12_holdsFor_51 eh9 rfl rfl ?_
  refine r_aload_n hZ dX12_holdsFor_54 rfl ?_
  obtain ⟨u10, eu10, H⟩ := ok_bind H
  obtain ⟨r11, er11, H⟩ := ok_bind H
  refine r_callV (As := []) (rest := []) (st1 := [.int r11.1]) (N2 := 0) hZ dX12_holdsFor_55 cw_X12_320_X12 rfl eu10 (s_X12_or 130 er11) rfl rfl (by decide) (Nat.le_of_ble_eq_true rfl) (Nat.le_refl 0) (Nat.le_refl _) (Or.inl rfl) rfl ?_
  obtain ⟨u12, eu12, H⟩ := ok_bind H
  have H := ok_some H
  subst H
  exact r_zret hZ hF eu12 dX12_holdsFor_58
def f_X12_isRule  (h : Hp) (a0 : Nat) (a1 : Int32) : Option (Int32) :=
  (gR h a0 11 1).bind fun x1 =>
  (aI h x1 (J 1742)).bind fun x2 =>
  (f_X12_isIn (a1.toInt64) (K 0) ((x2 - (J 1)).toInt64)).bind fun r3 =>
  (bz r3).bind fun u4 =>
  some r3
set_option maxRecDepth 100000 in
set_option maxHeartbeats 4000000 in
theorem s_X12_isRule {n : Nat} {h : Hp} {a0 : Nat} {a1 : Int32}  {r : Int32} (hf : f_X12_isRule  h a0 a1 = some r) : Ev 3 yX12_isRule cX12_isRule 2 (some .boolean) [.ref a0, .int a1] n h (some (.int r)) n h := by
  refine Ev_of RX12 rfl (by decide) (Nat.le_of_ble_eq_true rfl) (Nat.le_refl _) (Or.inl rfl) (fun Z hZ hF hN hI => ?_)
  have H : Ok (f_X12_isRule  h a0 a1) (fun y => y = r) := ⟨_, hf, rfl⟩
  unfold f_X12_isRule at H
  refine r_ls (ls' := [(0, .ref a0), (1, .int a1)]) rfl ?_
  refine r_iload_n hZ dX12_isRule_0 rfl ?_
  refine r_i2l hZ dX12_isRule_1 ?_
  refine r_lconst (v := (K 0)) hZ dX12_isRule_2 (by decide) ?_
  refine r_aload_n hZ dX12_isRule_3 rfl ?_
  obtain ⟨x1, ex1, H⟩ := ok_bind H
  refine r_getR hZ fl_X12_13_11 dX12_isRule_4 ex1 ?_
  refine r_sipush (v := (J 1742)) hZ dX12_isRule_7 (by decide) ?_
  obtain ⟨x2, ex2, H⟩ := ok_bind H
  refine r_aI hZ dX12_isRule_10 ex2 ?_
  refine r_iconst (v := (J 1)) hZ dX12_isRule_11 (by decide) ?_
  refine r_isub hZ dX12_isRule_12 ?_
  refine r_i2l hZ dX12_isRule_13 ?_
  obtain ⟨r3, er3, H⟩ := ok_bind H
  refine r_callS (As := [.long (a1.toInt64), .long (K 0), .long ((x2 - (J 1)).toInt64)]) (rest := []) (st1 := [.int r3]) (N2 := 0) hZ dX12_isRule_14 cw_X12_73 (s_X12_isIn er3) rfl rfl (by decide) (Nat.le_of_ble_eq_true rfl) (Nat.le_refl 0) (Nat.le_refl _) (Or.inl rfl) rfl ?_
  obtain ⟨u4, eu4, H⟩ := ok_bind H
  have H := ok_some H
  subst H
  exact r_zret hZ hF eu4 dX12_isRule_17
def f_X12_holds  (h : Hp) (a0 : Nat) (a1 : Int32) (a2 : Int32) : Option (Int32 × Hp) :=
  (isO h a0 11).bind fun u1 =>
  (f_X12_isRule h a0 a1).bind fun r2 =>
  ((if r2 = 0 then
    some ((J (-1)), h)
  else
    (isO h a0 11).bind fun u4 =>
    (f_X12_isMesh h a0 a2).bind fun r5 =>
    (if r5 = 0 then
      some ((J (-1)), h)
    else
      (isO h a0 11).bind fun u6 =>
      (f_X12_holdsFor h a0 a1 a2 (J 0)).bind fun r7 =>
      (if r7.1 = 0 then
        some ((J 0), r7.2)
      else
        some ((J 1), r7.2))))).bind fun (j3 : Int32 × Hp) =>
  some (j3.1, j3.2)
set_option maxRecDepth 100000 in
set_option maxHeartbeats 4000000 in
theorem s_X12_holds {n : Nat} {h : Hp} {a0 : Nat} {a1 : Int32} {a2 : Int32}  {r : Int32 × Hp} (hf : f_X12_holds  h a0 a1 a2 = some r) : Ev 405 yX12_holds cX12_holds 3 (some .int) [.ref a0, .int a1, .int a2] n h (some (.int r.1)) n r.2 := by
  refine Ev_of RX12 rfl (by decide) (Nat.le_of_ble_eq_true rfl) (Nat.le_refl _) (Or.inl rfl) (fun Z hZ hF hN hI => ?_)
  have H : Ok (f_X12_holds  h a0 a1 a2) (fun y => y = r) := ⟨_, hf, rfl⟩
  unfold f_X12_holds at H
  refine r_ls (ls' := [(0, .ref a0), (1, .int a1), (2, .int a2)]) rfl ?_
  refine r_aload_n hZ dX12_holds_0 rfl ?_
  refine r_iload_n hZ dX12_holds_1 rfl ?_
  obtain ⟨u1, eu1, H⟩ := ok_bind H
  obtain ⟨r2, er2, H⟩ := ok_bind H
  refine r_callV (As := [.int a1]) (rest := []) (st1 := [.int r2]) (N2 := 0) hZ dX12_holds_2 cw_X12_338_X12 rfl eu1 (s_X12_isRule er2) rfl rfl (by decide) (Nat.le_of_ble_eq_true rfl) (Nat.le_refl 0) (Nat.le_refl _) (Or.inl rfl) rfl ?_
  refine ok_join (Q := fun j3 : Int32 × Hp => R Z 35 [] [.int j3.1] n j3.2 0) H (fun j3 H => ?_) (fun H => ?_)
  · have H := ok_some H
    subst H
    exact r_iret hZ hF dX12_holds_35
  · refine r_if_eq (tgt := 34) hZ dX12_holds_5 (by decide) (fun c10 => ?_) (fun c10 => ?_)
    · have H := ok_t H c10
      refine r_iconst (v := (J (-1))) hZ dX12_holds_34 (by decide) ?_
      have H := ok_some H
      exact r_pick [] (ls' := []) rfl H
    · have H := ok_f H c10
      refine r_aload_n hZ dX12_holds_8 rfl ?_
      refine r_iload_n hZ dX12_holds_9 rfl ?_
      obtain ⟨u4, eu4, H⟩ := ok_bind H
      obtain ⟨r5, er5, H⟩ := ok_bind H
      refine r_callV (As := [.int a2]) (rest := []) (st1 := [.int r5]) (N2 := 0) hZ dX12_holds_10 cw_X12_163_X12 rfl eu4 (s_X12_isMesh er5) rfl rfl (by decide) (Nat.le_of_ble_eq_true rfl) (Nat.le_refl 0) (Nat.le_refl _) (Or.inl rfl) rfl ?_
      refine r_if_eq (tgt := 34) hZ dX12_holds_13 (by decide) (fun c9 => ?_) (fun c9 => ?_)
      · have H := ok_t H c9
        refine r_iconst (v := (J (-1))) hZ dX12_holds_34 (by decide) ?_
        have H := ok_some H
        exact r_pick [] (ls' := []) rfl H
      · have H := ok_f H c9
        refine r_aload_n hZ dX12_holds_16 rfl ?_
        refine r_iload_n hZ dX12_holds_17 rfl ?_
        refine r_iload_n hZ dX12_holds_18 rfl ?_
        refine r_iconst (v := (J 0)) hZ dX12_holds_19 (by decide) ?_
        obtain ⟨u6, eu6, H⟩ := ok_bind H
        obtain ⟨r7, er7, H⟩ := ok_bind H
        refine r_callV (As := [.int a1, .int a2, .int (J 0)]) (rest := []) (st1 := [.int r7.1]) (N2 := 0) hZ dX12_holds_20 cw_X12_341_X12 rfl eu6 (s_X12_holdsFor er7) rfl rfl (by decide) (Nat.le_of_ble_eq_true rfl) (Nat.le_refl 0) (Nat.le_refl _) (Or.inl rfl) rfl ?_
        refine r_if_eq (tgt := 30) hZ dX12_holds_23 (by decide) (fun c8 => ?_) (fun c8 => ?_)
        · have H := ok_t H c8
          refine r_iconst (v := (J 0)) hZ dX12_holds_30 (by decide) ?_
          refine r_goto (tgt := 35) hZ dX12_holds_31 (by decide) ?_
          have H := ok_some H
          exact r_pick [] (ls' := []) rfl H
        · have H := ok_f H c8
          refine r_iconst (v := (J 1)) hZ dX12_holds_26 (by decide) ?_
          refine r_goto (tgt := 35) hZ dX12_holds_27 (by decide) ?_
          have H := ok_some H
          exact r_pick [] (ls' := []) rfl H
def b_X12_watch_41 (p0 : Nat) (p1 : Int32) (p2 : Int32) (p3 : Int32) (s : Int32 × Int32 × Hp) : Option ((Int32 × Int32 × Hp) ⊕ ((Int32 × Hp))) :=
  (if (J 200) < s.2.1 then
    some (.inr ((s.1, s.2.2)))
  else
    (if 0 ≤ s.1 then
      some (.inr ((s.1, s.2.2)))
    else
      ((if s.2.1 ≤ 0 then
        some s.2.2
      else
        (isO s.2.2 p0 11).bind fun u2 =>
        (f_X12_wears s.2.2 p0 p2 p3).bind fun r3 =>
        some r3)).bind fun (j1 : Hp) =>
      (isO j1 p0 11).bind fun u5 =>
      (f_X12_holdsFor j1 p0 p1 p2 s.2.1).bind fun r6 =>
      ((if r6.1 = 0 then
        some (J (-4))
      else
        some s.2.1)).bind fun (j7 : Int32) =>
      (some (s.2.1 + (J 1))).bind fun x9 =>
      some (.inl (j7, x9, r6.2))))
set_option maxRecDepth 100000 in
set_option maxHeartbeats 4000000 in
theorem l_X12_watch_41 {Z : Zc} (hZ : Fx cX12_watch RX12 6 405 0 Z) {n : Nat} {p0 : Nat} {p1 : Int32} {p2 : Int32} {p3 : Int32} {P : ((Int32 × Hp)) → Prop} (hx0 : ∀ e : Int32 × Hp, P (e) → R Z 91 [(0, .ref p0), (4, .int e.1)] [] n e.2 0) : ∀ (m : Nat) (s : Int32 × Int32 × Hp), Ok (iter (b_X12_watch_41 p0 p1 p2 p3) m s) P → R Z 41 [(0, .ref p0), (1, .int p1), (2, .int p2), (3, .int p3), (4, .int s.1), (5, .int s.2.1)] [] n s.2.2 0 := by
  intro m
  induction m with
  | zero => exact fun s H => ok_iter0 H
  | succ m ih =>
    intro s H
    have H := ok_iter H
    unfold b_X12_watch_41 at H
    refine r_iload hZ dX12_watch_41 rfl ?_
    refine r_sipush (v := (J 200)) hZ dX12_watch_43 (by decide) ?_
    refine r_icmp_gt (tgt := 91) hZ dX12_watch_46 (by decide) (fun c11 => ?_) (fun c11 => ?_)
    · have H := ok_t H c11
      exact r_pick [0, 4] (ls' := [(0, .ref p0), (4, .int s.1)]) rfl (hx0 _ (ki_r H))
    · have H := ok_f H c11
      refine r_iload hZ dX12_watch_49 rfl ?_
      refine r_if_ge (tgt := 91) hZ dX12_watch_51 (by decide) (fun c10 => ?_) (fun c10 => ?_)
      · have H := ok_t H c10
        exact r_pick [0, 4] (ls' := [(0, .ref p0), (4, .int s.1)]) rfl (hx0 _ (ki_r H))
      · have H := ok_f H c10
        refine r_iload hZ dX12_watch_54 rfl ?_
        refine ok_join (Q := fun j1 : Hp => R Z 65 [(0, .ref p0), (1, .int p1), (2, .int p2), (3, .int p3), (5, .int s.2.1)] [] n j1 0) H (fun j1 H => ?_) (fun H => ?_)
        · refine r_aload_n hZ dX12_watch_65 rfl ?_
          refine r_iload_n hZ dX12_watch_66 rfl ?_
          refine r_iload_n hZ dX12_watch_67 rfl ?_
          refine r_iload hZ dX12_watch_68 rfl ?_
          obtain ⟨u5, eu5, H⟩ := ok_bind H
          obtain ⟨r6, er6, H⟩ := ok_bind H
          refine r_callV (As := [.int p1, .int p2, .int s.2.1]) (rest := []) (st1 := [.int r6.1]) (N2 := 0) hZ dX12_watch_70 cw_X12_341_X12 rfl eu5 (s_X12_holdsFor er6) rfl rfl (by decide) (Nat.le_of_ble_eq_true rfl) (Nat.le_refl 0) (Nat.le_refl _) (Or.inl rfl) rfl ?_
          refine ok_join (Q := fun j7 : Int32 => R Z 83 [(0, .ref p0), (1, .int p1), (2, .int p2), (3, .int p3), (5, .int s.2.1)] [.int j7] n r6.2 0) H (fun j7 H => ?_) (fun H => ?_)
          · refine r_istore hZ dX12_watch_83 (by decide) (r_pick [0, 1, 2, 3, 4, 5] (ls' := [(0, .ref p0), (1, .int p1), (2, .int p2), (3, .int p3), (4, .int j7), (5, .int s.2.1)]) rfl ?_)
            obtain ⟨x9, ex9, H⟩ := ok_bind H
            refine r_iincE (w := (J 1)) hZ dX12_watch_85 (by decide) rfl (by decide) ex9 (r_pick [0, 1, 2, 3, 4, 5] (ls' := [(0, .ref p0), (1, .int p1), (2, .int p2), (3, .int p3), (4, .int j7), (5, .int x9)]) rfl ?_)
            refine r_goto (tgt := 41) hZ dX12_watch_88 (by decide) ?_
            exact r_pick [0, 1, 2, 3, 4, 5] (ls' := [(0, .ref p0), (1, .int p1), (2, .int p2), (3, .int p3), (4, .int j7), (5, .int x9)]) rfl (ih _ (ki_l H))
          · refine r_if_eq (tgt := 81) hZ dX12_watch_73 (by decide) (fun c8 => ?_) (fun c8 => ?_)
            · have H := ok_t H c8
              refine r_bipush (v := (J (-4))) hZ dX12_watch_81 (by decide) ?_
              have H := ok_some H
              exact r_pick [0, 1, 2, 3, 5] (ls' := [(0, .ref p0), (1, .int p1), (2, .int p2), (3, .int p3), (5, .int s.2.1)]) rfl H
            · have H := ok_f H c8
              refine r_iload hZ dX12_watch_76 rfl ?_
              refine r_goto (tgt := 83) hZ dX12_watch_78 (by decide) ?_
              have H := ok_some H
              exact r_pick [0, 1, 2, 3, 5] (ls' := [(0, .ref p0), (1, .int p1), (2, .int p2), (3, .int p3), (5, .int s.2.1)]) rfl H
        · refine r_if_le (tgt := 65) hZ dX12_watch_56 (by decide) (fun c4 => ?_) (fun c4 => ?_)
          · have H := ok_t H c4
            have H := ok_some H
            exact r_pick [0, 1, 2, 3, 5] (ls' := [(0, .ref p0), (1, .int p1), (2, .int p2), (3, .int p3), (5, .int s.2.1)]) rfl H
          · have H := ok_f H c4
            refine r_aload_n hZ dX12_watch_59 rfl ?_
            refine r_iload_n hZ dX12_watch_60 rfl ?_
            refine r_iload_n hZ dX12_watch_61 rfl ?_
            obtain ⟨u2, eu2, H⟩ := ok_bind H
            obtain ⟨r3, er3, H⟩ := ok_bind H
            refine r_callV (As := [.int p2, .int p3]) (rest := []) (st1 := []) (N2 := 0) hZ dX12_watch_62 cw_X12_255_X12 rfl eu2 (s_X12_wears er3) rfl rfl (by decide) (Nat.le_of_ble_eq_true rfl) (Nat.le_refl 0) (Nat.le_refl _) (Or.inl rfl) rfl ?_
            have H := ok_some H
            exact r_pick [0, 1, 2, 3, 5] (ls' := [(0, .ref p0), (1, .int p1), (2, .int p2), (3, .int p3), (5, .int s.2.1)]) rfl H
def f_X12_watch  (h : Hp) (a0 : Nat) (a1 : Int32) (a2 : Int32) (a3 : Int32) : Option (Int32 × Hp) :=
  (isO h a0 11).bind fun u1 =>
  (f_X12_isRule h a0 a1).bind fun r2 =>
  (if r2 = 0 then
    some ((J (-1)), h)
  else
    (isO h a0 11).bind fun u3 =>
    (f_X12_isMesh h a0 a2).bind fun r4 =>
    (if r4 = 0 then
      some ((J (-1)), h)
    else
      (f_X12_isIn (a3.toInt64) (K 1) (K 999)).bind fun r5 =>
      (if r5 = 0 then
        some ((J (-1)), h)
      else
        (isO h a0 11).bind fun u6 =>
        (f_X12_saves h a0).bind fun r7 =>
        (some (J (-4))).bind fun x8 =>
        (some (J 0)).bind fun x9 =>
        (iter (b_X12_watch_41 a0 a1 a2 a3) FU (x8, x9, r7)).bind fun e10 =>
        (isO e10.2 a0 11).bind fun u11 =>
        (f_X12_back e10.2 a0).bind fun r12 =>
        some (e10.1, r12))))
set_option maxRecDepth 100000 in
set_option maxHeartbeats 4000000 in
theorem s_X12_watch {n : Nat} {h : Hp} {a0 : Nat} {a1 : Int32} {a2 : Int32} {a3 : Int32}  {r : Int32 × Hp} (hf : f_X12_watch  h a0 a1 a2 a3 = some r) : Ev 405 yX12_watch cX12_watch 6 (some .int) [.ref a0, .int a1, .int a2, .int a3] n h (some (.int r.1)) n r.2 := by
  refine Ev_of RX12 rfl (by decide) (Nat.le_of_ble_eq_true rfl) (Nat.le_refl _) (Or.inl rfl) (fun Z hZ hF hN hI => ?_)
  have H : Ok (f_X12_watch  h a0 a1 a2 a3) (fun y => y = r) := ⟨_, hf, rfl⟩
  unfold f_X12_watch at H
  refine r_ls (ls' := [(0, .ref a0), (1, .int a1), (2, .int a2), (3, .int a3)]) rfl ?_
  refine r_aload_n hZ dX12_watch_0 rfl ?_
  refine r_iload_n hZ dX12_watch_1 rfl ?_
  obtain ⟨u1, eu1, H⟩ := ok_bind H
  obtain ⟨r2, er2, H⟩ := ok_bind H
  refine r_callV (As := [.int a1]) (rest := []) (st1 := [.int r2]) (N2 := 0) hZ dX12_watch_2 cw_X12_338_X12 rfl eu1 (s_X12_isRule er2) rfl rfl (by decide) (Nat.le_of_ble_eq_true rfl) (Nat.le_refl 0) (Nat.le_refl _) (Or.inl rfl) rfl ?_
  refine r_if_eq (tgt := 28) hZ dX12_watch_5 (by decide) (fun c15 => ?_) (fun c15 => ?_)
  · have H := ok_t H c15
    refine r_iconst (v := (J (-1))) hZ dX12_watch_28 (by decide) ?_
    have H := ok_some H
    subst H
    exact r_iret hZ hF dX12_watch_29
  · have H := ok_f H c15
    refine r_aload_n hZ dX12_watch_8 rfl ?_
    refine r_iload_n hZ dX12_watch_9 rfl ?_
    obtain ⟨u3, eu3, H⟩ := ok_bind H
    obtain ⟨r4, er4, H⟩ := ok_bind H
    refine r_callV (As := [.int a2]) (rest := []) (st1 := [.int r4]) (N2 := 0) hZ dX12_watch_10 cw_X12_163_X12 rfl eu3 (s_X12_isMesh er4) rfl rfl (by decide) (Nat.le_of_ble_eq_true rfl) (Nat.le_refl 0) (Nat.le_refl _) (Or.inl rfl) rfl ?_
    refine r_if_eq (tgt := 28) hZ dX12_watch_13 (by decide) (fun c14 => ?_) (fun c14 => ?_)
    · have H := ok_t H c14
      refine r_iconst (v := (J (-1))) hZ dX12_watch_28 (by decide) ?_
      have H := ok_some H
      subst H
      exact r_iret hZ hF dX12_watch_29
    · have H := ok_f H c14
      refine r_iload_n hZ dX12_watch_16 rfl ?_
      refine r_i2l hZ dX12_watch_17 ?_
      refine r_lconst (v := (K 1)) hZ dX12_watch_18 (by decide) ?_
      refine r_ldc2 (v := (K 999)) hZ wc_X12_251 dX12_watch_19 ?_
      obtain ⟨r5, er5, H⟩ := ok_bind H
      refine r_callS (As := [.long (a3.toInt64), .long (K 1), .long (K 999)]) (rest := []) (st1 := [.int r5]) (N2 := 0) hZ dX12_watch_22 cw_X12_73 (s_X12_isIn er5) rfl rfl (by decide) (Nat.le_of_ble_eq_true rfl) (Nat.le_refl 0) (Nat.le_refl _) (Or.inl rfl) rfl ?_
      refine r_if_ne (tgt := 30) hZ dX12_watch_25 (by decide) (fun c13 => ?_) (fun c13 => ?_)
      · have H := ok_f H c13
        refine r_aload_n hZ dX12_watch_30 rfl ?_
        obtain ⟨u6, eu6, H⟩ := ok_bind H
        obtain ⟨r7, er7, H⟩ := ok_bind H
        refine r_callV (As := []) (rest := []) (st1 := []) (N2 := 0) hZ dX12_watch_31 cw_X12_259_X12 rfl eu6 (s_X12_saves er7) rfl rfl (by decide) (Nat.le_of_ble_eq_true rfl) (Nat.le_refl 0) (Nat.le_refl _) (Or.inl rfl) rfl ?_
        refine r_bipush (v := (J (-4))) hZ dX12_watch_34 (by decide) ?_
        obtain ⟨x8, ex8, H⟩ := ok_bind H
        refine r_topi ex8 ?_
        refine r_istore hZ dX12_watch_36 (by decide) (r_pick [0, 1, 2, 3, 4] (ls' := [(0, .ref a0), (1, .int a1), (2, .int a2), (3, .int a3), (4, .int x8)]) rfl ?_)
        refine r_iconst (v := (J 0)) hZ dX12_watch_38 (by decide) ?_
        obtain ⟨x9, ex9, H⟩ := ok_bind H
        refine r_topi ex9 ?_
        refine r_istore hZ dX12_watch_39 (by decide) (r_pick [0, 1, 2, 3, 4, 5] (ls' := [(0, .ref a0), (1, .int a1), (2, .int a2), (3, .int a3), (4, .int x8), (5, .int x9)]) rfl ?_)
        have H := ok_bindK H
        refine r_pick [0, 1, 2, 3, 4, 5] (ls' := [(0, .ref a0), (1, .int a1), (2, .int a2), (3, .int a3), (4, .int x8), (5, .int x9)]) rfl (l_X12_watch_41 hZ (fun e10 H => ?_) FU _ H)
        · refine r_aload_n hZ dX12_watch_91 rfl ?_
          obtain ⟨u11, eu11, H⟩ := ok_bind H
          obtain ⟨r12, er12, H⟩ := ok_bind H
          refine r_callV (As := []) (rest := []) (st1 := []) (N2 := 0) hZ dX12_watch_92 cw_X12_262_X12 rfl eu11 (s_X12_back er12) rfl rfl (by decide) (Nat.le_of_ble_eq_true rfl) (Nat.le_refl 0) (Nat.le_refl _) (Or.inl rfl) rfl ?_
          refine r_iload hZ dX12_watch_95 rfl ?_
          have H := ok_some H
          subst H
          exact r_iret hZ hF dX12_watch_97
      · have H := ok_t H c13
        refine r_iconst (v := (J (-1))) hZ dX12_watch_28 (by decide) ?_
        have H := ok_some H
        subst H
        exact r_iret hZ hF dX12_watch_29
def b_X12_ear_54 (h : Hp) (p0 : Nat) (p1 : Int32) (p2 : Int32) (s : Int64 × Int32) : Option ((Int64 × Int32) ⊕ ((Int64) ⊕ (Unit))) :=
  (gR h p0 11 6).bind fun x1 =>
  (aI h x1 p1).bind fun x2 =>
  (if x2 ≤ s.2 then
    some (.inr (.inl s.1))
  else
    (gR h p0 11 7).bind fun x3 =>
    (aI h x3 (((J 120) * p1) + s.2)).bind fun x4 =>
    (if x4 = 0 then
      (some (s.1 ||| ((x4.toInt64) <<< (s.2.toInt64 &&& 63)))).bind fun x5 =>
      (some (s.2 + (J 1))).bind fun x6 =>
      some (.inl (x5, x6))
    else
      (if x4 = (J 1) then
        (some (s.1 ||| ((x4.toInt64) <<< (s.2.toInt64 &&& 63)))).bind fun x7 =>
        (some (s.2 + (J 1))).bind fun x8 =>
        some (.inl (x7, x8))
      else
        some (.inr (.inr ())))))
set_option maxRecDepth 100000 in
set_option maxHeartbeats 4000000 in
theorem l_X12_ear_54 {Z : Zc} (hZ : Fx cX12_ear RX12 13 5 0 Z) {n : Nat} {h : Hp} {p0 : Nat} {p1 : Int32} {p2 : Int32} {P : ((Int64) ⊕ (Unit)) → Prop} (hx0 : ∀ e : Int64, P (.inl e) → R Z 110 [(0, .ref p0), (1, .int p1), (2, .int p2), (4, .long e)] [] n h 0) (hx1 : ∀ e : Unit, P (.inr e) → R Z 90 [] [] n h 0) : ∀ (m : Nat) (s : Int64 × Int32), Ok (iter (b_X12_ear_54 h p0 p1 p2) m s) P → R Z 54 [(0, .ref p0), (1, .int p1), (2, .int p2), (4, .long s.1), (6, .int s.2)] [] n h 0 := by
  intro m
  induction m with
  | zero => exact fun s H => ok_iter0 H
  | succ m ih =>
    intro s H
    have H := ok_iter H
    unfold b_X12_ear_54 at H
    refine r_iload hZ dX12_ear_54 rfl ?_
    refine r_aload_n hZ dX12_ear_56 rfl ?_
    obtain ⟨x1, ex1, H⟩ := ok_bind H
    refine r_getR hZ fl_X12_28_11 dX12_ear_57 ex1 ?_
    refine r_iload_n hZ dX12_ear_60 rfl ?_
    obtain ⟨x2, ex2, H⟩ := ok_bind H
    refine r_aI hZ dX12_ear_61 ex2 ?_
    refine r_icmp_ge (tgt := 110) hZ dX12_ear_62 (by decide) (fun c11 => ?_) (fun c11 => ?_)
    · have H := ok_t H c11
      exact r_pick [0, 1, 2, 4] (ls' := [(0, .ref p0), (1, .int p1), (2, .int p2), (4, .long s.1)]) rfl (hx0 _ (ki_r H))
    · have H := ok_f H c11
      refine r_aload_n hZ dX12_ear_65 rfl ?_
      obtain ⟨x3, ex3, H⟩ := ok_bind H
      refine r_getR hZ fl_X12_31_11 dX12_ear_66 ex3 ?_
      refine r_bipush (v := (J 120)) hZ dX12_ear_69 (by decide) ?_
      refine r_iload_n hZ dX12_ear_71 rfl ?_
      refine r_imul hZ dX12_ear_72 ?_
      refine r_iload hZ dX12_ear_73 rfl ?_
      refine r_iadd hZ dX12_ear_75 ?_
      obtain ⟨x4, ex4, H⟩ := ok_bind H
      refine r_aI hZ dX12_ear_76 ex4 ?_
      refine r_istore hZ dX12_ear_77 (by decide) (r_pick [0, 1, 2, 4, 6, 7] (ls' := [(0, .ref p0), (1, .int p1), (2, .int p2), (4, .long s.1), (6, .int s.2), (7, .int x4)]) rfl ?_)
      refine r_iload hZ dX12_ear_79 rfl ?_
      refine r_if_eq (tgt := 93) hZ dX12_ear_81 (by decide) (fun c10 => ?_) (fun c10 => ?_)
      · have H := ok_t H c10
        refine r_lload hZ dX12_ear_93 rfl ?_
        refine r_iload hZ dX12_ear_95 rfl ?_
        refine r_i2l hZ dX12_ear_97 ?_
        refine r_iload hZ dX12_ear_98 rfl ?_
        refine r_lshl hZ dX12_ear_100 ?_
        refine r_lor hZ dX12_ear_101 ?_
        obtain ⟨x5, ex5, H⟩ := ok_bind H
        refine r_topl ex5 ?_
        refine r_lstore hZ dX12_ear_102 (by decide) (r_pick [0, 1, 2, 4, 6] (ls' := [(0, .ref p0), (1, .int p1), (2, .int p2), (4, .long x5), (6, .int s.2)]) rfl ?_)
        obtain ⟨x6, ex6, H⟩ := ok_bind H
        refine r_iincE (w := (J 1)) hZ dX12_ear_104 (by decide) rfl (by decide) ex6 (r_pick [0, 1, 2, 4, 6] (ls' := [(0, .ref p0), (1, .int p1), (2, .int p2), (4, .long x5), (6, .int x6)]) rfl ?_)
        refine r_goto (tgt := 54) hZ dX12_ear_107 (by decide) ?_
        exact r_pick [0, 1, 2, 4, 6] (ls' := [(0, .ref p0), (1, .int p1), (2, .int p2), (4, .long x5), (6, .int x6)]) rfl (ih _ (ki_l H))
      · have H := ok_f H c10
        refine r_iload hZ dX12_ear_84 rfl ?_
        refine r_iconst (v := (J 1)) hZ dX12_ear_86 (by decide) ?_
        refine r_icmp_eq (tgt := 93) hZ dX12_ear_87 (by decide) (fun c9 => ?_) (fun c9 => ?_)
        · have H := ok_t H c9
          refine r_lload hZ dX12_ear_93 rfl ?_
          refine r_iload hZ dX12_ear_95 rfl ?_
          refine r_i2l hZ dX12_ear_97 ?_
          refine r_iload hZ dX12_ear_98 rfl ?_
          refine r_lshl hZ dX12_ear_100 ?_
          refine r_lor hZ dX12_ear_101 ?_
          obtain ⟨x7, ex7, H⟩ := ok_bind H
          refine r_topl ex7 ?_
          refine r_lstore hZ dX12_ear_102 (by decide) (r_pick [0, 1, 2, 4, 6] (ls' := [(0, .ref p0), (1, .int p1), (2, .int p2), (4, .long x7), (6, .int s.2)]) rfl ?_)
          obtain ⟨x8, ex8, H⟩ := ok_bind H
          refine r_iincE (w := (J 1)) hZ dX12_ear_104 (by decide) rfl (by decide) ex8 (r_pick [0, 1, 2, 4, 6] (ls' := [(0, .ref p0), (1, .int p1), (2, .int p2), (4, .long x7), (6, .int x8)]) rfl ?_)
          refine r_goto (tgt := 54) hZ dX12_ear_107 (by decide) ?_
          exact r_pick [0, 1, 2, 4, 6] (ls' := [(0, .ref p0), (1, .int p1), (2, .int p2), (4, .long x7), (6, .int x8)]) rfl (ih _ (ki_l H))
        · have H := ok_f H c9
          exact r_pick [] (ls' := []) rfl (hx1 _ (ki_r H))
def b_X12_ear_150 (h : Hp) (p0 : Nat) (p1 : Int32) (p2 : Int32) (p4 : Int64) (p6 : Int32) (p7 : Int32) (p8 : Int32) (s : Int64 × Int32) : Option ((Int64 × Int32) ⊕ ((Int64))) :=
  (gR h p0 11 6).bind fun x1 =>
  (aI h x1 p1).bind fun x2 =>
  (if x2 ≤ s.2 then
    some (.inr (s.1))
  else
    (some (s.1 ||| ((K 1) <<< (s.2.toInt64 &&& 63)))).bind fun x3 =>
    (isO h p0 11).bind fun u4 =>
    (f_X12_teeth h p0 p7).bind fun r5 =>
    (some (s.2 + r5)).bind fun x6 =>
    some (.inl (x3, x6)))
set_option maxRecDepth 100000 in
set_option maxHeartbeats 4000000 in
theorem l_X12_ear_150 {Z : Zc} (hZ : Fx cX12_ear RX12 13 5 0 Z) {n : Nat} {h : Hp} {p0 : Nat} {p1 : Int32} {p2 : Int32} {p4 : Int64} {p6 : Int32} {p7 : Int32} {p8 : Int32} {P : ((Int64)) → Prop} (hx0 : ∀ e : Int64, P (e) → R Z 184 [(0, .ref p0), (1, .int p1), (2, .int p2), (4, .long p4), (6, .int p6), (7, .int p7), (8, .int p8), (9, .long e)] [] n h 0) : ∀ (m : Nat) (s : Int64 × Int32), Ok (iter (b_X12_ear_150 h p0 p1 p2 p4 p6 p7 p8) m s) P → R Z 150 [(0, .ref p0), (1, .int p1), (2, .int p2), (4, .long p4), (6, .int p6), (7, .int p7), (8, .int p8), (9, .long s.1), (11, .int s.2)] [] n h 0 := by
  intro m
  induction m with
  | zero => exact fun s H => ok_iter0 H
  | succ m ih =>
    intro s H
    have H := ok_iter H
    unfold b_X12_ear_150 at H
    refine r_iload hZ dX12_ear_150 rfl ?_
    refine r_aload_n hZ dX12_ear_152 rfl ?_
    obtain ⟨x1, ex1, H⟩ := ok_bind H
    refine r_getR hZ fl_X12_28_11 dX12_ear_153 ex1 ?_
    refine r_iload_n hZ dX12_ear_156 rfl ?_
    obtain ⟨x2, ex2, H⟩ := ok_bind H
    refine r_aI hZ dX12_ear_157 ex2 ?_
    refine r_icmp_ge (tgt := 184) hZ dX12_ear_158 (by decide) (fun c7 => ?_) (fun c7 => ?_)
    · have H := ok_t H c7
      exact r_pick [0, 1, 2, 4, 6, 7, 8, 9] (ls' := [(0, .ref p0), (1, .int p1), (2, .int p2), (4, .long p4), (6, .int p6), (7, .int p7), (8, .int p8), (9, .long s.1)]) rfl (hx0 _ (ki_r H))
    · have H := ok_f H c7
      refine r_lload hZ dX12_ear_161 rfl ?_
      refine r_lconst (v := (K 1)) hZ dX12_ear_163 (by decide) ?_
      refine r_iload hZ dX12_ear_164 rfl ?_
      refine r_lshl hZ dX12_ear_166 ?_
      refine r_lor hZ dX12_ear_167 ?_
      obtain ⟨x3, ex3, H⟩ := ok_bind H
      refine r_topl ex3 ?_
      refine r_lstore hZ dX12_ear_168 (by decide) (r_pick [0, 1, 2, 4, 6, 7, 8, 9, 11] (ls' := [(0, .ref p0), (1, .int p1), (2, .int p2), (4, .long p4), (6, .int p6), (7, .int p7), (8, .int p8), (9, .long x3), (11, .int s.2)]) rfl ?_)
      refine r_iload hZ dX12_ear_170 rfl ?_
      refine r_aload_n hZ dX12_ear_172 rfl ?_
      refine r_iload hZ dX12_ear_173 rfl ?_
      obtain ⟨u4, eu4, H⟩ := ok_bind H
      obtain ⟨r5, er5, H⟩ := ok_bind H
      refine r_callV (As := [.int p7]) (rest := [.int s.2]) (st1 := [.int r5, .int s.2]) (N2 := 0) hZ dX12_ear_175 cw_X12_83_X12 rfl eu4 (s_X12_teeth er5) rfl rfl (by decide) (Nat.le_of_ble_eq_true rfl) (Nat.le_refl 0) (Nat.le_refl _) (Or.inl rfl) rfl ?_
      refine r_iadd hZ dX12_ear_178 ?_
      obtain ⟨x6, ex6, H⟩ := ok_bind H
      refine r_topi ex6 ?_
      refine r_istore hZ dX12_ear_179 (by decide) (r_pick [0, 1, 2, 4, 6, 7, 8, 9, 11] (ls' := [(0, .ref p0), (1, .int p1), (2, .int p2), (4, .long p4), (6, .int p6), (7, .int p7), (8, .int p8), (9, .long x3), (11, .int x6)]) rfl ?_)
      refine r_goto (tgt := 150) hZ dX12_ear_181 (by decide) ?_
      exact r_pick [0, 1, 2, 4, 6, 7, 8, 9, 11] (ls' := [(0, .ref p0), (1, .int p1), (2, .int p2), (4, .long p4), (6, .int p6), (7, .int p7), (8, .int p8), (9, .long x3), (11, .int x6)]) rfl (ih _ (ki_l H))
def b_X12_ear_132 (p0 : Nat) (p1 : Int32) (p2 : Int32) (p4 : Int64) (p7 : Int32) (s : Int32 × Int32 × Hp) : Option ((Int32 × Int32 × Hp) ⊕ ((Int32 × Hp))) :=
  (isO s.2.2 p0 11).bind fun u1 =>
  (f_X12_teeth s.2.2 p0 p7).bind fun r2 =>
  (if r2 ≤ s.2.1 then
    some (.inr ((s.1, s.2.2)))
  else
    (some (K 0)).bind fun x3 =>
    (iter (b_X12_ear_150 s.2.2 p0 p1 p2 p4 s.1 p7 s.2.1) FU (x3, s.2.1)).bind fun e4 =>
    ((if (lg_cmp (e4 &&& (p4 ^^^ (K (-1)))) (K 0)) = 0 then
      (gR s.2.2 p0 11 28).bind fun x6 =>
      (sL s.2.2 x6 s.1 e4).bind fun h7 =>
      (gR h7 p0 11 29).bind fun x8 =>
      (sI h7 x8 s.1 p7).bind fun h9 =>
      (some (s.1 + (J 1))).bind fun x10 =>
      some (x10, h9)
    else
      some (s.1, s.2.2))).bind fun (j5 : Int32 × Hp) =>
    (some (s.2.1 + (J 1))).bind fun x12 =>
    some (.inl (j5.1, x12, j5.2)))
set_option maxRecDepth 100000 in
set_option maxHeartbeats 4000000 in
theorem l_X12_ear_132 {Z : Zc} (hZ : Fx cX12_ear RX12 13 5 0 Z) {n : Nat} {p0 : Nat} {p1 : Int32} {p2 : Int32} {p4 : Int64} {p7 : Int32} {P : ((Int32 × Hp)) → Prop} (hx0 : ∀ e : Int32 × Hp, P (e) → R Z 228 [(0, .ref p0), (1, .int p1), (2, .int p2), (4, .long p4), (6, .int e.1), (7, .int p7)] [] n e.2 0) : ∀ (m : Nat) (s : Int32 × Int32 × Hp), Ok (iter (b_X12_ear_132 p0 p1 p2 p4 p7) m s) P → R Z 132 [(0, .ref p0), (1, .int p1), (2, .int p2), (4, .long p4), (6, .int s.1), (7, .int p7), (8, .int s.2.1)] [] n s.2.2 0 := by
  intro m
  induction m with
  | zero => exact fun s H => ok_iter0 H
  | succ m ih =>
    intro s H
    have H := ok_iter H
    unfold b_X12_ear_132 at H
    refine r_iload hZ dX12_ear_132 rfl ?_
    refine r_aload_n hZ dX12_ear_134 rfl ?_
    refine r_iload hZ dX12_ear_135 rfl ?_
    obtain ⟨u1, eu1, H⟩ := ok_bind H
    obtain ⟨r2, er2, H⟩ := ok_bind H
    refine r_callV (As := [.int p7]) (rest := [.int s.2.1]) (st1 := [.int r2, .int s.2.1]) (N2 := 0) hZ dX12_ear_137 cw_X12_83_X12 rfl eu1 (s_X12_teeth er2) rfl rfl (by decide) (Nat.le_of_ble_eq_true rfl) (Nat.le_refl 0) (Nat.le_refl _) (Or.inl rfl) rfl ?_
    refine r_icmp_ge (tgt := 228) hZ dX12_ear_140 (by decide) (fun c13 => ?_) (fun c13 => ?_)
    · have H := ok_t H c13
      exact r_pick [0, 1, 2, 4, 6, 7] (ls' := [(0, .ref p0), (1, .int p1), (2, .int p2), (4, .long p4), (6, .int s.1), (7, .int p7)]) rfl (hx0 _ (ki_r H))
    · have H := ok_f H c13
      refine r_lconst (v := (K 0)) hZ dX12_ear_143 (by decide) ?_
      obtain ⟨x3, ex3, H⟩ := ok_bind H
      refine r_topl ex3 ?_
      refine r_lstore hZ dX12_ear_144 (by decide) (r_pick [0, 1, 2, 4, 6, 7, 8, 9] (ls' := [(0, .ref p0), (1, .int p1), (2, .int p2), (4, .long p4), (6, .int s.1), (7, .int p7), (8, .int s.2.1), (9, .long x3)]) rfl ?_)
      refine r_iload hZ dX12_ear_146 rfl ?_
      refine r_istore hZ dX12_ear_148 (by decide) (r_pick [0, 1, 2, 4, 6, 7, 8, 9, 11] (ls' := [(0, .ref p0), (1, .int p1), (2, .int p2), (4, .long p4), (6, .int s.1), (7, .int p7), (8, .int s.2.1), (9, .long x3), (11, .int s.2.1)]) rfl ?_)
      have H := ok_bindK H
      refine r_pick [0, 1, 2, 4, 6, 7, 8, 9, 11] (ls' := [(0, .ref p0), (1, .int p1), (2, .int p2), (4, .long p4), (6, .int s.1), (7, .int p7), (8, .int s.2.1), (9, .long x3), (11, .int s.2.1)]) rfl (l_X12_ear_150 hZ (fun e4 H => ?_) FU _ H)
      · refine r_lload hZ dX12_ear_184 rfl ?_
        refine r_lload hZ dX12_ear_186 rfl ?_
        refine r_ldc2 (v := (K (-1))) hZ wc_X12_168 dX12_ear_188 ?_
        refine r_lxor hZ dX12_ear_191 ?_
        refine r_land hZ dX12_ear_192 ?_
        refine r_lconst (v := (K 0)) hZ dX12_ear_193 (by decide) ?_
        refine r_lcmp hZ dX12_ear_194 ?_
        refine ok_join (Q := fun j5 : Int32 × Hp => R Z 222 [(0, .ref p0), (1, .int p1), (2, .int p2), (4, .long p4), (6, .int j5.1), (7, .int p7), (8, .int s.2.1)] [] n j5.2 0) H (fun j5 H => ?_) (fun H => ?_)
        · obtain ⟨x12, ex12, H⟩ := ok_bind H
          refine r_iincE (w := (J 1)) hZ dX12_ear_222 (by decide) rfl (by decide) ex12 (r_pick [0, 1, 2, 4, 6, 7, 8] (ls' := [(0, .ref p0), (1, .int p1), (2, .int p2), (4, .long p4), (6, .int j5.1), (7, .int p7), (8, .int x12)]) rfl ?_)
          refine r_goto (tgt := 132) hZ dX12_ear_225 (by decide) ?_
          exact r_pick [0, 1, 2, 4, 6, 7, 8] (ls' := [(0, .ref p0), (1, .int p1), (2, .int p2), (4, .long p4), (6, .int j5.1), (7, .int p7), (8, .int x12)]) rfl (ih _ (ki_l H))
        · refine r_if_eq (tgt := 201) hZ dX12_ear_195 (by decide) (fun c11 => ?_) (fun c11 => ?_)
          · have H := ok_t H c11
            refine r_aload_n hZ dX12_ear_201 rfl ?_
            obtain ⟨x6, ex6, H⟩ := ok_bind H
            refine r_getR hZ fl_X12_63_11 dX12_ear_202 ex6 ?_
            refine r_iload hZ dX12_ear_205 rfl ?_
            refine r_lload hZ dX12_ear_207 rfl ?_
            obtain ⟨h7, eh7, H⟩ := ok_bind H
            refine r_sL hZ dX12_ear_209 eh7 ?_
            refine r_aload_n hZ dX12_ear_210 rfl ?_
            obtain ⟨x8, ex8, H⟩ := ok_bind H
            refine r_getR hZ fl_X12_66_11 dX12_ear_211 ex8 ?_
            refine r_iload hZ dX12_ear_214 rfl ?_
            refine r_iload hZ dX12_ear_216 rfl ?_
            obtain ⟨h9, eh9, H⟩ := ok_bind H
            refine r_sI hZ dX12_ear_218 eh9 ?_
            obtain ⟨x10, ex10, H⟩ := ok_bind H
            refine r_iincE (w := (J 1)) hZ dX12_ear_219 (by decide) rfl (by decide) ex10 (r_pick [0, 1, 2, 4, 6, 7, 8] (ls' := [(0, .ref p0), (1, .int p1), (2, .int p2), (4, .long p4), (6, .int x10), (7, .int p7), (8, .int s.2.1)]) rfl ?_)
            have H := ok_some H
            exact r_pick [0, 1, 2, 4, 6, 7, 8] (ls' := [(0, .ref p0), (1, .int p1), (2, .int p2), (4, .long p4), (6, .int x10), (7, .int p7), (8, .int s.2.1)]) rfl H
          · have H := ok_f H c11
            refine r_goto (tgt := 222) hZ dX12_ear_198 (by decide) ?_
            have H := ok_some H
            exact r_pick [0, 1, 2, 4, 6, 7, 8] (ls' := [(0, .ref p0), (1, .int p1), (2, .int p2), (4, .long p4), (6, .int s.1), (7, .int p7), (8, .int s.2.1)]) rfl H
def b_X12_ear_116 (p0 : Nat) (p1 : Int32) (p2 : Int32) (p4 : Int64) (s : Int32 × Int32 × Hp) : Option ((Int32 × Int32 × Hp) ⊕ ((Int32 × Hp))) :=
  (gR s.2.2 p0 11 1).bind fun x1 =>
  (aI s.2.2 x1 (J 1740)).bind fun x2 =>
  (if x2 ≤ s.2.1 then
    some (.inr ((s.1, s.2.2)))
  else
    (some (J 0)).bind fun x3 =>
    (iter (b_X12_ear_132 p0 p1 p2 p4 s.2.1) FU (s.1, x3, s.2.2)).bind fun e4 =>
    (some (s.2.1 + (J 1))).bind fun x5 =>
    some (.inl (e4.1, x5, e4.2)))
set_option maxRecDepth 100000 in
set_option maxHeartbeats 4000000 in
theorem l_X12_ear_116 {Z : Zc} (hZ : Fx cX12_ear RX12 13 5 0 Z) {n : Nat} {p0 : Nat} {p1 : Int32} {p2 : Int32} {p4 : Int64} {P : ((Int32 × Hp)) → Prop} (hx0 : ∀ e : Int32 × Hp, P (e) → R Z 234 [(0, .ref p0), (2, .int p2), (4, .long p4), (6, .int e.1)] [] n e.2 0) : ∀ (m : Nat) (s : Int32 × Int32 × Hp), Ok (iter (b_X12_ear_116 p0 p1 p2 p4) m s) P → R Z 116 [(0, .ref p0), (1, .int p1), (2, .int p2), (4, .long p4), (6, .int s.1), (7, .int s.2.1)] [] n s.2.2 0 := by
  intro m
  induction m with
  | zero => exact fun s H => ok_iter0 H
  | succ m ih =>
    intro s H
    have H := ok_iter H
    unfold b_X12_ear_116 at H
    refine r_iload hZ dX12_ear_116 rfl ?_
    refine r_aload_n hZ dX12_ear_118 rfl ?_
    obtain ⟨x1, ex1, H⟩ := ok_bind H
    refine r_getR hZ fl_X12_13_11 dX12_ear_119 ex1 ?_
    refine r_sipush (v := (J 1740)) hZ dX12_ear_122 (by decide) ?_
    obtain ⟨x2, ex2, H⟩ := ok_bind H
    refine r_aI hZ dX12_ear_125 ex2 ?_
    refine r_icmp_ge (tgt := 234) hZ dX12_ear_126 (by decide) (fun c6 => ?_) (fun c6 => ?_)
    · have H := ok_t H c6
      exact r_pick [0, 2, 4, 6] (ls' := [(0, .ref p0), (2, .int p2), (4, .long p4), (6, .int s.1)]) rfl (hx0 _ (ki_r H))
    · have H := ok_f H c6
      refine r_iconst (v := (J 0)) hZ dX12_ear_129 (by decide) ?_
      obtain ⟨x3, ex3, H⟩ := ok_bind H
      refine r_topi ex3 ?_
      refine r_istore hZ dX12_ear_130 (by decide) (r_pick [0, 1, 2, 4, 6, 7, 8] (ls' := [(0, .ref p0), (1, .int p1), (2, .int p2), (4, .long p4), (6, .int s.1), (7, .int s.2.1), (8, .int x3)]) rfl ?_)
      have H := ok_bindK H
      refine r_pick [0, 1, 2, 4, 6, 7, 8] (ls' := [(0, .ref p0), (1, .int p1), (2, .int p2), (4, .long p4), (6, .int s.1), (7, .int s.2.1), (8, .int x3)]) rfl (l_X12_ear_132 hZ (fun e4 H => ?_) FU _ H)
      · obtain ⟨x5, ex5, H⟩ := ok_bind H
        refine r_iincE (w := (J 1)) hZ dX12_ear_228 (by decide) rfl (by decide) ex5 (r_pick [0, 1, 2, 4, 6, 7] (ls' := [(0, .ref p0), (1, .int p1), (2, .int p2), (4, .long p4), (6, .int e4.1), (7, .int x5)]) rfl ?_)
        refine r_goto (tgt := 116) hZ dX12_ear_231 (by decide) ?_
        exact r_pick [0, 1, 2, 4, 6, 7] (ls' := [(0, .ref p0), (1, .int p1), (2, .int p2), (4, .long p4), (6, .int e4.1), (7, .int x5)]) rfl (ih _ (ki_l H))
def b_X12_ear_325 (h : Hp) (p0 : Nat) (p2 : Int32) (p4 : Int64) (p6 : Int32) (p10 : Int32) (s : Int32 × Int32 × Int32 × Int32) : Option ((Int32 × Int32 × Int32 × Int32) ⊕ ((Int32 × Int32 × Int32))) :=
  (if p6 ≤ s.2.2.2 then
    some (.inr ((s.1, s.2.1, s.2.2.1)))
  else
    (gR h p0 11 29).bind fun x1 =>
    (aI h x1 p10).bind fun x2 =>
    (gR h p0 11 29).bind fun x3 =>
    (aI h x3 s.2.2.2).bind fun x4 =>
    ((if x2 = x4 then
      some (s.1, s.2.1, s.2.2.1)
    else
      (gR h p0 11 28).bind fun x6 =>
      (aL h x6 p10).bind fun x7 =>
      (gR h p0 11 28).bind fun x8 =>
      (aL h x8 s.2.2.2).bind fun x9 =>
      (if (lg_cmp (x7 ||| x9) p4) = 0 then
        (some (s.1 + (J 1))).bind fun x10 =>
        (gR h p0 11 29).bind fun x11 =>
        (aI h x11 p10).bind fun x12 =>
        (gR h p0 11 29).bind fun x13 =>
        (aI h x13 s.2.2.2).bind fun x14 =>
        (some (((J 1) <<< (x12 &&& 31)) ||| ((J 1) <<< (x14 &&& 31)))).bind fun x15 =>
        (some (s.2.1 &&& x15)).bind fun x16 =>
        (some (s.2.2.1 ||| x15)).bind fun x17 =>
        some (x10, x16, x17)
      else
        some (s.1, s.2.1, s.2.2.1)))).bind fun (j5 : Int32 × Int32 × Int32) =>
    (some (s.2.2.2 + (J 1))).bind fun x20 =>
    some (.inl (j5.1, j5.2.1, j5.2.2, x20)))
set_option maxRecDepth 100000 in
set_option maxHeartbeats 4000000 in
theorem l_X12_ear_325 {Z : Zc} (hZ : Fx cX12_ear RX12 13 5 0 Z) {n : Nat} {h : Hp} {p0 : Nat} {p2 : Int32} {p4 : Int64} {p6 : Int32} {p10 : Int32} {P : ((Int32 × Int32 × Int32)) → Prop} (hx0 : ∀ e : Int32 × Int32 × Int32, P (e) → R Z 417 [(0, .ref p0), (2, .int p2), (4, .long p4), (6, .int p6), (7, .int e.1), (8, .int e.2.1), (9, .int e.2.2), (10, .int p10)] [] n h 0) : ∀ (m : Nat) (s : Int32 × Int32 × Int32 × Int32), Ok (iter (b_X12_ear_325 h p0 p2 p4 p6 p10) m s) P → R Z 325 [(0, .ref p0), (2, .int p2), (4, .long p4), (6, .int p6), (7, .int s.1), (8, .int s.2.1), (9, .int s.2.2.1), (10, .int p10), (11, .int s.2.2.2)] [] n h 0 := by
  intro m
  induction m with
  | zero => exact fun s H => ok_iter0 H
  | succ m ih =>
    intro s H
    have H := ok_iter H
    unfold b_X12_ear_325 at H
    refine r_iload hZ dX12_ear_325 rfl ?_
    refine r_iload hZ dX12_ear_327 rfl ?_
    refine r_icmp_ge (tgt := 417) hZ dX12_ear_329 (by decide) (fun c21 => ?_) (fun c21 => ?_)
    · have H := ok_t H c21
      exact r_pick [0, 2, 4, 6, 7, 8, 9, 10] (ls' := [(0, .ref p0), (2, .int p2), (4, .long p4), (6, .int p6), (7, .int s.1), (8, .int s.2.1), (9, .int s.2.2.1), (10, .int p10)]) rfl (hx0 _ (ki_r H))
    · have H := ok_f H c21
      refine r_aload_n hZ dX12_ear_332 rfl ?_
      obtain ⟨x1, ex1, H⟩ := ok_bind H
      refine r_getR hZ fl_X12_66_11 dX12_ear_333 ex1 ?_
      refine r_iload hZ dX12_ear_336 rfl ?_
      obtain ⟨x2, ex2, H⟩ := ok_bind H
      refine r_aI hZ dX12_ear_338 ex2 ?_
      refine r_aload_n hZ dX12_ear_339 rfl ?_
      obtain ⟨x3, ex3, H⟩ := ok_bind H
      refine r_getR hZ fl_X12_66_11 dX12_ear_340 ex3 ?_
      refine r_iload hZ dX12_ear_343 rfl ?_
      obtain ⟨x4, ex4, H⟩ := ok_bind H
      refine r_aI hZ dX12_ear_345 ex4 ?_
      refine ok_join (Q := fun j5 : Int32 × Int32 × Int32 => R Z 411 [(0, .ref p0), (2, .int p2), (4, .long p4), (6, .int p6), (7, .int j5.1), (8, .int j5.2.1), (9, .int j5.2.2), (10, .int p10), (11, .int s.2.2.2)] [] n h 0) H (fun j5 H => ?_) (fun H => ?_)
      · obtain ⟨x20, ex20, H⟩ := ok_bind H
        refine r_iincE (w := (J 1)) hZ dX12_ear_411 (by decide) rfl (by decide) ex20 (r_pick [0, 2, 4, 6, 7, 8, 9, 10, 11] (ls' := [(0, .ref p0), (2, .int p2), (4, .long p4), (6, .int p6), (7, .int j5.1), (8, .int j5.2.1), (9, .int j5.2.2), (10, .int p10), (11, .int x20)]) rfl ?_)
        refine r_goto (tgt := 325) hZ dX12_ear_414 (by decide) ?_
        exact r_pick [0, 2, 4, 6, 7, 8, 9, 10, 11] (ls' := [(0, .ref p0), (2, .int p2), (4, .long p4), (6, .int p6), (7, .int j5.1), (8, .int j5.2.1), (9, .int j5.2.2), (10, .int p10), (11, .int x20)]) rfl (ih _ (ki_l H))
      · refine r_icmp_eq (tgt := 411) hZ dX12_ear_346 (by decide) (fun c19 => ?_) (fun c19 => ?_)
        · have H := ok_t H c19
          have H := ok_some H
          exact r_pick [0, 2, 4, 6, 7, 8, 9, 10, 11] (ls' := [(0, .ref p0), (2, .int p2), (4, .long p4), (6, .int p6), (7, .int s.1), (8, .int s.2.1), (9, .int s.2.2.1), (10, .int p10), (11, .int s.2.2.2)]) rfl H
        · have H := ok_f H c19
          refine r_aload_n hZ dX12_ear_349 rfl ?_
          obtain ⟨x6, ex6, H⟩ := ok_bind H
          refine r_getR hZ fl_X12_63_11 dX12_ear_350 ex6 ?_
          refine r_iload hZ dX12_ear_353 rfl ?_
          obtain ⟨x7, ex7, H⟩ := ok_bind H
          refine r_aL hZ dX12_ear_355 ex7 ?_
          refine r_aload_n hZ dX12_ear_356 rfl ?_
          obtain ⟨x8, ex8, H⟩ := ok_bind H
          refine r_getR hZ fl_X12_63_11 dX12_ear_357 ex8 ?_
          refine r_iload hZ dX12_ear_360 rfl ?_
          obtain ⟨x9, ex9, H⟩ := ok_bind H
          refine r_aL hZ dX12_ear_362 ex9 ?_
          refine r_lor hZ dX12_ear_363 ?_
          refine r_lload hZ dX12_ear_364 rfl ?_
          refine r_lcmp hZ dX12_ear_366 ?_
          refine r_if_eq (tgt := 373) hZ dX12_ear_367 (by decide) (fun c18 => ?_) (fun c18 => ?_)
          · have H := ok_t H c18
            obtain ⟨x10, ex10, H⟩ := ok_bind H
            refine r_iincE (w := (J 1)) hZ dX12_ear_373 (by decide) rfl (by decide) ex10 (r_pick [0, 2, 4, 6, 7, 8, 9, 10, 11] (ls' := [(0, .ref p0), (2, .int p2), (4, .long p4), (6, .int p6), (7, .int x10), (8, .int s.2.1), (9, .int s.2.2.1), (10, .int p10), (11, .int s.2.2.2)]) rfl ?_)
            refine r_iconst (v := (J 1)) hZ dX12_ear_376 (by decide) ?_
            refine r_aload_n hZ dX12_ear_377 rfl ?_
            obtain ⟨x11, ex11, H⟩ := ok_bind H
            refine r_getR hZ fl_X12_66_11 dX12_ear_378 ex11 ?_
            refine r_iload hZ dX12_ear_381 rfl ?_
            obtain ⟨x12, ex12, H⟩ := ok_bind H
            refine r_aI hZ dX12_ear_383 ex12 ?_
            refine r_ishl hZ dX12_ear_384 ?_
            refine r_iconst (v := (J 1)) hZ dX12_ear_385 (by decide) ?_
            refine r_aload_n hZ dX12_ear_386 rfl ?_
            obtain ⟨x13, ex13, H⟩ := ok_bind H
            refine r_getR hZ fl_X12_66_11 dX12_ear_387 ex13 ?_
            refine r_iload hZ dX12_ear_390 rfl ?_
            obtain ⟨x14, ex14, H⟩ := ok_bind H
            refine r_aI hZ dX12_ear_392 ex14 ?_
            refine r_ishl hZ dX12_ear_393 ?_
            refine r_ior hZ dX12_ear_394 ?_
            obtain ⟨x15, ex15, H⟩ := ok_bind H
            refine r_topi ex15 ?_
            refine r_istore hZ dX12_ear_395 (by decide) (r_pick [0, 2, 4, 6, 7, 8, 9, 10, 11, 12] (ls' := [(0, .ref p0), (2, .int p2), (4, .long p4), (6, .int p6), (7, .int x10), (8, .int s.2.1), (9, .int s.2.2.1), (10, .int p10), (11, .int s.2.2.2), (12, .int x15)]) rfl ?_)
            refine r_iload hZ dX12_ear_397 rfl ?_
            refine r_iload hZ dX12_ear_399 rfl ?_
            refine r_iand hZ dX12_ear_401 ?_
            obtain ⟨x16, ex16, H⟩ := ok_bind H
            refine r_topi ex16 ?_
            refine r_istore hZ dX12_ear_402 (by decide) (r_pick [0, 2, 4, 6, 7, 8, 9, 10, 11, 12] (ls' := [(0, .ref p0), (2, .int p2), (4, .long p4), (6, .int p6), (7, .int x10), (8, .int x16), (9, .int s.2.2.1), (10, .int p10), (11, .int s.2.2.2), (12, .int x15)]) rfl ?_)
            refine r_iload hZ dX12_ear_404 rfl ?_
            refine r_iload hZ dX12_ear_406 rfl ?_
            refine r_ior hZ dX12_ear_408 ?_
            obtain ⟨x17, ex17, H⟩ := ok_bind H
            refine r_topi ex17 ?_
            refine r_istore hZ dX12_ear_409 (by decide) (r_pick [0, 2, 4, 6, 7, 8, 9, 10, 11] (ls' := [(0, .ref p0), (2, .int p2), (4, .long p4), (6, .int p6), (7, .int x10), (8, .int x16), (9, .int x17), (10, .int p10), (11, .int s.2.2.2)]) rfl ?_)
            have H := ok_some H
            exact r_pick [0, 2, 4, 6, 7, 8, 9, 10, 11] (ls' := [(0, .ref p0), (2, .int p2), (4, .long p4), (6, .int p6), (7, .int x10), (8, .int x16), (9, .int x17), (10, .int p10), (11, .int s.2.2.2)]) rfl H
          · have H := ok_f H c18
            refine r_goto (tgt := 411) hZ dX12_ear_370 (by decide) ?_
            have H := ok_some H
            exact r_pick [0, 2, 4, 6, 7, 8, 9, 10, 11] (ls' := [(0, .ref p0), (2, .int p2), (4, .long p4), (6, .int p6), (7, .int s.1), (8, .int s.2.1), (9, .int s.2.2.1), (10, .int p10), (11, .int s.2.2.2)]) rfl H
def b_X12_ear_268 (h : Hp) (p0 : Nat) (p2 : Int32) (p4 : Int64) (p6 : Int32) (s : Int32 × Int32 × Int32 × Int32) : Option ((Int32 × Int32 × Int32 × Int32) ⊕ ((Int32 × Int32 × Int32))) :=
  (if p6 ≤ s.2.2.2 then
    some (.inr ((s.1, s.2.1, s.2.2.1)))
  else
    (gR h p0 11 28).bind fun x1 =>
    (aL h x1 s.2.2.2).bind fun x2 =>
    ((if (lg_cmp x2 p4) = 0 then
      (some (s.1 + (J 1))).bind fun x4 =>
      (gR h p0 11 29).bind fun x5 =>
      (aI h x5 s.2.2.2).bind fun x6 =>
      (some (s.2.1 &&& ((J 1) <<< (x6 &&& 31)))).bind fun x7 =>
      (gR h p0 11 29).bind fun x8 =>
      (aI h x8 s.2.2.2).bind fun x9 =>
      (some (s.2.2.1 ||| ((J 1) <<< (x9 &&& 31)))).bind fun x10 =>
      some (x4, x7, x10)
    else
      some (s.1, s.2.1, s.2.2.1))).bind fun (j3 : Int32 × Int32 × Int32) =>
    (some (s.2.2.2 + (J 1))).bind fun x12 =>
    (iter (b_X12_ear_325 h p0 p2 p4 p6 s.2.2.2) FU (j3.1, j3.2.1, j3.2.2, x12)).bind fun e13 =>
    (some (s.2.2.2 + (J 1))).bind fun x14 =>
    some (.inl (e13.1, e13.2.1, e13.2.2, x14)))
set_option maxRecDepth 100000 in
set_option maxHeartbeats 4000000 in
theorem l_X12_ear_268 {Z : Zc} (hZ : Fx cX12_ear RX12 13 5 0 Z) {n : Nat} {h : Hp} {p0 : Nat} {p2 : Int32} {p4 : Int64} {p6 : Int32} {P : ((Int32 × Int32 × Int32)) → Prop} (hx0 : ∀ e : Int32 × Int32 × Int32, P (e) → R Z 423 [(2, .int p2), (7, .int e.1), (8, .int e.2.1), (9, .int e.2.2)] [] n h 0) : ∀ (m : Nat) (s : Int32 × Int32 × Int32 × Int32), Ok (iter (b_X12_ear_268 h p0 p2 p4 p6) m s) P → R Z 268 [(0, .ref p0), (2, .int p2), (4, .long p4), (6, .int p6), (7, .int s.1), (8, .int s.2.1), (9, .int s.2.2.1), (10, .int s.2.2.2)] [] n h 0 := by
  intro m
  induction m with
  | zero => exact fun s H => ok_iter0 H
  | succ m ih =>
    intro s H
    have H := ok_iter H
    unfold b_X12_ear_268 at H
    refine r_iload hZ dX12_ear_268 rfl ?_
    refine r_iload hZ dX12_ear_270 rfl ?_
    refine r_icmp_ge (tgt := 423) hZ dX12_ear_272 (by decide) (fun c15 => ?_) (fun c15 => ?_)
    · have H := ok_t H c15
      exact r_pick [2, 7, 8, 9] (ls' := [(2, .int p2), (7, .int s.1), (8, .int s.2.1), (9, .int s.2.2.1)]) rfl (hx0 _ (ki_r H))
    · have H := ok_f H c15
      refine r_aload_n hZ dX12_ear_275 rfl ?_
      obtain ⟨x1, ex1, H⟩ := ok_bind H
      refine r_getR hZ fl_X12_63_11 dX12_ear_276 ex1 ?_
      refine r_iload hZ dX12_ear_279 rfl ?_
      obtain ⟨x2, ex2, H⟩ := ok_bind H
      refine r_aL hZ dX12_ear_281 ex2 ?_
      refine r_lload hZ dX12_ear_282 rfl ?_
      refine r_lcmp hZ dX12_ear_284 ?_
      refine ok_join (Q := fun j3 : Int32 × Int32 × Int32 => R Z 319 [(0, .ref p0), (2, .int p2), (4, .long p4), (6, .int p6), (7, .int j3.1), (8, .int j3.2.1), (9, .int j3.2.2), (10, .int s.2.2.2)] [] n h 0) H (fun j3 H => ?_) (fun H => ?_)
      · refine r_iload hZ dX12_ear_319 rfl ?_
        refine r_iconst (v := (J 1)) hZ dX12_ear_321 (by decide) ?_
        refine r_iadd hZ dX12_ear_322 ?_
        obtain ⟨x12, ex12, H⟩ := ok_bind H
        refine r_topi ex12 ?_
        refine r_istore hZ dX12_ear_323 (by decide) (r_pick [0, 2, 4, 6, 7, 8, 9, 10, 11] (ls' := [(0, .ref p0), (2, .int p2), (4, .long p4), (6, .int p6), (7, .int j3.1), (8, .int j3.2.1), (9, .int j3.2.2), (10, .int s.2.2.2), (11, .int x12)]) rfl ?_)
        have H := ok_bindK H
        refine r_pick [0, 2, 4, 6, 7, 8, 9, 10, 11] (ls' := [(0, .ref p0), (2, .int p2), (4, .long p4), (6, .int p6), (7, .int j3.1), (8, .int j3.2.1), (9, .int j3.2.2), (10, .int s.2.2.2), (11, .int x12)]) rfl (l_X12_ear_325 hZ (fun e13 H => ?_) FU _ H)
        · obtain ⟨x14, ex14, H⟩ := ok_bind H
          refine r_iincE (w := (J 1)) hZ dX12_ear_417 (by decide) rfl (by decide) ex14 (r_pick [0, 2, 4, 6, 7, 8, 9, 10] (ls' := [(0, .ref p0), (2, .int p2), (4, .long p4), (6, .int p6), (7, .int e13.1), (8, .int e13.2.1), (9, .int e13.2.2), (10, .int x14)]) rfl ?_)
          refine r_goto (tgt := 268) hZ dX12_ear_420 (by decide) ?_
          exact r_pick [0, 2, 4, 6, 7, 8, 9, 10] (ls' := [(0, .ref p0), (2, .int p2), (4, .long p4), (6, .int p6), (7, .int e13.1), (8, .int e13.2.1), (9, .int e13.2.2), (10, .int x14)]) rfl (ih _ (ki_l H))
      · refine r_if_ne (tgt := 319) hZ dX12_ear_285 (by decide) (fun c11 => ?_) (fun c11 => ?_)
        · have H := ok_f H c11
          have H := ok_some H
          exact r_pick [0, 2, 4, 6, 7, 8, 9, 10] (ls' := [(0, .ref p0), (2, .int p2), (4, .long p4), (6, .int p6), (7, .int s.1), (8, .int s.2.1), (9, .int s.2.2.1), (10, .int s.2.2.2)]) rfl H
        · have H := ok_t H c11
          obtain ⟨x4, ex4, H⟩ := ok_bind H
          refine r_iincE (w := (J 1)) hZ dX12_ear_288 (by decide) rfl (by decide) ex4 (r_pick [0, 2, 4, 6, 7, 8, 9, 10] (ls' := [(0, .ref p0), (2, .int p2), (4, .long p4), (6, .int p6), (7, .int x4), (8, .int s.2.1), (9, .int s.2.2.1), (10, .int s.2.2.2)]) rfl ?_)
          refine r_iload hZ dX12_ear_291 rfl ?_
          refine r_iconst (v := (J 1)) hZ dX12_ear_293 (by decide) ?_
          refine r_aload_n hZ dX12_ear_294 rfl ?_
          obtain ⟨x5, ex5, H⟩ := ok_bind H
          refine r_getR hZ fl_X12_66_11 dX12_ear_295 ex5 ?_
          refine r_iload hZ dX12_ear_298 rfl ?_
          obtain ⟨x6, ex6, H⟩ := ok_bind H
          refine r_aI hZ dX12_ear_300 ex6 ?_
          refine r_ishl hZ dX12_ear_301 ?_
          refine r_iand hZ dX12_ear_302 ?_
          obtain ⟨x7, ex7, H⟩ := ok_bind H
          refine r_topi ex7 ?_
          refine r_istore hZ dX12_ear_303 (by decide) (r_pick [0, 2, 4, 6, 7, 8, 9, 10] (ls' := [(0, .ref p0), (2, .int p2), (4, .long p4), (6, .int p6), (7, .int x4), (8, .int x7), (9, .int s.2.2.1), (10, .int s.2.2.2)]) rfl ?_)
          refine r_iload hZ dX12_ear_305 rfl ?_
          refine r_iconst (v := (J 1)) hZ dX12_ear_307 (by decide) ?_
          refine r_aload_n hZ dX12_ear_308 rfl ?_
          obtain ⟨x8, ex8, H⟩ := ok_bind H
          refine r_getR hZ fl_X12_66_11 dX12_ear_309 ex8 ?_
          refine r_iload hZ dX12_ear_312 rfl ?_
          obtain ⟨x9, ex9, H⟩ := ok_bind H
          refine r_aI hZ dX12_ear_314 ex9 ?_
          refine r_ishl hZ dX12_ear_315 ?_
          refine r_ior hZ dX12_ear_316 ?_
          obtain ⟨x10, ex10, H⟩ := ok_bind H
          refine r_topi ex10 ?_
          refine r_istore hZ dX12_ear_317 (by decide) (r_pick [0, 2, 4, 6, 7, 8, 9, 10] (ls' := [(0, .ref p0), (2, .int p2), (4, .long p4), (6, .int p6), (7, .int x4), (8, .int x7), (9, .int x10), (10, .int s.2.2.2)]) rfl ?_)
          have H := ok_some H
          exact r_pick [0, 2, 4, 6, 7, 8, 9, 10] (ls' := [(0, .ref p0), (2, .int p2), (4, .long p4), (6, .int p6), (7, .int x4), (8, .int x7), (9, .int x10), (10, .int s.2.2.2)]) rfl H
def f_X12_ear  (h : Hp) (a0 : Nat) (a1 : Int32) (a2 : Int32) : Option (Int32 × Hp) :=
  (f_X12_isShelf a1).bind fun r1 =>
  (if r1 = 0 then
    some ((J (-1)), h)
  else
    (f_X12_isIn (a2.toInt64) (K 0) (K 2)).bind fun r2 =>
    (if r2 = 0 then
      some ((J (-1)), h)
    else
      (isO h a0 11).bind fun u3 =>
      (f_X12_wrongRow h a0 a1 (J 0)).bind fun r4 =>
      (if r4 = 0 then
        (gR h a0 11 6).bind fun x5 =>
        (aI h x5 a1).bind fun x6 =>
        (if x6 ≤ (J 60) then
          (some (K 0)).bind fun x7 =>
          (some (J 0)).bind fun x8 =>
          (iter (b_X12_ear_54 h a0 a1 a2) FU (x7, x8)).bind fun e9 =>
          (match e9 with
          | .inl e10 =>
            (some (J 0)).bind fun x11 =>
            (some (J 0)).bind fun x12 =>
            (iter (b_X12_ear_116 a0 a1 a2 e10) FU (x11, x12, h)).bind fun e13 =>
            ((if (lg_cmp e10 (K 0)) = 0 then
              some (J 1)
            else
              some (J 0))).bind fun (j14 : Int32) =>
            ((if (lg_cmp e10 (K 0)) = 0 then
              some (J 0)
            else
              some (J (-1)))).bind fun (j16 : Int32) =>
            (some (J 0)).bind fun x18 =>
            (some (J 0)).bind fun x19 =>
            (iter (b_X12_ear_268 e13.2 a0 a2 e10 e13.1) FU (j14, j16, x18, x19)).bind fun e20 =>
            ((if a2 = 0 then
              some e20.1
            else
              (if a2 = (J 1) then
                (if e20.1 = 0 then
                  some (J 0)
                else
                  some e20.2.1)
              else
                some e20.2.2))).bind fun (j21 : Int32) =>
            some (j21, e13.2)
          | .inr e25 =>
            some ((J (-13)), h))
        else
          some ((J (-13)), h))
      else
        some (r4, h))))
set_option maxRecDepth 100000 in
set_option maxHeartbeats 4000000 in
theorem s_X12_ear {n : Nat} {h : Hp} {a0 : Nat} {a1 : Int32} {a2 : Int32}  {r : Int32 × Hp} (hf : f_X12_ear  h a0 a1 a2 = some r) : Ev 5 yX12_ear cX12_ear 13 (some .int) [.ref a0, .int a1, .int a2] n h (some (.int r.1)) n r.2 := by
  refine Ev_of RX12 rfl (by decide) (Nat.le_of_ble_eq_true rfl) (Nat.le_refl _) (Or.inl rfl) (fun Z hZ hF hN hI => ?_)
  have H : Ok (f_X12_ear  h a0 a1 a2) (fun y => y = r) := ⟨_, hf, rfl⟩
  unfold f_X12_ear at H
  refine r_ls (ls' := [(0, .ref a0), (1, .int a1), (2, .int a2)]) rfl ?_
  refine r_iload_n hZ dX12_ear_0 rfl ?_
  obtain ⟨r1, er1, H⟩ := ok_bind H
  refine r_callS (As := [.int a1]) (rest := []) (st1 := [.int r1]) (N2 := 0) hZ dX12_ear_1 cw_X12_127 (s_X12_isShelf er1) rfl rfl (by decide) (Nat.le_of_ble_eq_true rfl) (Nat.le_refl 0) (Nat.le_refl _) (Or.inl rfl) rfl ?_
  refine r_if_eq (tgt := 19) hZ dX12_ear_4 (by decide) (fun c29 => ?_) (fun c29 => ?_)
  · have H := ok_t H c29
    refine r_iconst (v := (J (-1))) hZ dX12_ear_19 (by decide) ?_
    have H := ok_some H
    subst H
    exact r_iret hZ hF dX12_ear_20
  · have H := ok_f H c29
    refine r_iload_n hZ dX12_ear_7 rfl ?_
    refine r_i2l hZ dX12_ear_8 ?_
    refine r_lconst (v := (K 0)) hZ dX12_ear_9 (by decide) ?_
    refine r_ldc2 (v := (K 2)) hZ wc_X12_166 dX12_ear_10 ?_
    obtain ⟨r2, er2, H⟩ := ok_bind H
    refine r_callS (As := [.long (a2.toInt64), .long (K 0), .long (K 2)]) (rest := []) (st1 := [.int r2]) (N2 := 0) hZ dX12_ear_13 cw_X12_73 (s_X12_isIn er2) rfl rfl (by decide) (Nat.le_of_ble_eq_true rfl) (Nat.le_refl 0) (Nat.le_refl _) (Or.inl rfl) rfl ?_
    refine r_if_ne (tgt := 21) hZ dX12_ear_16 (by decide) (fun c28 => ?_) (fun c28 => ?_)
    · have H := ok_f H c28
      refine r_aload_n hZ dX12_ear_21 rfl ?_
      refine r_iload_n hZ dX12_ear_22 rfl ?_
      refine r_iconst (v := (J 0)) hZ dX12_ear_23 (by decide) ?_
      obtain ⟨u3, eu3, H⟩ := ok_bind H
      obtain ⟨r4, er4, H⟩ := ok_bind H
      refine r_callV (As := [.int a1, .int (J 0)]) (rest := []) (st1 := [.int r4]) (N2 := 0) hZ dX12_ear_24 cw_X12_130_X12 rfl eu3 (s_X12_wrongRow er4) rfl rfl (by decide) (Nat.le_of_ble_eq_true rfl) (Nat.le_refl 0) (Nat.le_refl _) (Or.inl rfl) rfl ?_
      refine r_istore_n hZ dX12_ear_27 (by decide) (r_pick [0, 1, 2, 3] (ls' := [(0, .ref a0), (1, .int a1), (2, .int a2), (3, .int r4)]) rfl ?_)
      refine r_iload_n hZ dX12_ear_28 rfl ?_
      refine r_if_eq (tgt := 34) hZ dX12_ear_29 (by decide) (fun c27 => ?_) (fun c27 => ?_)
      · have H := ok_t H c27
        refine r_aload_n hZ dX12_ear_34 rfl ?_
        obtain ⟨x5, ex5, H⟩ := ok_bind H
        refine r_getR hZ fl_X12_28_11 dX12_ear_35 ex5 ?_
        refine r_iload_n hZ dX12_ear_38 rfl ?_
        obtain ⟨x6, ex6, H⟩ := ok_bind H
        refine r_aI hZ dX12_ear_39 ex6 ?_
        refine r_bipush (v := (J 60)) hZ dX12_ear_40 (by decide) ?_
        refine r_icmp_le (tgt := 48) hZ dX12_ear_42 (by decide) (fun c26 => ?_) (fun c26 => ?_)
        · have H := ok_t H c26
          refine r_lconst (v := (K 0)) hZ dX12_ear_48 (by decide) ?_
          obtain ⟨x7, ex7, H⟩ := ok_bind H
          refine r_topl ex7 ?_
          refine r_lstore hZ dX12_ear_49 (by decide) (r_pick [0, 1, 2, 4] (ls' := [(0, .ref a0), (1, .int a1), (2, .int a2), (4, .long x7)]) rfl ?_)
          refine r_iconst (v := (J 0)) hZ dX12_ear_51 (by decide) ?_
          obtain ⟨x8, ex8, H⟩ := ok_bind H
          refine r_topi ex8 ?_
          refine r_istore hZ dX12_ear_52 (by decide) (r_pick [0, 1, 2, 4, 6] (ls' := [(0, .ref a0), (1, .int a1), (2, .int a2), (4, .long x7), (6, .int x8)]) rfl ?_)
          have H := ok_bindK H
          refine r_pick [0, 1, 2, 4, 6] (ls' := [(0, .ref a0), (1, .int a1), (2, .int a2), (4, .long x7), (6, .int x8)]) rfl (l_X12_ear_54 hZ (fun e10 H => ?_) (fun e25 H => ?_) FU _ H)
          · refine r_iconst (v := (J 0)) hZ dX12_ear_110 (by decide) ?_
            obtain ⟨x11, ex11, H⟩ := ok_bind H
            refine r_topi ex11 ?_
            refine r_istore hZ dX12_ear_111 (by decide) (r_pick [0, 1, 2, 4, 6] (ls' := [(0, .ref a0), (1, .int a1), (2, .int a2), (4, .long e10), (6, .int x11)]) rfl ?_)
            refine r_iconst (v := (J 0)) hZ dX12_ear_113 (by decide) ?_
            obtain ⟨x12, ex12, H⟩ := ok_bind H
            refine r_topi ex12 ?_
            refine r_istore hZ dX12_ear_114 (by decide) (r_pick [0, 1, 2, 4, 6, 7] (ls' := [(0, .ref a0), (1, .int a1), (2, .int a2), (4, .long e10), (6, .int x11), (7, .int x12)]) rfl ?_)
            have H := ok_bindK H
            refine r_pick [0, 1, 2, 4, 6, 7] (ls' := [(0, .ref a0), (1, .int a1), (2, .int a2), (4, .long e10), (6, .int x11), (7, .int x12)]) rfl (l_X12_ear_116 hZ (fun e13 H => ?_) FU _ H)
            · refine r_lload hZ dX12_ear_234 rfl ?_
              refine r_lconst (v := (K 0)) hZ dX12_ear_236 (by decide) ?_
              refine r_lcmp hZ dX12_ear_237 ?_
              refine ok_join (Q := fun j14 : Int32 => R Z 246 [(0, .ref a0), (2, .int a2), (4, .long e10), (6, .int e13.1)] [.int j14] n e13.2 0) H (fun j14 H => ?_) (fun H => ?_)
              · refine r_istore hZ dX12_ear_246 (by decide) (r_pick [0, 2, 4, 6, 7] (ls' := [(0, .ref a0), (2, .int a2), (4, .long e10), (6, .int e13.1), (7, .int j14)]) rfl ?_)
                refine r_lload hZ dX12_ear_248 rfl ?_
                refine r_lconst (v := (K 0)) hZ dX12_ear_250 (by decide) ?_
                refine r_lcmp hZ dX12_ear_251 ?_
                refine ok_join (Q := fun j16 : Int32 => R Z 260 [(0, .ref a0), (2, .int a2), (4, .long e10), (6, .int e13.1), (7, .int j14)] [.int j16] n e13.2 0) H (fun j16 H => ?_) (fun H => ?_)
                · refine r_istore hZ dX12_ear_260 (by decide) (r_pick [0, 2, 4, 6, 7, 8] (ls' := [(0, .ref a0), (2, .int a2), (4, .long e10), (6, .int e13.1), (7, .int j14), (8, .int j16)]) rfl ?_)
                  refine r_iconst (v := (J 0)) hZ dX12_ear_262 (by decide) ?_
                  obtain ⟨x18, ex18, H⟩ := ok_bind H
                  refine r_topi ex18 ?_
                  refine r_istore hZ dX12_ear_263 (by decide) (r_pick [0, 2, 4, 6, 7, 8, 9] (ls' := [(0, .ref a0), (2, .int a2), (4, .long e10), (6, .int e13.1), (7, .int j14), (8, .int j16), (9, .int x18)]) rfl ?_)
                  refine r_iconst (v := (J 0)) hZ dX12_ear_265 (by decide) ?_
                  obtain ⟨x19, ex19, H⟩ := ok_bind H
                  refine r_topi ex19 ?_
                  refine r_istore hZ dX12_ear_266 (by decide) (r_pick [0, 2, 4, 6, 7, 8, 9, 10] (ls' := [(0, .ref a0), (2, .int a2), (4, .long e10), (6, .int e13.1), (7, .int j14), (8, .int j16), (9, .int x18), (10, .int x19)]) rfl ?_)
                  have H := ok_bindK H
                  refine r_pick [0, 2, 4, 6, 7, 8, 9, 10] (ls' := [(0, .ref a0), (2, .int a2), (4, .long e10), (6, .int e13.1), (7, .int j14), (8, .int j16), (9, .int x18), (10, .int x19)]) rfl (l_X12_ear_268 hZ (fun e20 H => ?_) FU _ H)
                  · refine r_iload_n hZ dX12_ear_423 rfl ?_
                    refine ok_join (Q := fun j21 : Int32 => R Z 453 [] [.int j21] n e13.2 0) H (fun j21 H => ?_) (fun H => ?_)
                    · have H := ok_some H
                      subst H
                      exact r_iret hZ hF dX12_ear_453
                    · refine r_if_ne (tgt := 432) hZ dX12_ear_424 (by decide) (fun c24 => ?_) (fun c24 => ?_)
                      · have H := ok_f H c24
                        refine r_iload_n hZ dX12_ear_432 rfl ?_
                        refine r_iconst (v := (J 1)) hZ dX12_ear_433 (by decide) ?_
                        refine r_icmp_ne (tgt := 451) hZ dX12_ear_434 (by decide) (fun c23 => ?_) (fun c23 => ?_)
                        · have H := ok_f H c23
                          refine r_iload hZ dX12_ear_451 rfl ?_
                          have H := ok_some H
                          exact r_pick [] (ls' := []) rfl H
                        · have H := ok_t H c23
                          refine r_iload hZ dX12_ear_437 rfl ?_
                          refine r_if_ne (tgt := 446) hZ dX12_ear_439 (by decide) (fun c22 => ?_) (fun c22 => ?_)
                          · have H := ok_f H c22
                            refine r_iload hZ dX12_ear_446 rfl ?_
                            refine r_goto (tgt := 453) hZ dX12_ear_448 (by decide) ?_
                            have H := ok_some H
                            exact r_pick [] (ls' := []) rfl H
                          · have H := ok_t H c22
                            refine r_iconst (v := (J 0)) hZ dX12_ear_442 (by decide) ?_
                            refine r_goto (tgt := 453) hZ dX12_ear_443 (by decide) ?_
                            have H := ok_some H
                            exact r_pick [] (ls' := []) rfl H
                      · have H := ok_t H c24
                        refine r_iload hZ dX12_ear_427 rfl ?_
                        refine r_goto (tgt := 453) hZ dX12_ear_429 (by decide) ?_
                        have H := ok_some H
                        exact r_pick [] (ls' := []) rfl H
                · refine r_if_ne (tgt := 259) hZ dX12_ear_252 (by decide) (fun c17 => ?_) (fun c17 => ?_)
                  · have H := ok_f H c17
                    refine r_iconst (v := (J (-1))) hZ dX12_ear_259 (by decide) ?_
                    have H := ok_some H
                    exact r_pick [0, 2, 4, 6, 7] (ls' := [(0, .ref a0), (2, .int a2), (4, .long e10), (6, .int e13.1), (7, .int j14)]) rfl H
                  · have H := ok_t H c17
                    refine r_iconst (v := (J 0)) hZ dX12_ear_255 (by decide) ?_
                    refine r_goto (tgt := 260) hZ dX12_ear_256 (by decide) ?_
                    have H := ok_some H
                    exact r_pick [0, 2, 4, 6, 7] (ls' := [(0, .ref a0), (2, .int a2), (4, .long e10), (6, .int e13.1), (7, .int j14)]) rfl H
              · refine r_if_ne (tgt := 245) hZ dX12_ear_238 (by decide) (fun c15 => ?_) (fun c15 => ?_)
                · have H := ok_f H c15
                  refine r_iconst (v := (J 0)) hZ dX12_ear_245 (by decide) ?_
                  have H := ok_some H
                  exact r_pick [0, 2, 4, 6] (ls' := [(0, .ref a0), (2, .int a2), (4, .long e10), (6, .int e13.1)]) rfl H
                · have H := ok_t H c15
                  refine r_iconst (v := (J 1)) hZ dX12_ear_241 (by decide) ?_
                  refine r_goto (tgt := 246) hZ dX12_ear_242 (by decide) ?_
                  have H := ok_some H
                  exact r_pick [0, 2, 4, 6] (ls' := [(0, .ref a0), (2, .int a2), (4, .long e10), (6, .int e13.1)]) rfl H
          · refine r_bipush (v := (J (-13))) hZ dX12_ear_90 (by decide) ?_
            have H := ok_some H
            subst H
            exact r_iret hZ hF dX12_ear_92
        · have H := ok_f H c26
          refine r_bipush (v := (J (-13))) hZ dX12_ear_45 (by decide) ?_
          have H := ok_some H
          subst H
          exact r_iret hZ hF dX12_ear_47
      · have H := ok_f H c27
        refine r_iload_n hZ dX12_ear_32 rfl ?_
        have H := ok_some H
        subst H
        exact r_iret hZ hF dX12_ear_33
    · have H := ok_t H c28
      refine r_iconst (v := (J (-1))) hZ dX12_ear_19 (by decide) ?_
      have H := ok_some H
      subst H
      exact r_iret hZ hF dX12_ear_20
def b_X12_bestShift_64 (p0 : Nat) (p1 : Int32) (p2 : Int32) (p3 : Int32) (s : Int32 × Int32 × Int32 × Hp) : Option ((Int32 × Int32 × Int32 × Hp) ⊕ ((Int32 × Hp))) :=
  (if (J 16) < s.2.2.1 then
    some (.inr ((s.1, s.2.2.2)))
  else
    (nz (J 2)).bind fun u1 =>
    ((if (s.2.2.1 - s.2.2.1 / (J 2) * (J 2)) = (J 1) then
      (nz (J 2)).bind fun u4 =>
      some ((s.2.2.1 + (J 1)) / (J 2))
    else
      (nz (J 2)).bind fun u3 =>
      some ((-s.2.2.1) / (J 2)))).bind fun (j2 : Int32) =>
    (isO s.2.2.2 p0 11).bind fun u6 =>
    (f_X12_cuts s.2.2.2 p0 p2 j2 p3).bind fun r7 =>
    (isO r7 p0 11).bind fun u8 =>
    (f_X12_meshOf r7 p0 p1 (J 0)).bind fun r9 =>
    (isO r7 p0 11).bind fun u10 =>
    (f_X12_puts r7 p0 r9).bind fun r11 =>
    (isO r11 p0 11).bind fun u12 =>
    (f_X12_jamOf r11 p0 p1).bind fun r13 =>
    ((if 0 ≤ r13 then
      some (s.1, s.2.1)
    else
      (if s.1 = (J (-4000)) then
        (isO r11 p0 11).bind fun u15 =>
        (f_X12_evenOf r11 p0 p1).bind fun r16 =>
        some (j2, r16)
      else
        (isO r11 p0 11).bind fun u17 =>
        (f_X12_evenOf r11 p0 p1).bind fun r18 =>
        (if r18 < s.2.1 then
          (isO r11 p0 11).bind fun u19 =>
          (f_X12_evenOf r11 p0 p1).bind fun r20 =>
          some (j2, r20)
        else
          some (s.1, s.2.1))))).bind fun (j14 : Int32 × Int32) =>
    (some (s.2.2.1 + (J 1))).bind fun x24 =>
    some (.inl (j14.1, j14.2, x24, r11)))
set_option maxRecDepth 100000 in
set_option maxHeartbeats 4000000 in
theorem l_X12_bestShift_64 {Z : Zc} (hZ : Fx cX12_bestShift RX12 9 8 0 Z) {n : Nat} {p0 : Nat} {p1 : Int32} {p2 : Int32} {p3 : Int32} {P : ((Int32 × Hp)) → Prop} (hx0 : ∀ e : Int32 × Hp, P (e) → R Z 159 [(0, .ref p0), (5, .int e.1)] [] n e.2 0) : ∀ (m : Nat) (s : Int32 × Int32 × Int32 × Hp), Ok (iter (b_X12_bestShift_64 p0 p1 p2 p3) m s) P → R Z 64 [(0, .ref p0), (1, .int p1), (2, .int p2), (3, .int p3), (5, .int s.1), (6, .int s.2.1), (7, .int s.2.2.1)] [] n s.2.2.2 0 := by
  intro m
  induction m with
  | zero => exact fun s H => ok_iter0 H
  | succ m ih =>
    intro s H
    have H := ok_iter H
    unfold b_X12_bestShift_64 at H
    refine r_iload hZ dX12_bestShift_64 rfl ?_
    refine r_bipush (v := (J 16)) hZ dX12_bestShift_66 (by decide) ?_
    refine r_icmp_gt (tgt := 159) hZ dX12_bestShift_68 (by decide) (fun c25 => ?_) (fun c25 => ?_)
    · have H := ok_t H c25
      exact r_pick [0, 5] (ls' := [(0, .ref p0), (5, .int s.1)]) rfl (hx0 _ (ki_r H))
    · have H := ok_f H c25
      refine r_iload hZ dX12_bestShift_71 rfl ?_
      refine r_iconst (v := (J 2)) hZ dX12_bestShift_73 (by decide) ?_
      obtain ⟨u1, eu1, H⟩ := ok_bind H
      refine r_irem hZ dX12_bestShift_74 (nz_ne eu1) ?_
      refine r_iconst (v := (J 1)) hZ dX12_bestShift_75 (by decide) ?_
      refine ok_join (Q := fun j2 : Int32 => R Z 93 [(0, .ref p0), (1, .int p1), (2, .int p2), (3, .int p3), (5, .int s.1), (6, .int s.2.1), (7, .int s.2.2.1)] [.int j2] n s.2.2.2 0) H (fun j2 H => ?_) (fun H => ?_)
      · refine r_istore hZ dX12_bestShift_93 (by decide) (r_pick [0, 1, 2, 3, 5, 6, 7, 8] (ls' := [(0, .ref p0), (1, .int p1), (2, .int p2), (3, .int p3), (5, .int s.1), (6, .int s.2.1), (7, .int s.2.2.1), (8, .int j2)]) rfl ?_)
        refine r_aload_n hZ dX12_bestShift_95 rfl ?_
        refine r_iload_n hZ dX12_bestShift_96 rfl ?_
        refine r_iload hZ dX12_bestShift_97 rfl ?_
        refine r_iload_n hZ dX12_bestShift_99 rfl ?_
        obtain ⟨u6, eu6, H⟩ := ok_bind H
        obtain ⟨r7, er7, H⟩ := ok_bind H
        refine r_callV (As := [.int p2, .int j2, .int p3]) (rest := []) (st1 := []) (N2 := 0) hZ dX12_bestShift_100 cw_X12_217_X12 rfl eu6 (s_X12_cuts er7) rfl rfl (by decide) (Nat.le_of_ble_eq_true rfl) (Nat.le_refl 0) (Nat.le_refl _) (Or.inl rfl) rfl ?_
        refine r_aload_n hZ dX12_bestShift_103 rfl ?_
        refine r_aload_n hZ dX12_bestShift_104 rfl ?_
        refine r_iload_n hZ dX12_bestShift_105 rfl ?_
        refine r_iconst (v := (J 0)) hZ dX12_bestShift_106 (by decide) ?_
        obtain ⟨u8, eu8, H⟩ := ok_bind H
        obtain ⟨r9, er9, H⟩ := ok_bind H
        refine r_callV (As := [.int p1, .int (J 0)]) (rest := [.ref p0]) (st1 := [.int r9, .ref p0]) (N2 := 0) hZ dX12_bestShift_107 cw_X12_118_X12 rfl eu8 (s_X12_meshOf er9) rfl rfl (by decide) (Nat.le_of_ble_eq_true rfl) (Nat.le_refl 0) (Nat.le_refl _) (Or.inl rfl) rfl ?_
        obtain ⟨u10, eu10, H⟩ := ok_bind H
        obtain ⟨r11, er11, H⟩ := ok_bind H
        refine r_callV (As := [.int r9]) (rest := []) (st1 := []) (N2 := 0) hZ dX12_bestShift_110 cw_X12_220_X12 rfl eu10 (s_X12_puts er11) rfl rfl (by decide) (Nat.le_of_ble_eq_true rfl) (Nat.le_refl 0) (Nat.le_refl _) (Or.inl rfl) rfl ?_
        refine r_aload_n hZ dX12_bestShift_113 rfl ?_
        refine r_iload_n hZ dX12_bestShift_114 rfl ?_
        obtain ⟨u12, eu12, H⟩ := ok_bind H
        obtain ⟨r13, er13, H⟩ := ok_bind H
        refine r_callV (As := [.int p1]) (rest := []) (st1 := [.int r13]) (N2 := 0) hZ dX12_bestShift_115 cw_X12_237_X12 rfl eu12 (s_X12_jamOf er13) rfl rfl (by decide) (Nat.le_of_ble_eq_true rfl) (Nat.le_refl 0) (Nat.le_refl _) (Or.inl rfl) rfl ?_
        refine ok_join (Q := fun j14 : Int32 × Int32 => R Z 153 [(0, .ref p0), (1, .int p1), (2, .int p2), (3, .int p3), (5, .int j14.1), (6, .int j14.2), (7, .int s.2.2.1)] [] n r11 0) H (fun j14 H => ?_) (fun H => ?_)
        · obtain ⟨x24, ex24, H⟩ := ok_bind H
          refine r_iincE (w := (J 1)) hZ dX12_bestShift_153 (by decide) rfl (by decide) ex24 (r_pick [0, 1, 2, 3, 5, 6, 7] (ls' := [(0, .ref p0), (1, .int p1), (2, .int p2), (3, .int p3), (5, .int j14.1), (6, .int j14.2), (7, .int x24)]) rfl ?_)
          refine r_goto (tgt := 64) hZ dX12_bestShift_156 (by decide) ?_
          exact r_pick [0, 1, 2, 3, 5, 6, 7] (ls' := [(0, .ref p0), (1, .int p1), (2, .int p2), (3, .int p3), (5, .int j14.1), (6, .int j14.2), (7, .int x24)]) rfl (ih _ (ki_l H))
        · refine r_if_ge (tgt := 153) hZ dX12_bestShift_118 (by decide) (fun c23 => ?_) (fun c23 => ?_)
          · have H := ok_t H c23
            have H := ok_some H
            exact r_pick [0, 1, 2, 3, 5, 6, 7] (ls' := [(0, .ref p0), (1, .int p1), (2, .int p2), (3, .int p3), (5, .int s.1), (6, .int s.2.1), (7, .int s.2.2.1)]) rfl H
          · have H := ok_f H c23
            refine r_iload hZ dX12_bestShift_121 rfl ?_
            refine r_sipush (v := (J (-4000))) hZ dX12_bestShift_123 (by decide) ?_
            refine r_icmp_eq (tgt := 142) hZ dX12_bestShift_126 (by decide) (fun c22 => ?_) (fun c22 => ?_)
            · have H := ok_t H c22
              refine r_iload hZ dX12_bestShift_142 rfl ?_
              refine r_istore hZ dX12_bestShift_144 (by decide) (r_pick [0, 1, 2, 3, 5, 7] (ls' := [(0, .ref p0), (1, .int p1), (2, .int p2), (3, .int p3), (5, .int j2), (7, .int s.2.2.1)]) rfl ?_)
              refine r_aload_n hZ dX12_bestShift_146 rfl ?_
              refine r_iload_n hZ dX12_bestShift_147 rfl ?_
              obtain ⟨u15, eu15, H⟩ := ok_bind H
              obtain ⟨r16, er16, H⟩ := ok_bind H
              refine r_callV (As := [.int p1]) (rest := []) (st1 := [.int r16]) (N2 := 0) hZ dX12_bestShift_148 cw_X12_243_X12 rfl eu15 (s_X12_evenOf er16) rfl rfl (by decide) (Nat.le_of_ble_eq_true rfl) (Nat.le_refl 0) (Nat.le_refl _) (Or.inl rfl) rfl ?_
              refine r_istore hZ dX12_bestShift_151 (by decide) (r_pick [0, 1, 2, 3, 5, 6, 7] (ls' := [(0, .ref p0), (1, .int p1), (2, .int p2), (3, .int p3), (5, .int j2), (6, .int r16), (7, .int s.2.2.1)]) rfl ?_)
              have H := ok_some H
              exact r_pick [0, 1, 2, 3, 5, 6, 7] (ls' := [(0, .ref p0), (1, .int p1), (2, .int p2), (3, .int p3), (5, .int j2), (6, .int r16), (7, .int s.2.2.1)]) rfl H
            · have H := ok_f H c22
              refine r_aload_n hZ dX12_bestShift_129 rfl ?_
              refine r_iload_n hZ dX12_bestShift_130 rfl ?_
              obtain ⟨u17, eu17, H⟩ := ok_bind H
              obtain ⟨r18, er18, H⟩ := ok_bind H
              refine r_callV (As := [.int p1]) (rest := []) (st1 := [.int r18]) (N2 := 0) hZ dX12_bestShift_131 cw_X12_243_X12 rfl eu17 (s_X12_evenOf er18) rfl rfl (by decide) (Nat.le_of_ble_eq_true rfl) (Nat.le_refl 0) (Nat.le_refl _) (Or.inl rfl) rfl ?_
              refine r_iload hZ dX12_bestShift_134 rfl ?_
              refine r_icmp_lt (tgt := 142) hZ dX12_bestShift_136 (by decide) (fun c21 => ?_) (fun c21 => ?_)
              · have H := ok_t H c21
                refine r_iload hZ dX12_bestShift_142 rfl ?_
                refine r_istore hZ dX12_bestShift_144 (by decide) (r_pick [0, 1, 2, 3, 5, 7] (ls' := [(0, .ref p0), (1, .int p1), (2, .int p2), (3, .int p3), (5, .int j2), (7, .int s.2.2.1)]) rfl ?_)
                refine r_aload_n hZ dX12_bestShift_146 rfl ?_
                refine r_iload_n hZ dX12_bestShift_147 rfl ?_
                obtain ⟨u19, eu19, H⟩ := ok_bind H
                obtain ⟨r20, er20, H⟩ := ok_bind H
                refine r_callV (As := [.int p1]) (rest := []) (st1 := [.int r20]) (N2 := 0) hZ dX12_bestShift_148 cw_X12_243_X12 rfl eu19 (s_X12_evenOf er20) rfl rfl (by decide) (Nat.le_of_ble_eq_true rfl) (Nat.le_refl 0) (Nat.le_refl _) (Or.inl rfl) rfl ?_
                refine r_istore hZ dX12_bestShift_151 (by decide) (r_pick [0, 1, 2, 3, 5, 6, 7] (ls' := [(0, .ref p0), (1, .int p1), (2, .int p2), (3, .int p3), (5, .int j2), (6, .int r20), (7, .int s.2.2.1)]) rfl ?_)
                have H := ok_some H
                exact r_pick [0, 1, 2, 3, 5, 6, 7] (ls' := [(0, .ref p0), (1, .int p1), (2, .int p2), (3, .int p3), (5, .int j2), (6, .int r20), (7, .int s.2.2.1)]) rfl H
              · have H := ok_f H c21
                refine r_goto (tgt := 153) hZ dX12_bestShift_139 (by decide) ?_
                have H := ok_some H
                exact r_pick [0, 1, 2, 3, 5, 6, 7] (ls' := [(0, .ref p0), (1, .int p1), (2, .int p2), (3, .int p3), (5, .int s.1), (6, .int s.2.1), (7, .int s.2.2.1)]) rfl H
      · refine r_icmp_ne (tgt := 88) hZ dX12_bestShift_76 (by decide) (fun c5 => ?_) (fun c5 => ?_)
        · have H := ok_f H c5
          refine r_iload hZ dX12_bestShift_88 rfl ?_
          refine r_ineg hZ dX12_bestShift_90 ?_
          refine r_iconst (v := (J 2)) hZ dX12_bestShift_91 (by decide) ?_
          obtain ⟨u3, eu3, H⟩ := ok_bind H
          refine r_idiv hZ dX12_bestShift_92 (nz_ne eu3) ?_
          have H := ok_some H
          exact r_pick [0, 1, 2, 3, 5, 6, 7] (ls' := [(0, .ref p0), (1, .int p1), (2, .int p2), (3, .int p3), (5, .int s.1), (6, .int s.2.1), (7, .int s.2.2.1)]) rfl H
        · have H := ok_t H c5
          refine r_iload hZ dX12_bestShift_79 rfl ?_
          refine r_iconst (v := (J 1)) hZ dX12_bestShift_81 (by decide) ?_
          refine r_iadd hZ dX12_bestShift_82 ?_
          refine r_iconst (v := (J 2)) hZ dX12_bestShift_83 (by decide) ?_
          obtain ⟨u4, eu4, H⟩ := ok_bind H
          refine r_idiv hZ dX12_bestShift_84 (nz_ne eu4) ?_
          refine r_goto (tgt := 93) hZ dX12_bestShift_85 (by decide) ?_
          have H := ok_some H
          exact r_pick [0, 1, 2, 3, 5, 6, 7] (ls' := [(0, .ref p0), (1, .int p1), (2, .int p2), (3, .int p3), (5, .int s.1), (6, .int s.2.1), (7, .int s.2.2.1)]) rfl H
def f_X12_bestShift  (h : Hp) (a0 : Nat) (a1 : Int32) (a2 : Int32) (a3 : Int32) : Option (Int32 × Hp) :=
  (isO h a0 11).bind fun u1 =>
  (f_X12_isMesh h a0 a1).bind fun r2 =>
  (if r2 = 0 then
    some ((J (-1000000001)), h)
  else
    (f_X12_isShelf a2).bind fun r3 =>
    (if r3 = 0 then
      some ((J (-1000000001)), h)
    else
      (f_X12_isIn (a3.toInt64) (K 1) (K 32)).bind fun r4 =>
      (if r4 = 0 then
        some ((J (-1000000001)), h)
      else
        (isO h a0 11).bind fun u5 =>
        (f_X12_wrongCutter h a0 a2).bind fun r6 =>
        (if r6 = 0 then
          (isO h a0 11).bind fun u7 =>
          (f_X12_saves h a0).bind fun r8 =>
          (some (J (-4000))).bind fun x9 =>
          (some (J 0)).bind fun x10 =>
          (some (J 0)).bind fun x11 =>
          (iter (b_X12_bestShift_64 a0 a1 a2 a3) FU (x9, x10, x11, r8)).bind fun e12 =>
          (isO e12.2 a0 11).bind fun u13 =>
          (f_X12_back e12.2 a0).bind fun r14 =>
          some (e12.1, r14)
        else
          some (((J (-1000000000)) + r6), h)))))
set_option maxRecDepth 100000 in
set_option maxHeartbeats 4000000 in
theorem s_X12_bestShift {n : Nat} {h : Hp} {a0 : Nat} {a1 : Int32} {a2 : Int32} {a3 : Int32}  {r : Int32 × Hp} (hf : f_X12_bestShift  h a0 a1 a2 a3 = some r) : Ev 8 yX12_bestShift cX12_bestShift 9 (some .int) [.ref a0, .int a1, .int a2, .int a3] n h (some (.int r.1)) n r.2 := by
  refine Ev_of RX12 rfl (by decide) (Nat.le_of_ble_eq_true rfl) (Nat.le_refl _) (Or.inl rfl) (fun Z hZ hF hN hI => ?_)
  have H : Ok (f_X12_bestShift  h a0 a1 a2 a3) (fun y => y = r) := ⟨_, hf, rfl⟩
  unfold f_X12_bestShift at H
  refine r_ls (ls' := [(0, .ref a0), (1, .int a1), (2, .int a2), (3, .int a3)]) rfl ?_
  refine r_aload_n hZ dX12_bestShift_0 rfl ?_
  refine r_iload_n hZ dX12_bestShift_1 rfl ?_
  obtain ⟨u1, eu1, H⟩ := ok_bind H
  obtain ⟨r2, er2, H⟩ := ok_bind H
  refine r_callV (As := [.int a1]) (rest := []) (st1 := [.int r2]) (N2 := 0) hZ dX12_bestShift_2 cw_X12_163_X12 rfl eu1 (s_X12_isMesh er2) rfl rfl (by decide) (Nat.le_of_ble_eq_true rfl) (Nat.le_refl 0) (Nat.le_refl _) (Or.inl rfl) rfl ?_
  refine r_if_eq (tgt := 27) hZ dX12_bestShift_5 (by decide) (fun c18 => ?_) (fun c18 => ?_)
  · have H := ok_t H c18
    refine r_ldc (v := (J (-1000000001))) hZ wc_X12_236 dX12_bestShift_27 ?_
    have H := ok_some H
    subst H
    exact r_iret hZ hF dX12_bestShift_29
  · have H := ok_f H c18
    refine r_iload_n hZ dX12_bestShift_8 rfl ?_
    obtain ⟨r3, er3, H⟩ := ok_bind H
    refine r_callS (As := [.int a2]) (rest := []) (st1 := [.int r3]) (N2 := 0) hZ dX12_bestShift_9 cw_X12_127 (s_X12_isShelf er3) rfl rfl (by decide) (Nat.le_of_ble_eq_true rfl) (Nat.le_refl 0) (Nat.le_refl _) (Or.inl rfl) rfl ?_
    refine r_if_eq (tgt := 27) hZ dX12_bestShift_12 (by decide) (fun c17 => ?_) (fun c17 => ?_)
    · have H := ok_t H c17
      refine r_ldc (v := (J (-1000000001))) hZ wc_X12_236 dX12_bestShift_27 ?_
      have H := ok_some H
      subst H
      exact r_iret hZ hF dX12_bestShift_29
    · have H := ok_f H c17
      refine r_iload_n hZ dX12_bestShift_15 rfl ?_
      refine r_i2l hZ dX12_bestShift_16 ?_
      refine r_lconst (v := (K 1)) hZ dX12_bestShift_17 (by decide) ?_
      refine r_ldc2 (v := (K 32)) hZ wc_X12_212 dX12_bestShift_18 ?_
      obtain ⟨r4, er4, H⟩ := ok_bind H
      refine r_callS (As := [.long (a3.toInt64), .long (K 1), .long (K 32)]) (rest := []) (st1 := [.int r4]) (N2 := 0) hZ dX12_bestShift_21 cw_X12_73 (s_X12_isIn er4) rfl rfl (by decide) (Nat.le_of_ble_eq_true rfl) (Nat.le_refl 0) (Nat.le_refl _) (Or.inl rfl) rfl ?_
      refine r_if_ne (tgt := 30) hZ dX12_bestShift_24 (by decide) (fun c16 => ?_) (fun c16 => ?_)
      · have H := ok_f H c16
        refine r_aload_n hZ dX12_bestShift_30 rfl ?_
        refine r_iload_n hZ dX12_bestShift_31 rfl ?_
        obtain ⟨u5, eu5, H⟩ := ok_bind H
        obtain ⟨r6, er6, H⟩ := ok_bind H
        refine r_callV (As := [.int a2]) (rest := []) (st1 := [.int r6]) (N2 := 0) hZ dX12_bestShift_32 cw_X12_214_X12 rfl eu5 (s_X12_wrongCutter er6) rfl rfl (by decide) (Nat.le_of_ble_eq_true rfl) (Nat.le_refl 0) (Nat.le_refl _) (Or.inl rfl) rfl ?_
        refine r_istore hZ dX12_bestShift_35 (by decide) (r_pick [0, 1, 2, 3, 4] (ls' := [(0, .ref a0), (1, .int a1), (2, .int a2), (3, .int a3), (4, .int r6)]) rfl ?_)
        refine r_iload hZ dX12_bestShift_37 rfl ?_
        refine r_if_eq (tgt := 49) hZ dX12_bestShift_39 (by decide) (fun c15 => ?_) (fun c15 => ?_)
        · have H := ok_t H c15
          refine r_aload_n hZ dX12_bestShift_49 rfl ?_
          obtain ⟨u7, eu7, H⟩ := ok_bind H
          obtain ⟨r8, er8, H⟩ := ok_bind H
          refine r_callV (As := []) (rest := []) (st1 := []) (N2 := 0) hZ dX12_bestShift_50 cw_X12_259_X12 rfl eu7 (s_X12_saves er8) rfl rfl (by decide) (Nat.le_of_ble_eq_true rfl) (Nat.le_refl 0) (Nat.le_refl _) (Or.inl rfl) rfl ?_
          refine r_sipush (v := (J (-4000))) hZ dX12_bestShift_53 (by decide) ?_
          obtain ⟨x9, ex9, H⟩ := ok_bind H
          refine r_topi ex9 ?_
          refine r_istore hZ dX12_bestShift_56 (by decide) (r_pick [0, 1, 2, 3, 5] (ls' := [(0, .ref a0), (1, .int a1), (2, .int a2), (3, .int a3), (5, .int x9)]) rfl ?_)
          refine r_iconst (v := (J 0)) hZ dX12_bestShift_58 (by decide) ?_
          obtain ⟨x10, ex10, H⟩ := ok_bind H
          refine r_topi ex10 ?_
          refine r_istore hZ dX12_bestShift_59 (by decide) (r_pick [0, 1, 2, 3, 5, 6] (ls' := [(0, .ref a0), (1, .int a1), (2, .int a2), (3, .int a3), (5, .int x9), (6, .int x10)]) rfl ?_)
          refine r_iconst (v := (J 0)) hZ dX12_bestShift_61 (by decide) ?_
          obtain ⟨x11, ex11, H⟩ := ok_bind H
          refine r_topi ex11 ?_
          refine r_istore hZ dX12_bestShift_62 (by decide) (r_pick [0, 1, 2, 3, 5, 6, 7] (ls' := [(0, .ref a0), (1, .int a1), (2, .int a2), (3, .int a3), (5, .int x9), (6, .int x10), (7, .int x11)]) rfl ?_)
          have H := ok_bindK H
          refine r_pick [0, 1, 2, 3, 5, 6, 7] (ls' := [(0, .ref a0), (1, .int a1), (2, .int a2), (3, .int a3), (5, .int x9), (6, .int x10), (7, .int x11)]) rfl (l_X12_bestShift_64 hZ (fun e12 H => ?_) FU _ H)
          · refine r_aload_n hZ dX12_bestShift_159 rfl ?_
            obtain ⟨u13, eu13, H⟩ := ok_bind H
            obtain ⟨r14, er14, H⟩ := ok_bind H
            refine r_callV (As := []) (rest := []) (st1 := []) (N2 := 0) hZ dX12_bestShift_160 cw_X12_262_X12 rfl eu13 (s_X12_back er14) rfl rfl (by decide) (Nat.le_of_ble_eq_true rfl) (Nat.le_refl 0) (Nat.le_refl _) (Or.inl rfl) rfl ?_
            refine r_iload hZ dX12_bestShift_163 rfl ?_
            have H := ok_some H
            subst H
            exact r_iret hZ hF dX12_bestShift_165
        · have H := ok_f H c15
          refine r_ldcw (v := (J (-1000000000))) hZ wc_X12_344 dX12_bestShift_42 ?_
          refine r_iload hZ dX12_bestShift_45 rfl ?_
          refine r_iadd hZ dX12_bestShift_47 ?_
          have H := ok_some H
          subst H
          exact r_iret hZ hF dX12_bestShift_48
      · have H := ok_t H c16
        refine r_ldc (v := (J (-1000000001))) hZ wc_X12_236 dX12_bestShift_27 ?_
        have H := ok_some H
        subst H
        exact r_iret hZ hF dX12_bestShift_29
def b_X12_readBack_78 (h : Hp) (p0 : Nat) (p1 : Int32) (p2 : Int32) (p3 : Int32) (p4 : Int32) (p6 : Int32) (p7 : Int32) (s : Int32 × Int32) : Option ((Int32 × Int32) ⊕ ((Int32))) :=
  (if (J 16) ≤ s.2 then
    some (.inr (s.1))
  else
    ((if s.1 = 0 then
      some (J 0)
    else
      (gR h p0 11 24).bind fun x2 =>
      (aI h x2 s.2).bind fun x3 =>
      (isO h p0 11).bind fun u4 =>
      (f_X12_widthOf h p0 p1 s.2).bind fun r5 =>
      (if x3 = r5 then
        some (J 1)
      else
        some (J 0)))).bind fun (j1 : Int32) =>
    (some (s.2 + (J 1))).bind fun x8 =>
    some (.inl (j1, x8)))
set_option maxRecDepth 100000 in
set_option maxHeartbeats 4000000 in
theorem l_X12_readBack_78 {Z : Zc} (hZ : Fx cX12_readBack RX12 10 6 0 Z) {n : Nat} {h : Hp} {p0 : Nat} {p1 : Int32} {p2 : Int32} {p3 : Int32} {p4 : Int32} {p6 : Int32} {p7 : Int32} {P : ((Int32)) → Prop} (hx0 : ∀ e : Int32, P (e) → R Z 120 [(0, .ref p0), (1, .int p1), (2, .int p2), (3, .int p3), (4, .int p4), (6, .int p6), (7, .int p7), (8, .int e)] [] n h 0) : ∀ (m : Nat) (s : Int32 × Int32), Ok (iter (b_X12_readBack_78 h p0 p1 p2 p3 p4 p6 p7) m s) P → R Z 78 [(0, .ref p0), (1, .int p1), (2, .int p2), (3, .int p3), (4, .int p4), (6, .int p6), (7, .int p7), (8, .int s.1), (9, .int s.2)] [] n h 0 := by
  intro m
  induction m with
  | zero => exact fun s H => ok_iter0 H
  | succ m ih =>
    intro s H
    have H := ok_iter H
    unfold b_X12_readBack_78 at H
    refine r_iload hZ dX12_readBack_78 rfl ?_
    refine r_bipush (v := (J 16)) hZ dX12_readBack_80 (by decide) ?_
    refine r_icmp_ge (tgt := 120) hZ dX12_readBack_82 (by decide) (fun c9 => ?_) (fun c9 => ?_)
    · have H := ok_t H c9
      exact r_pick [0, 1, 2, 3, 4, 6, 7, 8] (ls' := [(0, .ref p0), (1, .int p1), (2, .int p2), (3, .int p3), (4, .int p4), (6, .int p6), (7, .int p7), (8, .int s.1)]) rfl (hx0 _ (ki_r H))
    · have H := ok_f H c9
      refine r_iload hZ dX12_readBack_85 rfl ?_
      refine ok_join (Q := fun j1 : Int32 => R Z 112 [(0, .ref p0), (1, .int p1), (2, .int p2), (3, .int p3), (4, .int p4), (6, .int p6), (7, .int p7), (9, .int s.2)] [.int j1] n h 0) H (fun j1 H => ?_) (fun H => ?_)
      · refine r_istore hZ dX12_readBack_112 (by decide) (r_pick [0, 1, 2, 3, 4, 6, 7, 8, 9] (ls' := [(0, .ref p0), (1, .int p1), (2, .int p2), (3, .int p3), (4, .int p4), (6, .int p6), (7, .int p7), (8, .int j1), (9, .int s.2)]) rfl ?_)
        obtain ⟨x8, ex8, H⟩ := ok_bind H
        refine r_iincE (w := (J 1)) hZ dX12_readBack_114 (by decide) rfl (by decide) ex8 (r_pick [0, 1, 2, 3, 4, 6, 7, 8, 9] (ls' := [(0, .ref p0), (1, .int p1), (2, .int p2), (3, .int p3), (4, .int p4), (6, .int p6), (7, .int p7), (8, .int j1), (9, .int x8)]) rfl ?_)
        refine r_goto (tgt := 78) hZ dX12_readBack_117 (by decide) ?_
        exact r_pick [0, 1, 2, 3, 4, 6, 7, 8, 9] (ls' := [(0, .ref p0), (1, .int p1), (2, .int p2), (3, .int p3), (4, .int p4), (6, .int p6), (7, .int p7), (8, .int j1), (9, .int x8)]) rfl (ih _ (ki_l H))
      · refine r_if_eq (tgt := 111) hZ dX12_readBack_87 (by decide) (fun c7 => ?_) (fun c7 => ?_)
        · have H := ok_t H c7
          refine r_iconst (v := (J 0)) hZ dX12_readBack_111 (by decide) ?_
          have H := ok_some H
          exact r_pick [0, 1, 2, 3, 4, 6, 7, 9] (ls' := [(0, .ref p0), (1, .int p1), (2, .int p2), (3, .int p3), (4, .int p4), (6, .int p6), (7, .int p7), (9, .int s.2)]) rfl H
        · have H := ok_f H c7
          refine r_aload_n hZ dX12_readBack_90 rfl ?_
          obtain ⟨x2, ex2, H⟩ := ok_bind H
          refine r_getR hZ fl_X12_60_11 dX12_readBack_91 ex2 ?_
          refine r_iload hZ dX12_readBack_94 rfl ?_
          obtain ⟨x3, ex3, H⟩ := ok_bind H
          refine r_aI hZ dX12_readBack_96 ex3 ?_
          refine r_aload_n hZ dX12_readBack_97 rfl ?_
          refine r_iload_n hZ dX12_readBack_98 rfl ?_
          refine r_iload hZ dX12_readBack_99 rfl ?_
          obtain ⟨u4, eu4, H⟩ := ok_bind H
          obtain ⟨r5, er5, H⟩ := ok_bind H
          refine r_callV (As := [.int p1, .int s.2]) (rest := [.int x3]) (st1 := [.int r5, .int x3]) (N2 := 0) hZ dX12_readBack_101 cw_X12_86_X12 rfl eu4 (s_X12_widthOf er5) rfl rfl (by decide) (Nat.le_of_ble_eq_true rfl) (Nat.le_refl 0) (Nat.le_refl _) (Or.inl rfl) rfl ?_
          refine r_icmp_ne (tgt := 111) hZ dX12_readBack_104 (by decide) (fun c6 => ?_) (fun c6 => ?_)
          · have H := ok_f H c6
            refine r_iconst (v := (J 0)) hZ dX12_readBack_111 (by decide) ?_
            have H := ok_some H
            exact r_pick [0, 1, 2, 3, 4, 6, 7, 9] (ls' := [(0, .ref p0), (1, .int p1), (2, .int p2), (3, .int p3), (4, .int p4), (6, .int p6), (7, .int p7), (9, .int s.2)]) rfl H
          · have H := ok_t H c6
            refine r_iconst (v := (J 1)) hZ dX12_readBack_107 (by decide) ?_
            refine r_goto (tgt := 112) hZ dX12_readBack_108 (by decide) ?_
            have H := ok_some H
            exact r_pick [0, 1, 2, 3, 4, 6, 7, 9] (ls' := [(0, .ref p0), (1, .int p1), (2, .int p2), (3, .int p3), (4, .int p4), (6, .int p6), (7, .int p7), (9, .int s.2)]) rfl H
def b_X12_readBack_57 (p0 : Nat) (p1 : Int32) (p2 : Int32) (p3 : Int32) (p4 : Int32) (s : Int32 × Int32 × Hp) : Option ((Int32 × Int32 × Hp) ⊕ ((Int32 × Hp) ⊕ (Int32 × Hp))) :=
  (if (J 8) < s.2.1 then
    some (.inr (.inl (s.1, s.2.2)))
  else
    (isO s.2.2 p0 11).bind fun u1 =>
    (f_X12_cuts s.2.2 p0 p2 s.2.1 p3).bind fun r2 =>
    (some (J 1)).bind fun x3 =>
    (some (J 0)).bind fun x4 =>
    (iter (b_X12_readBack_78 r2 p0 p1 p2 p3 p4 s.1 s.2.1) FU (x3, x4)).bind fun e5 =>
    (if e5 = 0 then
      (some (s.2.1 + (J 1))).bind fun x9 =>
      some (.inl (s.1, x9, r2))
    else
      (if s.1 = p4 then
        some (.inr (.inr (s.2.1, r2)))
      else
        (some (s.1 + (J 1))).bind fun x6 =>
        (some (s.2.1 + (J 1))).bind fun x7 =>
        some (.inl (x6, x7, r2)))))
set_option maxRecDepth 100000 in
set_option maxHeartbeats 4000000 in
theorem l_X12_readBack_57 {Z : Zc} (hZ : Fx cX12_readBack RX12 10 6 0 Z) {n : Nat} {p0 : Nat} {p1 : Int32} {p2 : Int32} {p3 : Int32} {p4 : Int32} {P : ((Int32 × Hp) ⊕ (Int32 × Hp)) → Prop} (hx0 : ∀ e : Int32 × Hp, P (.inl e) → R Z 150 [(4, .int p4), (6, .int e.1)] [] n e.2 0) (hx1 : ∀ e : Int32 × Hp, P (.inr e) → R Z 135 [(7, .int e.1)] [] n e.2 0) : ∀ (m : Nat) (s : Int32 × Int32 × Hp), Ok (iter (b_X12_readBack_57 p0 p1 p2 p3 p4) m s) P → R Z 57 [(0, .ref p0), (1, .int p1), (2, .int p2), (3, .int p3), (4, .int p4), (6, .int s.1), (7, .int s.2.1)] [] n s.2.2 0 := by
  intro m
  induction m with
  | zero => exact fun s H => ok_iter0 H
  | succ m ih =>
    intro s H
    have H := ok_iter H
    unfold b_X12_readBack_57 at H
    refine r_iload hZ dX12_readBack_57 rfl ?_
    refine r_bipush (v := (J 8)) hZ dX12_readBack_59 (by decide) ?_
    refine r_icmp_gt (tgt := 150) hZ dX12_readBack_61 (by decide) (fun c11 => ?_) (fun c11 => ?_)
    · have H := ok_t H c11
      exact r_pick [4, 6] (ls' := [(4, .int p4), (6, .int s.1)]) rfl (hx0 _ (ki_r H))
    · have H := ok_f H c11
      refine r_aload_n hZ dX12_readBack_64 rfl ?_
      refine r_iload_n hZ dX12_readBack_65 rfl ?_
      refine r_iload hZ dX12_readBack_66 rfl ?_
      refine r_iload_n hZ dX12_readBack_68 rfl ?_
      obtain ⟨u1, eu1, H⟩ := ok_bind H
      obtain ⟨r2, er2, H⟩ := ok_bind H
      refine r_callV (As := [.int p2, .int s.2.1, .int p3]) (rest := []) (st1 := []) (N2 := 0) hZ dX12_readBack_69 cw_X12_217_X12 rfl eu1 (s_X12_cuts er2) rfl rfl (by decide) (Nat.le_of_ble_eq_true rfl) (Nat.le_refl 0) (Nat.le_refl _) (Or.inl rfl) rfl ?_
      refine r_iconst (v := (J 1)) hZ dX12_readBack_72 (by decide) ?_
      obtain ⟨x3, ex3, H⟩ := ok_bind H
      refine r_topi ex3 ?_
      refine r_istore hZ dX12_readBack_73 (by decide) (r_pick [0, 1, 2, 3, 4, 6, 7, 8] (ls' := [(0, .ref p0), (1, .int p1), (2, .int p2), (3, .int p3), (4, .int p4), (6, .int s.1), (7, .int s.2.1), (8, .int x3)]) rfl ?_)
      refine r_iconst (v := (J 0)) hZ dX12_readBack_75 (by decide) ?_
      obtain ⟨x4, ex4, H⟩ := ok_bind H
      refine r_topi ex4 ?_
      refine r_istore hZ dX12_readBack_76 (by decide) (r_pick [0, 1, 2, 3, 4, 6, 7, 8, 9] (ls' := [(0, .ref p0), (1, .int p1), (2, .int p2), (3, .int p3), (4, .int p4), (6, .int s.1), (7, .int s.2.1), (8, .int x3), (9, .int x4)]) rfl ?_)
      have H := ok_bindK H
      refine r_pick [0, 1, 2, 3, 4, 6, 7, 8, 9] (ls' := [(0, .ref p0), (1, .int p1), (2, .int p2), (3, .int p3), (4, .int p4), (6, .int s.1), (7, .int s.2.1), (8, .int x3), (9, .int x4)]) rfl (l_X12_readBack_78 hZ (fun e5 H => ?_) FU _ H)
      · refine r_iload hZ dX12_readBack_120 rfl ?_
        refine r_if_ne (tgt := 128) hZ dX12_readBack_122 (by decide) (fun c10 => ?_) (fun c10 => ?_)
        · have H := ok_f H c10
          refine r_iload hZ dX12_readBack_128 rfl ?_
          refine r_iload hZ dX12_readBack_130 rfl ?_
          refine r_icmp_ne (tgt := 141) hZ dX12_readBack_132 (by decide) (fun c8 => ?_) (fun c8 => ?_)
          · have H := ok_f H c8
            obtain ⟨x6, ex6, H⟩ := ok_bind H
            refine r_iincE (w := (J 1)) hZ dX12_readBack_141 (by decide) rfl (by decide) ex6 (r_pick [0, 1, 2, 3, 4, 6, 7] (ls' := [(0, .ref p0), (1, .int p1), (2, .int p2), (3, .int p3), (4, .int p4), (6, .int x6), (7, .int s.2.1)]) rfl ?_)
            obtain ⟨x7, ex7, H⟩ := ok_bind H
            refine r_iincE (w := (J 1)) hZ dX12_readBack_144 (by decide) rfl (by decide) ex7 (r_pick [0, 1, 2, 3, 4, 6, 7] (ls' := [(0, .ref p0), (1, .int p1), (2, .int p2), (3, .int p3), (4, .int p4), (6, .int x6), (7, .int x7)]) rfl ?_)
            refine r_goto (tgt := 57) hZ dX12_readBack_147 (by decide) ?_
            exact r_pick [0, 1, 2, 3, 4, 6, 7] (ls' := [(0, .ref p0), (1, .int p1), (2, .int p2), (3, .int p3), (4, .int p4), (6, .int x6), (7, .int x7)]) rfl (ih _ (ki_l H))
          · have H := ok_t H c8
            exact r_pick [7] (ls' := [(7, .int s.2.1)]) rfl (hx1 _ (ki_r H))
        · have H := ok_t H c10
          refine r_goto (tgt := 144) hZ dX12_readBack_125 (by decide) ?_
          obtain ⟨x9, ex9, H⟩ := ok_bind H
          refine r_iincE (w := (J 1)) hZ dX12_readBack_144 (by decide) rfl (by decide) ex9 (r_pick [0, 1, 2, 3, 4, 6, 7] (ls' := [(0, .ref p0), (1, .int p1), (2, .int p2), (3, .int p3), (4, .int p4), (6, .int s.1), (7, .int x9)]) rfl ?_)
          refine r_goto (tgt := 57) hZ dX12_readBack_147 (by decide) ?_
          exact r_pick [0, 1, 2, 3, 4, 6, 7] (ls' := [(0, .ref p0), (1, .int p1), (2, .int p2), (3, .int p3), (4, .int p4), (6, .int s.1), (7, .int x9)]) rfl (ih _ (ki_l H))
def f_X12_readBack  (h : Hp) (a0 : Nat) (a1 : Int32) (a2 : Int32) (a3 : Int32) (a4 : Int32) : Option (Int32 × Hp) :=
  (if a4 < (J (-1)) then
    some ((J (-1)), h)
  else
    (isO h a0 11).bind fun u1 =>
    (f_X12_isGear h a0 a1).bind fun r2 =>
    (if r2 = 0 then
      some ((J (-1)), h)
    else
      (f_X12_isShelf a2).bind fun r3 =>
      (if r3 = 0 then
        some ((J (-1)), h)
      else
        (f_X12_isIn (a3.toInt64) (K 1) (K 32)).bind fun r4 =>
        (if r4 = 0 then
          some ((J (-1)), h)
        else
          (isO h a0 11).bind fun u5 =>
          (f_X12_wrongCutter h a0 a2).bind fun r6 =>
          (if r6 = 0 then
            (some (J 0)).bind fun x7 =>
            (some (J (-8))).bind fun x8 =>
            (iter (b_X12_readBack_57 a0 a1 a2 a3 a4) FU (x7, x8, h)).bind fun e9 =>
            (match e9 with
            | .inl e10 =>
              ((if 0 ≤ a4 then
                some (J (-4))
              else
                some e10.1)).bind fun (j11 : Int32) =>
              some (j11, e10.2)
            | .inr e13 =>
              some ((e13.1 + (J 8)), e13.2))
          else
            some (r6, h))))))
set_option maxRecDepth 100000 in
set_option maxHeartbeats 4000000 in
theorem s_X12_readBack {n : Nat} {h : Hp} {a0 : Nat} {a1 : Int32} {a2 : Int32} {a3 : Int32} {a4 : Int32}  {r : Int32 × Hp} (hf : f_X12_readBack  h a0 a1 a2 a3 a4 = some r) : Ev 6 yX12_readBack cX12_readBack 10 (some .int) [.ref a0, .int a1, .int a2, .int a3, .int a4] n h (some (.int r.1)) n r.2 := by
  refine Ev_of RX12 rfl (by decide) (Nat.le_of_ble_eq_true rfl) (Nat.le_refl _) (Or.inl rfl) (fun Z hZ hF hN hI => ?_)
  have H : Ok (f_X12_readBack  h a0 a1 a2 a3 a4) (fun y => y = r) := ⟨_, hf, rfl⟩
  unfold f_X12_readBack at H
  refine r_ls (ls' := [(0, .ref a0), (1, .int a1), (2, .int a2), (3, .int a3), (4, .int a4)]) rfl ?_
  refine r_iload hZ dX12_readBack_0 rfl ?_
  refine r_iconst (v := (J (-1))) hZ dX12_readBack_2 (by decide) ?_
  refine r_icmp_lt (tgt := 33) hZ dX12_readBack_3 (by decide) (fun c18 => ?_) (fun c18 => ?_)
  · have H := ok_t H c18
    refine r_iconst (v := (J (-1))) hZ dX12_readBack_33 (by decide) ?_
    have H := ok_some H
    subst H
    exact r_iret hZ hF dX12_readBack_34
  · have H := ok_f H c18
    refine r_aload_n hZ dX12_readBack_6 rfl ?_
    refine r_iload_n hZ dX12_readBack_7 rfl ?_
    obtain ⟨u1, eu1, H⟩ := ok_bind H
    obtain ⟨r2, er2, H⟩ := ok_bind H
    refine r_callV (As := [.int a1]) (rest := []) (st1 := [.int r2]) (N2 := 0) hZ dX12_readBack_8 cw_X12_121_X12 rfl eu1 (s_X12_isGear er2) rfl rfl (by decide) (Nat.le_of_ble_eq_true rfl) (Nat.le_refl 0) (Nat.le_refl _) (Or.inl rfl) rfl ?_
    refine r_if_eq (tgt := 33) hZ dX12_readBack_11 (by decide) (fun c17 => ?_) (fun c17 => ?_)
    · have H := ok_t H c17
      refine r_iconst (v := (J (-1))) hZ dX12_readBack_33 (by decide) ?_
      have H := ok_some H
      subst H
      exact r_iret hZ hF dX12_readBack_34
    · have H := ok_f H c17
      refine r_iload_n hZ dX12_readBack_14 rfl ?_
      obtain ⟨r3, er3, H⟩ := ok_bind H
      refine r_callS (As := [.int a2]) (rest := []) (st1 := [.int r3]) (N2 := 0) hZ dX12_readBack_15 cw_X12_127 (s_X12_isShelf er3) rfl rfl (by decide) (Nat.le_of_ble_eq_true rfl) (Nat.le_refl 0) (Nat.le_refl _) (Or.inl rfl) rfl ?_
      refine r_if_eq (tgt := 33) hZ dX12_readBack_18 (by decide) (fun c16 => ?_) (fun c16 => ?_)
      · have H := ok_t H c16
        refine r_iconst (v := (J (-1))) hZ dX12_readBack_33 (by decide) ?_
        have H := ok_some H
        subst H
        exact r_iret hZ hF dX12_readBack_34
      · have H := ok_f H c16
        refine r_iload_n hZ dX12_readBack_21 rfl ?_
        refine r_i2l hZ dX12_readBack_22 ?_
        refine r_lconst (v := (K 1)) hZ dX12_readBack_23 (by decide) ?_
        refine r_ldc2 (v := (K 32)) hZ wc_X12_212 dX12_readBack_24 ?_
        obtain ⟨r4, er4, H⟩ := ok_bind H
        refine r_callS (As := [.long (a3.toInt64), .long (K 1), .long (K 32)]) (rest := []) (st1 := [.int r4]) (N2 := 0) hZ dX12_readBack_27 cw_X12_73 (s_X12_isIn er4) rfl rfl (by decide) (Nat.le_of_ble_eq_true rfl) (Nat.le_refl 0) (Nat.le_refl _) (Or.inl rfl) rfl ?_
        refine r_if_ne (tgt := 35) hZ dX12_readBack_30 (by decide) (fun c15 => ?_) (fun c15 => ?_)
        · have H := ok_f H c15
          refine r_aload_n hZ dX12_readBack_35 rfl ?_
          refine r_iload_n hZ dX12_readBack_36 rfl ?_
          obtain ⟨u5, eu5, H⟩ := ok_bind H
          obtain ⟨r6, er6, H⟩ := ok_bind H
          refine r_callV (As := [.int a2]) (rest := []) (st1 := [.int r6]) (N2 := 0) hZ dX12_readBack_37 cw_X12_214_X12 rfl eu5 (s_X12_wrongCutter er6) rfl rfl (by decide) (Nat.le_of_ble_eq_true rfl) (Nat.le_refl 0) (Nat.le_refl _) (Or.inl rfl) rfl ?_
          refine r_istore hZ dX12_readBack_40 (by decide) (r_pick [0, 1, 2, 3, 4, 5] (ls' := [(0, .ref a0), (1, .int a1), (2, .int a2), (3, .int a3), (4, .int a4), (5, .int r6)]) rfl ?_)
          refine r_iload hZ dX12_readBack_42 rfl ?_
          refine r_if_eq (tgt := 50) hZ dX12_readBack_44 (by decide) (fun c14 => ?_) (fun c14 => ?_)
          · have H := ok_t H c14
            refine r_iconst (v := (J 0)) hZ dX12_readBack_50 (by decide) ?_
            obtain ⟨x7, ex7, H⟩ := ok_bind H
            refine r_topi ex7 ?_
            refine r_istore hZ dX12_readBack_51 (by decide) (r_pick [0, 1, 2, 3, 4, 6] (ls' := [(0, .ref a0), (1, .int a1), (2, .int a2), (3, .int a3), (4, .int a4), (6, .int x7)]) rfl ?_)
            refine r_bipush (v := (J (-8))) hZ dX12_readBack_53 (by decide) ?_
            obtain ⟨x8, ex8, H⟩ := ok_bind H
            refine r_topi ex8 ?_
            refine r_istore hZ dX12_readBack_55 (by decide) (r_pick [0, 1, 2, 3, 4, 6, 7] (ls' := [(0, .ref a0), (1, .int a1), (2, .int a2), (3, .int a3), (4, .int a4), (6, .int x7), (7, .int x8)]) rfl ?_)
            have H := ok_bindK H
            refine r_pick [0, 1, 2, 3, 4, 6, 7] (ls' := [(0, .ref a0), (1, .int a1), (2, .int a2), (3, .int a3), (4, .int a4), (6, .int x7), (7, .int x8)]) rfl (l_X12_readBack_57 hZ (fun e10 H => ?_) (fun e13 H => ?_) FU _ H)
            · refine r_iload hZ dX12_readBack_150 rfl ?_
              refine ok_join (Q := fun j11 : Int32 => R Z 162 [] [.int j11] n e10.2 0) H (fun j11 H => ?_) (fun H => ?_)
              · have H := ok_some H
                subst H
                exact r_iret hZ hF dX12_readBack_162
              · refine r_if_ge (tgt := 160) hZ dX12_readBack_152 (by decide) (fun c12 => ?_) (fun c12 => ?_)
                · have H := ok_t H c12
                  refine r_bipush (v := (J (-4))) hZ dX12_readBack_160 (by decide) ?_
                  have H := ok_some H
                  exact r_pick [] (ls' := []) rfl H
                · have H := ok_f H c12
                  refine r_iload hZ dX12_readBack_155 rfl ?_
                  refine r_goto (tgt := 162) hZ dX12_readBack_157 (by decide) ?_
                  have H := ok_some H
                  exact r_pick [] (ls' := []) rfl H
            · refine r_iload hZ dX12_readBack_135 rfl ?_
              refine r_bipush (v := (J 8)) hZ dX12_readBack_137 (by decide) ?_
              refine r_iadd hZ dX12_readBack_139 ?_
              have H := ok_some H
              subst H
              exact r_iret hZ hF dX12_readBack_140
          · have H := ok_f H c14
            refine r_iload hZ dX12_readBack_47 rfl ?_
            have H := ok_some H
            subst H
            exact r_iret hZ hF dX12_readBack_49
        · have H := ok_t H c15
          refine r_iconst (v := (J (-1))) hZ dX12_readBack_33 (by decide) ?_
          have H := ok_some H
          subst H
          exact r_iret hZ hF dX12_readBack_34
def b_X12_image_2 (p0 : Nat) (s : Int32 × Hp) : Option ((Int32 × Hp) ⊕ ((Hp))) :=
  (if (J 1744) ≤ s.1 then
    some (.inr (s.2))
  else
    (gR s.2 p0 11 2).bind fun x1 =>
    (gR s.2 p0 11 1).bind fun x2 =>
    (aI s.2 x2 s.1).bind fun x3 =>
    (sI s.2 x1 s.1 x3).bind fun h4 =>
    (some (s.1 + (J 1))).bind fun x5 =>
    some (.inl (x5, h4)))
set_option maxRecDepth 100000 in
set_option maxHeartbeats 4000000 in
theorem l_X12_image_2 {Z : Zc} (hZ : Fx cX12_image RX12 2 2 0 Z) {n : Nat} {p0 : Nat} {P : ((Hp)) → Prop} (hx0 : ∀ e : Hp, P (e) → R Z 27 [(0, .ref p0)] [] n e 0) : ∀ (m : Nat) (s : Int32 × Hp), Ok (iter (b_X12_image_2 p0) m s) P → R Z 2 [(0, .ref p0), (1, .int s.1)] [] n s.2 0 := by
  intro m
  induction m with
  | zero => exact fun s H => ok_iter0 H
  | succ m ih =>
    intro s H
    have H := ok_iter H
    unfold b_X12_image_2 at H
    refine r_iload_n hZ dX12_image_2 rfl ?_
    refine r_sipush (v := (J 1744)) hZ dX12_image_3 (by decide) ?_
    refine r_icmp_ge (tgt := 27) hZ dX12_image_6 (by decide) (fun c6 => ?_) (fun c6 => ?_)
    · have H := ok_t H c6
      exact r_pick [0] (ls' := [(0, .ref p0)]) rfl (hx0 _ (ki_r H))
    · have H := ok_f H c6
      refine r_aload_n hZ dX12_image_9 rfl ?_
      obtain ⟨x1, ex1, H⟩ := ok_bind H
      refine r_getR hZ fl_X12_16_11 dX12_image_10 ex1 ?_
      refine r_iload_n hZ dX12_image_13 rfl ?_
      refine r_aload_n hZ dX12_image_14 rfl ?_
      obtain ⟨x2, ex2, H⟩ := ok_bind H
      refine r_getR hZ fl_X12_13_11 dX12_image_15 ex2 ?_
      refine r_iload_n hZ dX12_image_18 rfl ?_
      obtain ⟨x3, ex3, H⟩ := ok_bind H
      refine r_aI hZ dX12_image_19 ex3 ?_
      obtain ⟨h4, eh4, H⟩ := ok_bind H
      refine r_sI hZ dX12_image_20 eh4 ?_
      obtain ⟨x5, ex5, H⟩ := ok_bind H
      refine r_iincE (w := (J 1)) hZ dX12_image_21 (by decide) rfl (by decide) ex5 (r_pick [0, 1] (ls' := [(0, .ref p0), (1, .int x5)]) rfl ?_)
      refine r_goto (tgt := 2) hZ dX12_image_24 (by decide) ?_
      exact r_pick [0, 1] (ls' := [(0, .ref p0), (1, .int x5)]) rfl (ih _ (ki_l H))
def f_X12_image  (h : Hp) (a0 : Nat) : Option (Int32 × Hp) :=
  (some (J 0)).bind fun x1 =>
  (iter (b_X12_image_2 a0) FU (x1, h)).bind fun e2 =>
  (pF e2 a0 11 10 (.int (J 1))).bind fun h3 =>
  (gR h3 a0 11 1).bind fun x4 =>
  (aI h3 x4 (J 1740)).bind fun x5 =>
  some (x5, h3)
set_option maxRecDepth 100000 in
set_option maxHeartbeats 4000000 in
theorem s_X12_image {n : Nat} {h : Hp} {a0 : Nat}  {r : Int32 × Hp} (hf : f_X12_image  h a0 = some r) : Ev 2 yX12_image cX12_image 2 (some .int) [.ref a0] n h (some (.int r.1)) n r.2 := by
  refine Ev_of RX12 rfl (by decide) (Nat.le_of_ble_eq_true rfl) (Nat.le_refl _) (Or.inl rfl) (fun Z hZ hF hN hI => ?_)
  have H : Ok (f_X12_image  h a0) (fun y => y = r) := ⟨_, hf, rfl⟩
  unfold f_X12_image at H
  refine r_ls (ls' := [(0, .ref a0)]) rfl ?_
  refine r_iconst (v := (J 0)) hZ dX12_image_0 (by decide) ?_
  obtain ⟨x1, ex1, H⟩ := ok_bind H
  refine r_topi ex1 ?_
  refine r_istore_n hZ dX12_image_1 (by decide) (r_pick [0, 1] (ls' := [(0, .ref a0), (1, .int x1)]) rfl ?_)
  have H := ok_bindK H
  refine r_pick [0, 1] (ls' := [(0, .ref a0), (1, .int x1)]) rfl (l_X12_image_2 hZ (fun e2 H => ?_) FU _ H)
  · refine r_aload_n hZ dX12_image_27 rfl ?_
    refine r_iconst (v := (J 1)) hZ dX12_image_28 (by decide) ?_
    obtain ⟨h3, eh3, H⟩ := ok_bind H
    refine r_putf hZ fl_X12_345_11 dX12_image_29 eh3 (by decide) (by decide) ?_
    refine r_aload_n hZ dX12_image_32 rfl ?_
    obtain ⟨x4, ex4, H⟩ := ok_bind H
    refine r_getR hZ fl_X12_13_11 dX12_image_33 ex4 ?_
    refine r_sipush (v := (J 1740)) hZ dX12_image_36 (by decide) ?_
    obtain ⟨x5, ex5, H⟩ := ok_bind H
    refine r_aI hZ dX12_image_39 ex5 ?_
    have H := ok_some H
    subst H
    exact r_iret hZ hF dX12_image_40
def b_X12_restore_12 (p0 : Nat) (s : Int32 × Hp) : Option ((Int32 × Hp) ⊕ ((Hp))) :=
  (if (J 1744) ≤ s.1 then
    some (.inr (s.2))
  else
    (gR s.2 p0 11 1).bind fun x1 =>
    (gR s.2 p0 11 2).bind fun x2 =>
    (aI s.2 x2 s.1).bind fun x3 =>
    (sI s.2 x1 s.1 x3).bind fun h4 =>
    (some (s.1 + (J 1))).bind fun x5 =>
    some (.inl (x5, h4)))
set_option maxRecDepth 100000 in
set_option maxHeartbeats 4000000 in
theorem l_X12_restore_12 {Z : Zc} (hZ : Fx cX12_restore RX12 2 2 0 Z) {n : Nat} {p0 : Nat} {P : ((Hp)) → Prop} (hx0 : ∀ e : Hp, P (e) → R Z 37 [(0, .ref p0)] [] n e 0) : ∀ (m : Nat) (s : Int32 × Hp), Ok (iter (b_X12_restore_12 p0) m s) P → R Z 12 [(0, .ref p0), (1, .int s.1)] [] n s.2 0 := by
  intro m
  induction m with
  | zero => exact fun s H => ok_iter0 H
  | succ m ih =>
    intro s H
    have H := ok_iter H
    unfold b_X12_restore_12 at H
    refine r_iload_n hZ dX12_restore_12 rfl ?_
    refine r_sipush (v := (J 1744)) hZ dX12_restore_13 (by decide) ?_
    refine r_icmp_ge (tgt := 37) hZ dX12_restore_16 (by decide) (fun c6 => ?_) (fun c6 => ?_)
    · have H := ok_t H c6
      exact r_pick [0] (ls' := [(0, .ref p0)]) rfl (hx0 _ (ki_r H))
    · have H := ok_f H c6
      refine r_aload_n hZ dX12_restore_19 rfl ?_
      obtain ⟨x1, ex1, H⟩ := ok_bind H
      refine r_getR hZ fl_X12_13_11 dX12_restore_20 ex1 ?_
      refine r_iload_n hZ dX12_restore_23 rfl ?_
      refine r_aload_n hZ dX12_restore_24 rfl ?_
      obtain ⟨x2, ex2, H⟩ := ok_bind H
      refine r_getR hZ fl_X12_16_11 dX12_restore_25 ex2 ?_
      refine r_iload_n hZ dX12_restore_28 rfl ?_
      obtain ⟨x3, ex3, H⟩ := ok_bind H
      refine r_aI hZ dX12_restore_29 ex3 ?_
      obtain ⟨h4, eh4, H⟩ := ok_bind H
      refine r_sI hZ dX12_restore_30 eh4 ?_
      obtain ⟨x5, ex5, H⟩ := ok_bind H
      refine r_iincE (w := (J 1)) hZ dX12_restore_31 (by decide) rfl (by decide) ex5 (r_pick [0, 1] (ls' := [(0, .ref p0), (1, .int x5)]) rfl ?_)
      refine r_goto (tgt := 12) hZ dX12_restore_34 (by decide) ?_
      exact r_pick [0, 1] (ls' := [(0, .ref p0), (1, .int x5)]) rfl (ih _ (ki_l H))
def f_X12_restore  (h : Hp) (a0 : Nat) : Option (Int32 × Hp) :=
  (gI h a0 11 10).bind fun x1 =>
  (if x1 = 0 then
    some ((J (-3)), h)
  else
    (some (J 0)).bind fun x2 =>
    (iter (b_X12_restore_12 a0) FU (x2, h)).bind fun e3 =>
    (gR e3 a0 11 1).bind fun x4 =>
    (aI e3 x4 (J 1740)).bind fun x5 =>
    some (x5, e3))
set_option maxRecDepth 100000 in
set_option maxHeartbeats 4000000 in
theorem s_X12_restore {n : Nat} {h : Hp} {a0 : Nat}  {r : Int32 × Hp} (hf : f_X12_restore  h a0 = some r) : Ev 2 yX12_restore cX12_restore 2 (some .int) [.ref a0] n h (some (.int r.1)) n r.2 := by
  refine Ev_of RX12 rfl (by decide) (Nat.le_of_ble_eq_true rfl) (Nat.le_refl _) (Or.inl rfl) (fun Z hZ hF hN hI => ?_)
  have H : Ok (f_X12_restore  h a0) (fun y => y = r) := ⟨_, hf, rfl⟩
  unfold f_X12_restore at H
  refine r_ls (ls' := [(0, .ref a0)]) rfl ?_
  refine r_aload_n hZ dX12_restore_0 rfl ?_
  obtain ⟨x1, ex1, H⟩ := ok_bind H
  refine r_getI hZ fl_X12_345_11 dX12_restore_1 ex1 ?_
  refine r_if_ne (tgt := 10) hZ dX12_restore_4 (by decide) (fun c6 => ?_) (fun c6 => ?_)
  · have H := ok_f H c6
    refine r_iconst (v := (J 0)) hZ dX12_restore_10 (by decide) ?_
    obtain ⟨x2, ex2, H⟩ := ok_bind H
    refine r_topi ex2 ?_
    refine r_istore_n hZ dX12_restore_11 (by decide) (r_pick [0, 1] (ls' := [(0, .ref a0), (1, .int x2)]) rfl ?_)
    have H := ok_bindK H
    refine r_pick [0, 1] (ls' := [(0, .ref a0), (1, .int x2)]) rfl (l_X12_restore_12 hZ (fun e3 H => ?_) FU _ H)
    · refine r_aload_n hZ dX12_restore_37 rfl ?_
      obtain ⟨x4, ex4, H⟩ := ok_bind H
      refine r_getR hZ fl_X12_13_11 dX12_restore_38 ex4 ?_
      refine r_sipush (v := (J 1740)) hZ dX12_restore_41 (by decide) ?_
      obtain ⟨x5, ex5, H⟩ := ok_bind H
      refine r_aI hZ dX12_restore_44 ex5 ?_
      have H := ok_some H
      subst H
      exact r_iret hZ hF dX12_restore_45
  · have H := ok_t H c6
    refine r_bipush (v := (J (-3))) hZ dX12_restore_7 (by decide) ?_
    have H := ok_some H
    subst H
    exact r_iret hZ hF dX12_restore_9
def b_X12_count_114 (h : Hp) (p0 : Nat) (p1 : Int32) (p3 : Int32) (s : Int32 × Int32) : Option ((Int32 × Int32) ⊕ ((Int32))) :=
  (if (J 16) ≤ s.2 then
    some (.inr (s.1))
  else
    (if p1 = (J 5) then
      (isO h p0 11).bind fun u1 =>
      (f_X12_widthOf h p0 p3 s.2).bind fun r2 =>
      (some (s.1 + r2)).bind fun x3 =>
      (some (s.2 + (J 1))).bind fun x4 =>
      some (.inl (x3, x4))
    else
      some (.inr (s.1))))
set_option maxRecDepth 100000 in
set_option maxHeartbeats 4000000 in
theorem l_X12_count_114 {Z : Zc} (hZ : Fx cX12_count RX12 5 6 0 Z) {n : Nat} {h : Hp} {p0 : Nat} {p1 : Int32} {p3 : Int32} {P : ((Int32)) → Prop} (hx0 : ∀ e : Int32, P (e) → R Z 142 [(0, .ref p0), (1, .int p1), (2, .int e), (3, .int p3)] [] n h 0) : ∀ (m : Nat) (s : Int32 × Int32), Ok (iter (b_X12_count_114 h p0 p1 p3) m s) P → R Z 114 [(0, .ref p0), (1, .int p1), (2, .int s.1), (3, .int p3), (4, .int s.2)] [] n h 0 := by
  intro m
  induction m with
  | zero => exact fun s H => ok_iter0 H
  | succ m ih =>
    intro s H
    have H := ok_iter H
    unfold b_X12_count_114 at H
    refine r_iload hZ dX12_count_114 rfl ?_
    refine r_bipush (v := (J 16)) hZ dX12_count_116 (by decide) ?_
    refine r_icmp_ge (tgt := 142) hZ dX12_count_118 (by decide) (fun c6 => ?_) (fun c6 => ?_)
    · have H := ok_t H c6
      exact r_pick [0, 1, 2, 3] (ls' := [(0, .ref p0), (1, .int p1), (2, .int s.1), (3, .int p3)]) rfl (hx0 _ (ki_r H))
    · have H := ok_f H c6
      refine r_iload_n hZ dX12_count_121 rfl ?_
      refine r_iconst (v := (J 5)) hZ dX12_count_122 (by decide) ?_
      refine r_icmp_ne (tgt := 142) hZ dX12_count_123 (by decide) (fun c5 => ?_) (fun c5 => ?_)
      · have H := ok_f H c5
        exact r_pick [0, 1, 2, 3] (ls' := [(0, .ref p0), (1, .int p1), (2, .int s.1), (3, .int p3)]) rfl (hx0 _ (ki_r H))
      · have H := ok_t H c5
        refine r_iload_n hZ dX12_count_126 rfl ?_
        refine r_aload_n hZ dX12_count_127 rfl ?_
        refine r_iload_n hZ dX12_count_128 rfl ?_
        refine r_iload hZ dX12_count_129 rfl ?_
        obtain ⟨u1, eu1, H⟩ := ok_bind H
        obtain ⟨r2, er2, H⟩ := ok_bind H
        refine r_callV (As := [.int p3, .int s.2]) (rest := [.int s.1]) (st1 := [.int r2, .int s.1]) (N2 := 0) hZ dX12_count_131 cw_X12_86_X12 rfl eu1 (s_X12_widthOf er2) rfl rfl (by decide) (Nat.le_of_ble_eq_true rfl) (Nat.le_refl 0) (Nat.le_refl _) (Or.inl rfl) rfl ?_
        refine r_iadd hZ dX12_count_134 ?_
        obtain ⟨x3, ex3, H⟩ := ok_bind H
        refine r_topi ex3 ?_
        refine r_istore_n hZ dX12_count_135 (by decide) (r_pick [0, 1, 2, 3, 4] (ls' := [(0, .ref p0), (1, .int p1), (2, .int x3), (3, .int p3), (4, .int s.2)]) rfl ?_)
        obtain ⟨x4, ex4, H⟩ := ok_bind H
        refine r_iincE (w := (J 1)) hZ dX12_count_136 (by decide) rfl (by decide) ex4 (r_pick [0, 1, 2, 3, 4] (ls' := [(0, .ref p0), (1, .int p1), (2, .int x3), (3, .int p3), (4, .int x4)]) rfl ?_)
        refine r_goto (tgt := 114) hZ dX12_count_139 (by decide) ?_
        exact r_pick [0, 1, 2, 3, 4] (ls' := [(0, .ref p0), (1, .int p1), (2, .int x3), (3, .int p3), (4, .int x4)]) rfl (ih _ (ki_l H))
def b_X12_count_82 (h : Hp) (p0 : Nat) (p1 : Int32) (s : Int32 × Int32) : Option ((Int32 × Int32) ⊕ ((Int32))) :=
  (gR h p0 11 1).bind fun x1 =>
  (aI h x1 (J 1740)).bind fun x2 =>
  (if x2 ≤ s.2 then
    some (.inr (s.1))
  else
    ((if p1 = (J 4) then
      (isO h p0 11).bind fun u4 =>
      (f_X12_teeth h p0 s.2).bind fun r5 =>
      some r5
    else
      some (J 0))).bind fun (j3 : Int32) =>
    (some (s.1 + j3)).bind fun x7 =>
    (some (J 0)).bind fun x8 =>
    (iter (b_X12_count_114 h p0 p1 s.2) FU (x7, x8)).bind fun e9 =>
    (some (s.2 + (J 1))).bind fun x10 =>
    some (.inl (e9, x10)))
set_option maxRecDepth 100000 in
set_option maxHeartbeats 4000000 in
theorem l_X12_count_82 {Z : Zc} (hZ : Fx cX12_count RX12 5 6 0 Z) {n : Nat} {h : Hp} {p0 : Nat} {p1 : Int32} {P : ((Int32)) → Prop} (hx0 : ∀ e : Int32, P (e) → R Z 148 [(2, .int e)] [] n h 0) : ∀ (m : Nat) (s : Int32 × Int32), Ok (iter (b_X12_count_82 h p0 p1) m s) P → R Z 82 [(0, .ref p0), (1, .int p1), (2, .int s.1), (3, .int s.2)] [] n h 0 := by
  intro m
  induction m with
  | zero => exact fun s H => ok_iter0 H
  | succ m ih =>
    intro s H
    have H := ok_iter H
    unfold b_X12_count_82 at H
    refine r_iload_n hZ dX12_count_82 rfl ?_
    refine r_aload_n hZ dX12_count_83 rfl ?_
    obtain ⟨x1, ex1, H⟩ := ok_bind H
    refine r_getR hZ fl_X12_13_11 dX12_count_84 ex1 ?_
    refine r_sipush (v := (J 1740)) hZ dX12_count_87 (by decide) ?_
    obtain ⟨x2, ex2, H⟩ := ok_bind H
    refine r_aI hZ dX12_count_90 ex2 ?_
    refine r_icmp_ge (tgt := 148) hZ dX12_count_91 (by decide) (fun c11 => ?_) (fun c11 => ?_)
    · have H := ok_t H c11
      exact r_pick [2] (ls' := [(2, .int s.1)]) rfl (hx0 _ (ki_r H))
    · have H := ok_f H c11
      refine r_iload_n hZ dX12_count_94 rfl ?_
      refine r_iload_n hZ dX12_count_95 rfl ?_
      refine r_iconst (v := (J 4)) hZ dX12_count_96 (by decide) ?_
      refine ok_join (Q := fun j3 : Int32 => R Z 109 [(0, .ref p0), (1, .int p1), (3, .int s.2)] [.int j3, .int s.1] n h 0) H (fun j3 H => ?_) (fun H => ?_)
      · refine r_iadd hZ dX12_count_109 ?_
        obtain ⟨x7, ex7, H⟩ := ok_bind H
        refine r_topi ex7 ?_
        refine r_istore_n hZ dX12_count_110 (by decide) (r_pick [0, 1, 2, 3] (ls' := [(0, .ref p0), (1, .int p1), (2, .int x7), (3, .int s.2)]) rfl ?_)
        refine r_iconst (v := (J 0)) hZ dX12_count_111 (by decide) ?_
        obtain ⟨x8, ex8, H⟩ := ok_bind H
        refine r_topi ex8 ?_
        refine r_istore hZ dX12_count_112 (by decide) (r_pick [0, 1, 2, 3, 4] (ls' := [(0, .ref p0), (1, .int p1), (2, .int x7), (3, .int s.2), (4, .int x8)]) rfl ?_)
        have H := ok_bindK H
        refine r_pick [0, 1, 2, 3, 4] (ls' := [(0, .ref p0), (1, .int p1), (2, .int x7), (3, .int s.2), (4, .int x8)]) rfl (l_X12_count_114 hZ (fun e9 H => ?_) FU _ H)
        · obtain ⟨x10, ex10, H⟩ := ok_bind H
          refine r_iincE (w := (J 1)) hZ dX12_count_142 (by decide) rfl (by decide) ex10 (r_pick [0, 1, 2, 3] (ls' := [(0, .ref p0), (1, .int p1), (2, .int e9), (3, .int x10)]) rfl ?_)
          refine r_goto (tgt := 82) hZ dX12_count_145 (by decide) ?_
          exact r_pick [0, 1, 2, 3] (ls' := [(0, .ref p0), (1, .int p1), (2, .int e9), (3, .int x10)]) rfl (ih _ (ki_l H))
      · refine r_icmp_ne (tgt := 108) hZ dX12_count_97 (by decide) (fun c6 => ?_) (fun c6 => ?_)
        · have H := ok_f H c6
          refine r_iconst (v := (J 0)) hZ dX12_count_108 (by decide) ?_
          have H := ok_some H
          exact r_pick [0, 1, 3] (ls' := [(0, .ref p0), (1, .int p1), (3, .int s.2)]) rfl H
        · have H := ok_t H c6
          refine r_aload_n hZ dX12_count_100 rfl ?_
          refine r_iload_n hZ dX12_count_101 rfl ?_
          obtain ⟨u4, eu4, H⟩ := ok_bind H
          obtain ⟨r5, er5, H⟩ := ok_bind H
          refine r_callV (As := [.int s.2]) (rest := [.int s.1]) (st1 := [.int r5, .int s.1]) (N2 := 0) hZ dX12_count_102 cw_X12_83_X12 rfl eu4 (s_X12_teeth er5) rfl rfl (by decide) (Nat.le_of_ble_eq_true rfl) (Nat.le_refl 0) (Nat.le_refl _) (Or.inl rfl) rfl ?_
          refine r_goto (tgt := 109) hZ dX12_count_105 (by decide) ?_
          have H := ok_some H
          exact r_pick [0, 1, 3] (ls' := [(0, .ref p0), (1, .int p1), (3, .int s.2)]) rfl H
def b_X12_count_156 (h : Hp) (p0 : Nat) (s : Int32 × Int32) : Option ((Int32 × Int32) ⊕ ((Int32))) :=
  (if (J 8) ≤ s.2 then
    some (.inr (s.1))
  else
    (gR h p0 11 21).bind fun x1 =>
    (aZ h x1 (J 0)).bind fun x2 =>
    (if x2 = 0 then
      (gR h p0 11 18).bind fun x3 =>
      (aI h x3 s.2).bind fun x4 =>
      ((if x4 = 0 then
        some (J 1)
      else
        (gR h p0 11 21).bind fun x6 =>
        (gR h p0 11 18).bind fun x7 =>
        (aI h x7 s.2).bind fun x8 =>
        (aZ h x6 x8).bind fun x9 =>
        (if x9 = 0 then
          some (J 0)
        else
          some (J 1)))).bind fun (j5 : Int32) =>
      (some (s.1 + j5)).bind fun x12 =>
      (some (s.2 + (J 1))).bind fun x13 =>
      some (.inl (x12, x13))
    else
      some (.inr (s.1))))
set_option maxRecDepth 100000 in
set_option maxHeartbeats 4000000 in
theorem l_X12_count_156 {Z : Zc} (hZ : Fx cX12_count RX12 5 6 0 Z) {n : Nat} {h : Hp} {p0 : Nat} {P : ((Int32)) → Prop} (hx0 : ∀ e : Int32, P (e) → R Z 208 [(2, .int e)] [] n h 0) : ∀ (m : Nat) (s : Int32 × Int32), Ok (iter (b_X12_count_156 h p0) m s) P → R Z 156 [(0, .ref p0), (2, .int s.1), (3, .int s.2)] [] n h 0 := by
  intro m
  induction m with
  | zero => exact fun s H => ok_iter0 H
  | succ m ih =>
    intro s H
    have H := ok_iter H
    unfold b_X12_count_156 at H
    refine r_iload_n hZ dX12_count_156 rfl ?_
    refine r_bipush (v := (J 8)) hZ dX12_count_157 (by decide) ?_
    refine r_icmp_ge (tgt := 208) hZ dX12_count_159 (by decide) (fun c15 => ?_) (fun c15 => ?_)
    · have H := ok_t H c15
      exact r_pick [2] (ls' := [(2, .int s.1)]) rfl (hx0 _ (ki_r H))
    · have H := ok_f H c15
      refine r_aload_n hZ dX12_count_162 rfl ?_
      obtain ⟨x1, ex1, H⟩ := ok_bind H
      refine r_getR hZ fl_X12_56_11 dX12_count_163 ex1 ?_
      refine r_iconst (v := (J 0)) hZ dX12_count_166 (by decide) ?_
      obtain ⟨x2, ex2, H⟩ := ok_bind H
      refine r_aZ hZ dX12_count_167 ex2 ?_
      refine r_if_ne (tgt := 208) hZ dX12_count_168 (by decide) (fun c14 => ?_) (fun c14 => ?_)
      · have H := ok_f H c14
        exact r_pick [2] (ls' := [(2, .int s.1)]) rfl (hx0 _ (ki_r H))
      · have H := ok_t H c14
        refine r_iload_n hZ dX12_count_171 rfl ?_
        refine r_aload_n hZ dX12_count_172 rfl ?_
        obtain ⟨x3, ex3, H⟩ := ok_bind H
        refine r_getR hZ fl_X12_46_11 dX12_count_173 ex3 ?_
        refine r_iload_n hZ dX12_count_176 rfl ?_
        obtain ⟨x4, ex4, H⟩ := ok_bind H
        refine r_aI hZ dX12_count_177 ex4 ?_
        refine ok_join (Q := fun j5 : Int32 => R Z 200 [(0, .ref p0), (3, .int s.2)] [.int j5, .int s.1] n h 0) H (fun j5 H => ?_) (fun H => ?_)
        · refine r_iadd hZ dX12_count_200 ?_
          obtain ⟨x12, ex12, H⟩ := ok_bind H
          refine r_topi ex12 ?_
          refine r_istore_n hZ dX12_count_201 (by decide) (r_pick [0, 2, 3] (ls' := [(0, .ref p0), (2, .int x12), (3, .int s.2)]) rfl ?_)
          obtain ⟨x13, ex13, H⟩ := ok_bind H
          refine r_iincE (w := (J 1)) hZ dX12_count_202 (by decide) rfl (by decide) ex13 (r_pick [0, 2, 3] (ls' := [(0, .ref p0), (2, .int x12), (3, .int x13)]) rfl ?_)
          refine r_goto (tgt := 156) hZ dX12_count_205 (by decide) ?_
          exact r_pick [0, 2, 3] (ls' := [(0, .ref p0), (2, .int x12), (3, .int x13)]) rfl (ih _ (ki_l H))
        · refine r_if_eq (tgt := 195) hZ dX12_count_178 (by decide) (fun c11 => ?_) (fun c11 => ?_)
          · have H := ok_t H c11
            refine r_iconst (v := (J 1)) hZ dX12_count_195 (by decide) ?_
            refine r_goto (tgt := 200) hZ dX12_count_196 (by decide) ?_
            have H := ok_some H
            exact r_pick [0, 3] (ls' := [(0, .ref p0), (3, .int s.2)]) rfl H
          · have H := ok_f H c11
            refine r_aload_n hZ dX12_count_181 rfl ?_
            obtain ⟨x6, ex6, H⟩ := ok_bind H
            refine r_getR hZ fl_X12_56_11 dX12_count_182 ex6 ?_
            refine r_aload_n hZ dX12_count_185 rfl ?_
            obtain ⟨x7, ex7, H⟩ := ok_bind H
            refine r_getR hZ fl_X12_46_11 dX12_count_186 ex7 ?_
            refine r_iload_n hZ dX12_count_189 rfl ?_
            obtain ⟨x8, ex8, H⟩ := ok_bind H
            refine r_aI hZ dX12_count_190 ex8 ?_
            obtain ⟨x9, ex9, H⟩ := ok_bind H
            refine r_aZ hZ dX12_count_191 ex9 ?_
            refine r_if_eq (tgt := 199) hZ dX12_count_192 (by decide) (fun c10 => ?_) (fun c10 => ?_)
            · have H := ok_t H c10
              refine r_iconst (v := (J 0)) hZ dX12_count_199 (by decide) ?_
              have H := ok_some H
              exact r_pick [0, 3] (ls' := [(0, .ref p0), (3, .int s.2)]) rfl H
            · have H := ok_f H c10
              refine r_iconst (v := (J 1)) hZ dX12_count_195 (by decide) ?_
              refine r_goto (tgt := 200) hZ dX12_count_196 (by decide) ?_
              have H := ok_some H
              exact r_pick [0, 3] (ls' := [(0, .ref p0), (3, .int s.2)]) rfl H
def f_X12_count  (h : Hp) (a0 : Nat) (a1 : Int32) : Option (Int32 × Hp) :=
  (some (J 0)).bind fun x1 =>
  (if a1 = (J 0) then
    (gR h a0 11 1).bind fun x2 =>
    (aI h x2 (J 1740)).bind fun x3 =>
    some (x3, h)
  else
    (if a1 = (J 1) then
      (gR h a0 11 1).bind fun x5 =>
      (aI h x5 (J 1741)).bind fun x6 =>
      some (x6, h)
    else
      (if a1 = (J 2) then
        (gR h a0 11 1).bind fun x8 =>
        (aI h x8 (J 1742)).bind fun x9 =>
        some (x9, h)
      else
        (if a1 = (J 3) then
          (gR h a0 11 1).bind fun x11 =>
          (aI h x11 (J 1743)).bind fun x12 =>
          some (x12, h)
        else
          (if a1 = (J 4) ∨ a1 = (J 5) then
            (some (J 0)).bind fun x14 =>
            (iter (b_X12_count_82 h a0 a1) FU (x1, x14)).bind fun e15 =>
            some (e15, h)
          else
            (if a1 = (J 6) then
              (isO h a0 11).bind fun u18 =>
              (f_X12_turns h a0).bind fun r19 =>
              (some (J 0)).bind fun x20 =>
              (iter (b_X12_count_156 r19 a0) FU (x1, x20)).bind fun e21 =>
              some (e21, r19)
            else
              some ((J (-1)), h)))))))
set_option maxRecDepth 100000 in
set_option maxHeartbeats 4000000 in
theorem s_X12_count {n : Nat} {h : Hp} {a0 : Nat} {a1 : Int32}  {r : Int32 × Hp} (hf : f_X12_count  h a0 a1 = some r) : Ev 6 yX12_count cX12_count 5 (some .int) [.ref a0, .int a1] n h (some (.int r.1)) n r.2 := by
  refine Ev_of RX12 rfl (by decide) (Nat.le_of_ble_eq_true rfl) (Nat.le_refl _) (Or.inl rfl) (fun Z hZ hF hN hI => ?_)
  have H : Ok (f_X12_count  h a0 a1) (fun y => y = r) := ⟨_, hf, rfl⟩
  unfold f_X12_count at H
  refine r_ls (ls' := [(0, .ref a0), (1, .int a1)]) rfl ?_
  refine r_iconst (v := (J 0)) hZ dX12_count_0 (by decide) ?_
  obtain ⟨x1, ex1, H⟩ := ok_bind H
  refine r_topi ex1 ?_
  refine r_istore_n hZ dX12_count_1 (by decide) (r_pick [0, 1, 2] (ls' := [(0, .ref a0), (1, .int a1), (2, .int x1)]) rfl ?_)
  refine r_iload_n hZ dX12_count_2 rfl ?_
  by_cases c4 : a1 = (J 0)
  · have hs : R Z 44 [(0, .ref a0), (1, .int a1), (2, .int x1)] [] n h 0 → R Z 3 [(0, .ref a0), (1, .int a1), (2, .int x1)] [.int a1] n h 0 := by
      exact fun k => r_tableIn hZ dX12_count_3 (by rw [c4]; decide) (by rw [c4]; decide) (off := 41) (by rw [c4]; rfl) (by decide) k
    refine hs ?_
    clear hs
    have H := ok_t H c4
    refine r_aload_n hZ dX12_count_44 rfl ?_
    obtain ⟨x2, ex2, H⟩ := ok_bind H
    refine r_getR hZ fl_X12_13_11 dX12_count_45 ex2 ?_
    refine r_sipush (v := (J 1740)) hZ dX12_count_48 (by decide) ?_
    obtain ⟨x3, ex3, H⟩ := ok_bind H
    refine r_aI hZ dX12_count_51 ex3 ?_
    have H := ok_some H
    subst H
    exact r_iret hZ hF dX12_count_52
  · have H := ok_f H c4
    by_cases c7 : a1 = (J 1)
    · have hs : R Z 53 [(0, .ref a0), (1, .int a1), (2, .int x1)] [] n h 0 → R Z 3 [(0, .ref a0), (1, .int a1), (2, .int x1)] [.int a1] n h 0 := by
        exact fun k => r_tableIn hZ dX12_count_3 (by rw [c7]; decide) (by rw [c7]; decide) (off := 50) (by rw [c7]; rfl) (by decide) k
      refine hs ?_
      clear hs
      have H := ok_t H c7
      refine r_aload_n hZ dX12_count_53 rfl ?_
      obtain ⟨x5, ex5, H⟩ := ok_bind H
      refine r_getR hZ fl_X12_13_11 dX12_count_54 ex5 ?_
      refine r_sipush (v := (J 1741)) hZ dX12_count_57 (by decide) ?_
      obtain ⟨x6, ex6, H⟩ := ok_bind H
      refine r_aI hZ dX12_count_60 ex6 ?_
      have H := ok_some H
      subst H
      exact r_iret hZ hF dX12_count_61
    · have H := ok_f H c7
      by_cases c10 : a1 = (J 2)
      · have hs : R Z 62 [(0, .ref a0), (1, .int a1), (2, .int x1)] [] n h 0 → R Z 3 [(0, .ref a0), (1, .int a1), (2, .int x1)] [.int a1] n h 0 := by
          exact fun k => r_tableIn hZ dX12_count_3 (by rw [c10]; decide) (by rw [c10]; decide) (off := 59) (by rw [c10]; rfl) (by decide) k
        refine hs ?_
        clear hs
        have H := ok_t H c10
        refine r_aload_n hZ dX12_count_62 rfl ?_
        obtain ⟨x8, ex8, H⟩ := ok_bind H
        refine r_getR hZ fl_X12_13_11 dX12_count_63 ex8 ?_
        refine r_sipush (v := (J 1742)) hZ dX12_count_66 (by decide) ?_
        obtain ⟨x9, ex9, H⟩ := ok_bind H
        refine r_aI hZ dX12_count_69 ex9 ?_
        have H := ok_some H
        subst H
        exact r_iret hZ hF dX12_count_70
      · have H := ok_f H c10
        by_cases c13 : a1 = (J 3)
        · have hs : R Z 71 [(0, .ref a0), (1, .int a1), (2, .int x1)] [] n h 0 → R Z 3 [(0, .ref a0), (1, .int a1), (2, .int x1)] [.int a1] n h 0 := by
            exact fun k => r_tableIn hZ dX12_count_3 (by rw [c13]; decide) (by rw [c13]; decide) (off := 68) (by rw [c13]; rfl) (by decide) k
          refine hs ?_
          clear hs
          have H := ok_t H c13
          refine r_aload_n hZ dX12_count_71 rfl ?_
          obtain ⟨x11, ex11, H⟩ := ok_bind H
          refine r_getR hZ fl_X12_13_11 dX12_count_72 ex11 ?_
          refine r_sipush (v := (J 1743)) hZ dX12_count_75 (by decide) ?_
          obtain ⟨x12, ex12, H⟩ := ok_bind H
          refine r_aI hZ dX12_count_78 ex12 ?_
          have H := ok_some H
          subst H
          exact r_iret hZ hF dX12_count_79
        · have H := ok_f H c13
          by_cases c16 : a1 = (J 4) ∨ a1 = (J 5)
          · have hs : R Z 80 [(0, .ref a0), (1, .int a1), (2, .int x1)] [] n h 0 → R Z 3 [(0, .ref a0), (1, .int a1), (2, .int x1)] [.int a1] n h 0 := by
              rcases c16 with c16 | c16
              · exact fun k => r_tableIn hZ dX12_count_3 (by rw [c16]; decide) (by rw [c16]; decide) (off := 77) (by rw [c16]; rfl) (by decide) k
              · exact fun k => r_tableIn hZ dX12_count_3 (by rw [c16]; decide) (by rw [c16]; decide) (off := 77) (by rw [c16]; rfl) (by decide) k
            refine hs ?_
            clear hs
            have H := ok_t H c16
            refine r_iconst (v := (J 0)) hZ dX12_count_80 (by decide) ?_
            obtain ⟨x14, ex14, H⟩ := ok_bind H
            refine r_topi ex14 ?_
            refine r_istore_n hZ dX12_count_81 (by decide) (r_pick [0, 1, 2, 3] (ls' := [(0, .ref a0), (1, .int a1), (2, .int x1), (3, .int x14)]) rfl ?_)
            have H := ok_bindK H
            refine r_pick [0, 1, 2, 3] (ls' := [(0, .ref a0), (1, .int a1), (2, .int x1), (3, .int x14)]) rfl (l_X12_count_82 hZ (fun e15 H => ?_) FU _ H)
            · refine r_iload_n hZ dX12_count_148 rfl ?_
              have H := ok_some H
              subst H
              exact r_iret hZ hF dX12_count_149
          · have H := ok_f H c16
            have c17 := fun q => c16 (Or.inr q)
            have c16 := fun q => c16 (Or.inl q)
            by_cases c22 : a1 = (J 6)
            · have hs : R Z 150 [(0, .ref a0), (1, .int a1), (2, .int x1)] [] n h 0 → R Z 3 [(0, .ref a0), (1, .int a1), (2, .int x1)] [.int a1] n h 0 := by
                exact fun k => r_tableIn hZ dX12_count_3 (by rw [c22]; decide) (by rw [c22]; decide) (off := 147) (by rw [c22]; rfl) (by decide) k
              refine hs ?_
              clear hs
              have H := ok_t H c22
              refine r_aload_n hZ dX12_count_150 rfl ?_
              obtain ⟨u18, eu18, H⟩ := ok_bind H
              obtain ⟨r19, er19, H⟩ := ok_bind H
              refine r_callV (As := []) (rest := []) (st1 := []) (N2 := 0) hZ dX12_count_151 cw_X12_191_X12 rfl eu18 (s_X12_turns er19) rfl rfl (by decide) (Nat.le_of_ble_eq_true rfl) (Nat.le_refl 0) (Nat.le_refl _) (Or.inl rfl) rfl ?_
              refine r_iconst (v := (J 0)) hZ dX12_count_154 (by decide) ?_
              obtain ⟨x20, ex20, H⟩ := ok_bind H
              refine r_topi ex20 ?_
              refine r_istore_n hZ dX12_count_155 (by decide) (r_pick [0, 2, 3] (ls' := [(0, .ref a0), (2, .int x1), (3, .int x20)]) rfl ?_)
              have H := ok_bindK H
              refine r_pick [0, 2, 3] (ls' := [(0, .ref a0), (2, .int x1), (3, .int x20)]) rfl (l_X12_count_156 hZ (fun e21 H => ?_) FU _ H)
              · refine r_iload_n hZ dX12_count_208 rfl ?_
                have H := ok_some H
                subst H
                exact r_iret hZ hF dX12_count_209
            · have H := ok_f H c22
              refine r_tableOut (tgt := 210) hZ dX12_count_3 (by have := sw_n c4; have := sw_n c7; have := sw_n c10; have := sw_n c13; have := sw_n c16; have := sw_n c17; have := sw_n c22; omega) (by decide) ?_
              refine r_iconst (v := (J (-1))) hZ dX12_count_210 (by decide) ?_
              have H := ok_some H
              subst H
              exact r_iret hZ hF dX12_count_211
def f_X12_keep  (h : Hp) (a0 : Nat) (a1 : Int32) (a2 : Int32) (a3 : Int32) : Option (Int32 × Hp) :=
  (f_X12_isShelf a1).bind fun r1 =>
  (if r1 = 0 then
    some ((J (-1)), h)
  else
    (f_X12_isIn (a2.toInt64) (K 0) (K 1)).bind fun r2 =>
    (if r2 = 0 then
      some ((J (-1)), h)
    else
      (if a2 = (J 1) then
        (isO h a0 11).bind fun u38 =>
        (f_X12_isGear h a0 a3).bind fun r39 =>
        (if r39 = 0 then
          some ((J (-1)), h)
        else
          (gR h a0 11 4).bind fun x40 =>
          (sI h x40 a1 a2).bind fun h41 =>
          (if a2 = 0 then
            some ((J 0), h41)
          else
            (isO h41 a0 11).bind fun u42 =>
            (f_X12_kind h41 a0 a3).bind fun r43 =>
            (isO h41 a0 11).bind fun u44 =>
            (f_X12_teeth h41 a0 a3).bind fun r45 =>
            (isO h41 a0 11).bind fun u46 =>
            (f_X12_hard h41 a0 a3).bind fun r47 =>
            ((if r43 = 0 then
              some (J 0)
            else
              (if r43 = (J 4) then
                (isO h41 a0 11).bind fun u51 =>
                (f_X12_widthOf h41 a0 a3 (J 15)).bind fun r52 =>
                some r52
              else
                (isO h41 a0 11).bind fun u49 =>
                (f_X12_thin h41 a0 a3).bind fun r50 =>
                some r50))).bind fun (j48 : Int32) =>
            (some ((((J 100) + r45) + r47) + j48)).bind fun x55 =>
            (gR h41 a0 11 8).bind fun x56 =>
            ((if r43 = (J 3) then
              some ((J 2) * x55)
            else
              some x55)).bind fun (j57 : Int32) =>
            (sI h41 x56 a1 j57).bind fun h59 =>
            (gR h59 a0 11 9).bind fun x60 =>
            ((if r43 = (J 4) then
              some (J (-15))
            else
              (if r43 = (J 3) then
                (isO h59 a0 11).bind fun u65 =>
                (f_X12_thin h59 a0 a3).bind fun r66 =>
                (if r66 = (J 31) then
                  some (J (-15))
                else
                  (if r43 = (J 2) then
                    (isO h59 a0 11).bind fun u67 =>
                    (f_X12_thin h59 a0 a3).bind fun r68 =>
                    some ((a3 + (J 100)) + r68)
                  else
                    some a3))
              else
                (if r43 = (J 2) then
                  (isO h59 a0 11).bind fun u62 =>
                  (f_X12_thin h59 a0 a3).bind fun r63 =>
                  some ((a3 + (J 100)) + r63)
                else
                  some a3)))).bind fun (j61 : Int32) =>
            (sI h59 x60 a1 j61).bind fun h73 =>
            some ((J 0), h73)))
      else
        (gR h a0 11 4).bind fun x3 =>
        (sI h x3 a1 a2).bind fun h4 =>
        (if a2 = 0 then
          some ((J 0), h4)
        else
          (isO h4 a0 11).bind fun u5 =>
          (f_X12_kind h4 a0 a3).bind fun r6 =>
          (isO h4 a0 11).bind fun u7 =>
          (f_X12_teeth h4 a0 a3).bind fun r8 =>
          (isO h4 a0 11).bind fun u9 =>
          (f_X12_hard h4 a0 a3).bind fun r10 =>
          ((if r6 = 0 then
            some (J 0)
          else
            (if r6 = (J 4) then
              (isO h4 a0 11).bind fun u14 =>
              (f_X12_widthOf h4 a0 a3 (J 15)).bind fun r15 =>
              some r15
            else
              (isO h4 a0 11).bind fun u12 =>
              (f_X12_thin h4 a0 a3).bind fun r13 =>
              some r13))).bind fun (j11 : Int32) =>
          (some ((((J 100) + r8) + r10) + j11)).bind fun x18 =>
          (gR h4 a0 11 8).bind fun x19 =>
          ((if r6 = (J 3) then
            some ((J 2) * x18)
          else
            some x18)).bind fun (j20 : Int32) =>
          (sI h4 x19 a1 j20).bind fun h22 =>
          (gR h22 a0 11 9).bind fun x23 =>
          ((if r6 = (J 4) then
            some (J (-15))
          else
            (if r6 = (J 3) then
              (isO h22 a0 11).bind fun u28 =>
              (f_X12_thin h22 a0 a3).bind fun r29 =>
              (if r29 = (J 31) then
                some (J (-15))
              else
                (if r6 = (J 2) then
                  (isO h22 a0 11).bind fun u30 =>
                  (f_X12_thin h22 a0 a3).bind fun r31 =>
                  some ((a3 + (J 100)) + r31)
                else
                  some a3))
            else
              (if r6 = (J 2) then
                (isO h22 a0 11).bind fun u25 =>
                (f_X12_thin h22 a0 a3).bind fun r26 =>
                some ((a3 + (J 100)) + r26)
              else
                some a3)))).bind fun (j24 : Int32) =>
          (sI h22 x23 a1 j24).bind fun h36 =>
          some ((J 0), h36)))))
set_option maxRecDepth 100000 in
set_option maxHeartbeats 4000000 in
theorem s_X12_keep {n : Nat} {h : Hp} {a0 : Nat} {a1 : Int32} {a2 : Int32} {a3 : Int32}  {r : Int32 × Hp} (hf : f_X12_keep  h a0 a1 a2 a3 = some r) : Ev 4 yX12_keep cX12_keep 6 (some .int) [.ref a0, .int a1, .int a2, .int a3] n h (some (.int r.1)) n r.2 := by
  refine Ev_of RX12 rfl (by decide) (Nat.le_of_ble_eq_true rfl) (Nat.le_refl _) (Or.inl rfl) (fun Z hZ hF hN hI => ?_)
  have H : Ok (f_X12_keep  h a0 a1 a2 a3) (fun y => y = r) := ⟨_, hf, rfl⟩
  unfold f_X12_keep at H
  refine r_ls (ls' := [(0, .ref a0), (1, .int a1), (2, .int a2), (3, .int a3)]) rfl ?_
  refine r_iload_n hZ dX12_keep_0 rfl ?_
  obtain ⟨r1, er1, H⟩ := ok_bind H
  refine r_callS (As := [.int a1]) (rest := []) (st1 := [.int r1]) (N2 := 0) hZ dX12_keep_1 cw_X12_127 (s_X12_isShelf er1) rfl rfl (by decide) (Nat.le_of_ble_eq_true rfl) (Nat.le_refl 0) (Nat.le_refl _) (Or.inl rfl) rfl ?_
  refine r_if_eq (tgt := 30) hZ dX12_keep_4 (by decide) (fun c78 => ?_) (fun c78 => ?_)
  · have H := ok_t H c78
    refine r_iconst (v := (J (-1))) hZ dX12_keep_30 (by decide) ?_
    have H := ok_some H
    subst H
    exact r_iret hZ hF dX12_keep_31
  · have H := ok_f H c78
    refine r_iload_n hZ dX12_keep_7 rfl ?_
    refine r_i2l hZ dX12_keep_8 ?_
    refine r_lconst (v := (K 0)) hZ dX12_keep_9 (by decide) ?_
    refine r_lconst (v := (K 1)) hZ dX12_keep_10 (by decide) ?_
    obtain ⟨r2, er2, H⟩ := ok_bind H
    refine r_callS (As := [.long (a2.toInt64), .long (K 0), .long (K 1)]) (rest := []) (st1 := [.int r2]) (N2 := 0) hZ dX12_keep_11 cw_X12_73 (s_X12_isIn er2) rfl rfl (by decide) (Nat.le_of_ble_eq_true rfl) (Nat.le_refl 0) (Nat.le_refl _) (Or.inl rfl) rfl ?_
    refine r_if_eq (tgt := 30) hZ dX12_keep_14 (by decide) (fun c77 => ?_) (fun c77 => ?_)
    · have H := ok_t H c77
      refine r_iconst (v := (J (-1))) hZ dX12_keep_30 (by decide) ?_
      have H := ok_some H
      subst H
      exact r_iret hZ hF dX12_keep_31
    · have H := ok_f H c77
      refine r_iload_n hZ dX12_keep_17 rfl ?_
      refine r_iconst (v := (J 1)) hZ dX12_keep_18 (by decide) ?_
      refine r_icmp_ne (tgt := 32) hZ dX12_keep_19 (by decide) (fun c76 => ?_) (fun c76 => ?_)
      · have H := ok_f H c76
        refine r_aload_n hZ dX12_keep_32 rfl ?_
        obtain ⟨x3, ex3, H⟩ := ok_bind H
        refine r_getR hZ fl_X12_22_11 dX12_keep_33 ex3 ?_
        refine r_iload_n hZ dX12_keep_36 rfl ?_
        refine r_iload_n hZ dX12_keep_37 rfl ?_
        obtain ⟨h4, eh4, H⟩ := ok_bind H
        refine r_sI hZ dX12_keep_38 eh4 ?_
        refine r_iload_n hZ dX12_keep_39 rfl ?_
        refine r_if_ne (tgt := 45) hZ dX12_keep_40 (by decide) (fun c37 => ?_) (fun c37 => ?_)
        · have H := ok_f H c37
          refine r_aload_n hZ dX12_keep_45 rfl ?_
          refine r_iload_n hZ dX12_keep_46 rfl ?_
          obtain ⟨u5, eu5, H⟩ := ok_bind H
          obtain ⟨r6, er6, H⟩ := ok_bind H
          refine r_callV (As := [.int a3]) (rest := []) (st1 := [.int r6]) (N2 := 0) hZ dX12_keep_47 cw_X12_79_X12 rfl eu5 (s_X12_kind er6) rfl rfl (by decide) (Nat.le_of_ble_eq_true rfl) (Nat.le_refl 0) (Nat.le_refl _) (Or.inl rfl) rfl ?_
          refine r_istore hZ dX12_keep_50 (by decide) (r_pick [0, 1, 3, 4] (ls' := [(0, .ref a0), (1, .int a1), (3, .int a3), (4, .int r6)]) rfl ?_)
          refine r_bipush (v := (J 100)) hZ dX12_keep_52 (by decide) ?_
          refine r_aload_n hZ dX12_keep_54 rfl ?_
          refine r_iload_n hZ dX12_keep_55 rfl ?_
          obtain ⟨u7, eu7, H⟩ := ok_bind H
          obtain ⟨r8, er8, H⟩ := ok_bind H
          refine r_callV (As := [.int a3]) (rest := [.int (J 100)]) (st1 := [.int r8, .int (J 100)]) (N2 := 0) hZ dX12_keep_56 cw_X12_83_X12 rfl eu7 (s_X12_teeth er8) rfl rfl (by decide) (Nat.le_of_ble_eq_true rfl) (Nat.le_refl 0) (Nat.le_refl _) (Or.inl rfl) rfl ?_
          refine r_iadd hZ dX12_keep_59 ?_
          refine r_aload_n hZ dX12_keep_60 rfl ?_
          refine r_iload_n hZ dX12_keep_61 rfl ?_
          obtain ⟨u9, eu9, H⟩ := ok_bind H
          obtain ⟨r10, er10, H⟩ := ok_bind H
          refine r_callV (As := [.int a3]) (rest := [.int ((J 100) + r8)]) (st1 := [.int r10, .int ((J 100) + r8)]) (N2 := 0) hZ dX12_keep_62 cw_X12_149_X12 rfl eu9 (s_X12_hard er10) rfl rfl (by decide) (Nat.le_of_ble_eq_true rfl) (Nat.le_refl 0) (Nat.le_refl _) (Or.inl rfl) rfl ?_
          refine r_iadd hZ dX12_keep_65 ?_
          refine r_iload hZ dX12_keep_66 rfl ?_
          refine ok_join (Q := fun j11 : Int32 => R Z 96 [(0, .ref a0), (1, .int a1), (3, .int a3), (4, .int r6)] [.int j11, .int (((J 100) + r8) + r10)] n h4 0) H (fun j11 H => ?_) (fun H => ?_)
          · refine r_iadd hZ dX12_keep_96 ?_
            obtain ⟨x18, ex18, H⟩ := ok_bind H
            refine r_topi ex18 ?_
            refine r_istore hZ dX12_keep_97 (by decide) (r_pick [0, 1, 3, 4, 5] (ls' := [(0, .ref a0), (1, .int a1), (3, .int a3), (4, .int r6), (5, .int x18)]) rfl ?_)
            refine r_aload_n hZ dX12_keep_99 rfl ?_
            obtain ⟨x19, ex19, H⟩ := ok_bind H
            refine r_getR hZ fl_X12_34_11 dX12_keep_100 ex19 ?_
            refine r_iload_n hZ dX12_keep_103 rfl ?_
            refine r_iload hZ dX12_keep_104 rfl ?_
            refine r_iconst (v := (J 3)) hZ dX12_keep_106 (by decide) ?_
            refine ok_join (Q := fun j20 : Int32 => R Z 119 [(0, .ref a0), (1, .int a1), (3, .int a3), (4, .int r6)] [.int j20, .int a1, .ref x19] n h4 0) H (fun j20 H => ?_) (fun H => ?_)
            · obtain ⟨h22, eh22, H⟩ := ok_bind H
              refine r_sI hZ dX12_keep_119 eh22 ?_
              refine r_aload_n hZ dX12_keep_120 rfl ?_
              obtain ⟨x23, ex23, H⟩ := ok_bind H
              refine r_getR hZ fl_X12_37_11 dX12_keep_121 ex23 ?_
              refine r_iload_n hZ dX12_keep_124 rfl ?_
              refine r_iload hZ dX12_keep_125 rfl ?_
              refine r_iconst (v := (J 4)) hZ dX12_keep_127 (by decide) ?_
              refine ok_join (Q := fun j24 : Int32 => R Z 172 [] [.int j24, .int a1, .ref x23] n h22 0) H (fun j24 H => ?_) (fun H => ?_)
              · obtain ⟨h36, eh36, H⟩ := ok_bind H
                refine r_sI hZ dX12_keep_172 eh36 ?_
                refine r_iconst (v := (J 0)) hZ dX12_keep_173 (by decide) ?_
                have H := ok_some H
                subst H
                exact r_iret hZ hF dX12_keep_174
              · refine r_icmp_eq (tgt := 147) hZ dX12_keep_128 (by decide) (fun c35 => ?_) (fun c35 => ?_)
                · have H := ok_t H c35
                  refine r_bipush (v := (J (-15))) hZ dX12_keep_147 (by decide) ?_
                  refine r_goto (tgt := 172) hZ dX12_keep_149 (by decide) ?_
                  have H := ok_some H
                  exact r_pick [] (ls' := []) rfl H
                · have H := ok_f H c35
                  refine r_iload hZ dX12_keep_131 rfl ?_
                  refine r_iconst (v := (J 3)) hZ dX12_keep_133 (by decide) ?_
                  refine r_icmp_ne (tgt := 152) hZ dX12_keep_134 (by decide) (fun c34 => ?_) (fun c34 => ?_)
                  · have H := ok_f H c34
                    refine r_iload hZ dX12_keep_152 rfl ?_
                    refine r_iconst (v := (J 2)) hZ dX12_keep_154 (by decide) ?_
                    refine r_icmp_ne (tgt := 171) hZ dX12_keep_155 (by decide) (fun c27 => ?_) (fun c27 => ?_)
                    · have H := ok_f H c27
                      refine r_iload_n hZ dX12_keep_171 rfl ?_
                      have H := ok_some H
                      exact r_pick [] (ls' := []) rfl H
                    · have H := ok_t H c27
                      refine r_iload_n hZ dX12_keep_158 rfl ?_
                      refine r_bipush (v := (J 100)) hZ dX12_keep_159 (by decide) ?_
                      refine r_iadd hZ dX12_keep_161 ?_
                      refine r_aload_n hZ dX12_keep_162 rfl ?_
                      refine r_iload_n hZ dX12_keep_163 rfl ?_
                      obtain ⟨u25, eu25, H⟩ := ok_bind H
                      obtain ⟨r26, er26, H⟩ := ok_bind H
                      refine r_callV (As := [.int a3]) (rest := [.int (a3 + (J 100)), .int a1, .ref x23]) (st1 := [.int r26, .int (a3 + (J 100)), .int a1, .ref x23]) (N2 := 0) hZ dX12_keep_164 cw_X12_155_X12 rfl eu25 (s_X12_thin er26) rfl rfl (by decide) (Nat.le_of_ble_eq_true rfl) (Nat.le_refl 0) (Nat.le_refl _) (Or.inl rfl) rfl ?_
                      refine r_iadd hZ dX12_keep_167 ?_
                      refine r_goto (tgt := 172) hZ dX12_keep_168 (by decide) ?_
                      have H := ok_some H
                      exact r_pick [] (ls' := []) rfl H
                  · have H := ok_t H c34
                    refine r_aload_n hZ dX12_keep_137 rfl ?_
                    refine r_iload_n hZ dX12_keep_138 rfl ?_
                    obtain ⟨u28, eu28, H⟩ := ok_bind H
                    obtain ⟨r29, er29, H⟩ := ok_bind H
                    refine r_callV (As := [.int a3]) (rest := [.int a1, .ref x23]) (st1 := [.int r29, .int a1, .ref x23]) (N2 := 0) hZ dX12_keep_139 cw_X12_155_X12 rfl eu28 (s_X12_thin er29) rfl rfl (by decide) (Nat.le_of_ble_eq_true rfl) (Nat.le_refl 0) (Nat.le_refl _) (Or.inl rfl) rfl ?_
                    refine r_bipush (v := (J 31)) hZ dX12_keep_142 (by decide) ?_
                    refine r_icmp_ne (tgt := 152) hZ dX12_keep_144 (by decide) (fun c33 => ?_) (fun c33 => ?_)
                    · have H := ok_f H c33
                      refine r_iload hZ dX12_keep_152 rfl ?_
                      refine r_iconst (v := (J 2)) hZ dX12_keep_154 (by decide) ?_
                      refine r_icmp_ne (tgt := 171) hZ dX12_keep_155 (by decide) (fun c32 => ?_) (fun c32 => ?_)
                      · have H := ok_f H c32
                        refine r_iload_n hZ dX12_keep_171 rfl ?_
                        have H := ok_some H
                        exact r_pick [] (ls' := []) rfl H
                      · have H := ok_t H c32
                        refine r_iload_n hZ dX12_keep_158 rfl ?_
                        refine r_bipush (v := (J 100)) hZ dX12_keep_159 (by decide) ?_
                        refine r_iadd hZ dX12_keep_161 ?_
                        refine r_aload_n hZ dX12_keep_162 rfl ?_
                        refine r_iload_n hZ dX12_keep_163 rfl ?_
                        obtain ⟨u30, eu30, H⟩ := ok_bind H
                        obtain ⟨r31, er31, H⟩ := ok_bind H
                        refine r_callV (As := [.int a3]) (rest := [.int (a3 + (J 100)), .int a1, .ref x23]) (st1 := [.int r31, .int (a3 + (J 100)), .int a1, .ref x23]) (N2 := 0) hZ dX12_keep_164 cw_X12_155_X12 rfl eu30 (s_X12_thin er31) rfl rfl (by decide) (Nat.le_of_ble_eq_true rfl) (Nat.le_refl 0) (Nat.le_refl _) (Or.inl rfl) rfl ?_
                        refine r_iadd hZ dX12_keep_167 ?_
                        refine r_goto (tgt := 172) hZ dX12_keep_168 (by decide) ?_
                        have H := ok_some H
                        exact r_pick [] (ls' := []) rfl H
                    · have H := ok_t H c33
                      refine r_bipush (v := (J (-15))) hZ dX12_keep_147 (by decide) ?_
                      refine r_goto (tgt := 172) hZ dX12_keep_149 (by decide) ?_
                      have H := ok_some H
                      exact r_pick [] (ls' := []) rfl H
            · refine r_icmp_ne (tgt := 117) hZ dX12_keep_107 (by decide) (fun c21 => ?_) (fun c21 => ?_)
              · have H := ok_f H c21
                refine r_iload hZ dX12_keep_117 rfl ?_
                have H := ok_some H
                exact r_pick [0, 1, 3, 4] (ls' := [(0, .ref a0), (1, .int a1), (3, .int a3), (4, .int r6)]) rfl H
              · have H := ok_t H c21
                refine r_iconst (v := (J 2)) hZ dX12_keep_110 (by decide) ?_
                refine r_iload hZ dX12_keep_111 rfl ?_
                refine r_imul hZ dX12_keep_113 ?_
                refine r_goto (tgt := 119) hZ dX12_keep_114 (by decide) ?_
                have H := ok_some H
                exact r_pick [0, 1, 3, 4] (ls' := [(0, .ref a0), (1, .int a1), (3, .int a3), (4, .int r6)]) rfl H
          · refine r_if_ne (tgt := 75) hZ dX12_keep_68 (by decide) (fun c17 => ?_) (fun c17 => ?_)
            · have H := ok_f H c17
              refine r_iload hZ dX12_keep_75 rfl ?_
              refine r_iconst (v := (J 4)) hZ dX12_keep_77 (by decide) ?_
              refine r_icmp_ne (tgt := 91) hZ dX12_keep_78 (by decide) (fun c16 => ?_) (fun c16 => ?_)
              · have H := ok_f H c16
                refine r_aload_n hZ dX12_keep_91 rfl ?_
                refine r_iload_n hZ dX12_keep_92 rfl ?_
                obtain ⟨u12, eu12, H⟩ := ok_bind H
                obtain ⟨r13, er13, H⟩ := ok_bind H
                refine r_callV (As := [.int a3]) (rest := [.int (((J 100) + r8) + r10)]) (st1 := [.int r13, .int (((J 100) + r8) + r10)]) (N2 := 0) hZ dX12_keep_93 cw_X12_155_X12 rfl eu12 (s_X12_thin er13) rfl rfl (by decide) (Nat.le_of_ble_eq_true rfl) (Nat.le_refl 0) (Nat.le_refl _) (Or.inl rfl) rfl ?_
                have H := ok_some H
                exact r_pick [0, 1, 3, 4] (ls' := [(0, .ref a0), (1, .int a1), (3, .int a3), (4, .int r6)]) rfl H
              · have H := ok_t H c16
                refine r_aload_n hZ dX12_keep_81 rfl ?_
                refine r_iload_n hZ dX12_keep_82 rfl ?_
                refine r_bipush (v := (J 15)) hZ dX12_keep_83 (by decide) ?_
                obtain ⟨u14, eu14, H⟩ := ok_bind H
                obtain ⟨r15, er15, H⟩ := ok_bind H
                refine r_callV (As := [.int a3, .int (J 15)]) (rest := [.int (((J 100) + r8) + r10)]) (st1 := [.int r15, .int (((J 100) + r8) + r10)]) (N2 := 0) hZ dX12_keep_85 cw_X12_86_X12 rfl eu14 (s_X12_widthOf er15) rfl rfl (by decide) (Nat.le_of_ble_eq_true rfl) (Nat.le_refl 0) (Nat.le_refl _) (Or.inl rfl) rfl ?_
                refine r_goto (tgt := 96) hZ dX12_keep_88 (by decide) ?_
                have H := ok_some H
                exact r_pick [0, 1, 3, 4] (ls' := [(0, .ref a0), (1, .int a1), (3, .int a3), (4, .int r6)]) rfl H
            · have H := ok_t H c17
              refine r_iconst (v := (J 0)) hZ dX12_keep_71 (by decide) ?_
              refine r_goto (tgt := 96) hZ dX12_keep_72 (by decide) ?_
              have H := ok_some H
              exact r_pick [0, 1, 3, 4] (ls' := [(0, .ref a0), (1, .int a1), (3, .int a3), (4, .int r6)]) rfl H
        · have H := ok_t H c37
          refine r_iconst (v := (J 0)) hZ dX12_keep_43 (by decide) ?_
          have H := ok_some H
          subst H
          exact r_iret hZ hF dX12_keep_44
      · have H := ok_t H c76
        refine r_aload_n hZ dX12_keep_22 rfl ?_
        refine r_iload_n hZ dX12_keep_23 rfl ?_
        obtain ⟨u38, eu38, H⟩ := ok_bind H
        obtain ⟨r39, er39, H⟩ := ok_bind H
        refine r_callV (As := [.int a3]) (rest := []) (st1 := [.int r39]) (N2 := 0) hZ dX12_keep_24 cw_X12_121_X12 rfl eu38 (s_X12_isGear er39) rfl rfl (by decide) (Nat.le_of_ble_eq_true rfl) (Nat.le_refl 0) (Nat.le_refl _) (Or.inl rfl) rfl ?_
        refine r_if_ne (tgt := 32) hZ dX12_keep_27 (by decide) (fun c75 => ?_) (fun c75 => ?_)
        · have H := ok_f H c75
          refine r_aload_n hZ dX12_keep_32 rfl ?_
          obtain ⟨x40, ex40, H⟩ := ok_bind H
          refine r_getR hZ fl_X12_22_11 dX12_keep_33 ex40 ?_
          refine r_iload_n hZ dX12_keep_36 rfl ?_
          refine r_iload_n hZ dX12_keep_37 rfl ?_
          obtain ⟨h41, eh41, H⟩ := ok_bind H
          refine r_sI hZ dX12_keep_38 eh41 ?_
          refine r_iload_n hZ dX12_keep_39 rfl ?_
          refine r_if_ne (tgt := 45) hZ dX12_keep_40 (by decide) (fun c74 => ?_) (fun c74 => ?_)
          · have H := ok_f H c74
            refine r_aload_n hZ dX12_keep_45 rfl ?_
            refine r_iload_n hZ dX12_keep_46 rfl ?_
            obtain ⟨u42, eu42, H⟩ := ok_bind H
            obtain ⟨r43, er43, H⟩ := ok_bind H
            refine r_callV (As := [.int a3]) (rest := []) (st1 := [.int r43]) (N2 := 0) hZ dX12_keep_47 cw_X12_79_X12 rfl eu42 (s_X12_kind er43) rfl rfl (by decide) (Nat.le_of_ble_eq_true rfl) (Nat.le_refl 0) (Nat.le_refl _) (Or.inl rfl) rfl ?_
            refine r_istore hZ dX12_keep_50 (by decide) (r_pick [0, 1, 3, 4] (ls' := [(0, .ref a0), (1, .int a1), (3, .int a3), (4, .int r43)]) rfl ?_)
            refine r_bipush (v := (J 100)) hZ dX12_keep_52 (by decide) ?_
            refine r_aload_n hZ dX12_keep_54 rfl ?_
            refine r_iload_n hZ dX12_keep_55 rfl ?_
            obtain ⟨u44, eu44, H⟩ := ok_bind H
            obtain ⟨r45, er45, H⟩ := ok_bind H
            refine r_callV (As := [.int a3]) (rest := [.int (J 100)]) (st1 := [.int r45, .int (J 100)]) (N2 := 0) hZ dX12_keep_56 cw_X12_83_X12 rfl eu44 (s_X12_teeth er45) rfl rfl (by decide) (Nat.le_of_ble_eq_true rfl) (Nat.le_refl 0) (Nat.le_refl _) (Or.inl rfl) rfl ?_
            refine r_iadd hZ dX12_keep_59 ?_
            refine r_aload_n hZ dX12_keep_60 rfl ?_
            refine r_iload_n hZ dX12_keep_61 rfl ?_
            obtain ⟨u46, eu46, H⟩ := ok_bind H
            obtain ⟨r47, er47, H⟩ := ok_bind H
            refine r_callV (As := [.int a3]) (rest := [.int ((J 100) + r45)]) (st1 := [.int r47, .int ((J 100) + r45)]) (N2 := 0) hZ dX12_keep_62 cw_X12_149_X12 rfl eu46 (s_X12_hard er47) rfl rfl (by decide) (Nat.le_of_ble_eq_true rfl) (Nat.le_refl 0) (Nat.le_refl _) (Or.inl rfl) rfl ?_
            refine r_iadd hZ dX12_keep_65 ?_
            refine r_iload hZ dX12_keep_66 rfl ?_
            refine ok_join (Q := fun j48 : Int32 => R Z 96 [(0, .ref a0), (1, .int a1), (3, .int a3), (4, .int r43)] [.int j48, .int (((J 100) + r45) + r47)] n h41 0) H (fun j48 H => ?_) (fun H => ?_)
            · refine r_iadd hZ dX12_keep_96 ?_
              obtain ⟨x55, ex55, H⟩ := ok_bind H
              refine r_topi ex55 ?_
              refine r_istore hZ dX12_keep_97 (by decide) (r_pick [0, 1, 3, 4, 5] (ls' := [(0, .ref a0), (1, .int a1), (3, .int a3), (4, .int r43), (5, .int x55)]) rfl ?_)
              refine r_aload_n hZ dX12_keep_99 rfl ?_
              obtain ⟨x56, ex56, H⟩ := ok_bind H
              refine r_getR hZ fl_X12_34_11 dX12_keep_100 ex56 ?_
              refine r_iload_n hZ dX12_keep_103 rfl ?_
              refine r_iload hZ dX12_keep_104 rfl ?_
              refine r_iconst (v := (J 3)) hZ dX12_keep_106 (by decide) ?_
              refine ok_join (Q := fun j57 : Int32 => R Z 119 [(0, .ref a0), (1, .int a1), (3, .int a3), (4, .int r43)] [.int j57, .int a1, .ref x56] n h41 0) H (fun j57 H => ?_) (fun H => ?_)
              · obtain ⟨h59, eh59, H⟩ := ok_bind H
                refine r_sI hZ dX12_keep_119 eh59 ?_
                refine r_aload_n hZ dX12_keep_120 rfl ?_
                obtain ⟨x60, ex60, H⟩ := ok_bind H
                refine r_getR hZ fl_X12_37_11 dX12_keep_121 ex60 ?_
                refine r_iload_n hZ dX12_keep_124 rfl ?_
                refine r_iload hZ dX12_keep_125 rfl ?_
                refine r_iconst (v := (J 4)) hZ dX12_keep_127 (by decide) ?_
                refine ok_join (Q := fun j61 : Int32 => R Z 172 [] [.int j61, .int a1, .ref x60] n h59 0) H (fun j61 H => ?_) (fun H => ?_)
                · obtain ⟨h73, eh73, H⟩ := ok_bind H
                  refine r_sI hZ dX12_keep_172 eh73 ?_
                  refine r_iconst (v := (J 0)) hZ dX12_keep_173 (by decide) ?_
                  have H := ok_some H
                  subst H
                  exact r_iret hZ hF dX12_keep_174
                · refine r_icmp_eq (tgt := 147) hZ dX12_keep_128 (by decide) (fun c72 => ?_) (fun c72 => ?_)
                  · have H := ok_t H c72
                    refine r_bipush (v := (J (-15))) hZ dX12_keep_147 (by decide) ?_
                    refine r_goto (tgt := 172) hZ dX12_keep_149 (by decide) ?_
                    have H := ok_some H
                    exact r_pick [] (ls' := []) rfl H
                  · have H := ok_f H c72
                    refine r_iload hZ dX12_keep_131 rfl ?_
                    refine r_iconst (v := (J 3)) hZ dX12_keep_133 (by decide) ?_
                    refine r_icmp_ne (tgt := 152) hZ dX12_keep_134 (by decide) (fun c71 => ?_) (fun c71 => ?_)
                    · have H := ok_f H c71
                      refine r_iload hZ dX12_keep_152 rfl ?_
                      refine r_iconst (v := (J 2)) hZ dX12_keep_154 (by decide) ?_
                      refine r_icmp_ne (tgt := 171) hZ dX12_keep_155 (by decide) (fun c64 => ?_) (fun c64 => ?_)
                      · have H := ok_f H c64
                        refine r_iload_n hZ dX12_keep_171 rfl ?_
                        have H := ok_some H
                        exact r_pick [] (ls' := []) rfl H
                      · have H := ok_t H c64
                        refine r_iload_n hZ dX12_keep_158 rfl ?_
                        refine r_bipush (v := (J 100)) hZ dX12_keep_159 (by decide) ?_
                        refine r_iadd hZ dX12_keep_161 ?_
                        refine r_aload_n hZ dX12_keep_162 rfl ?_
                        refine r_iload_n hZ dX12_keep_163 rfl ?_
                        obtain ⟨u62, eu62, H⟩ := ok_bind H
                        obtain ⟨r63, er63, H⟩ := ok_bind H
                        refine r_callV (As := [.int a3]) (rest := [.int (a3 + (J 100)), .int a1, .ref x60]) (st1 := [.int r63, .int (a3 + (J 100)), .int a1, .ref x60]) (N2 := 0) hZ dX12_keep_164 cw_X12_155_X12 rfl eu62 (s_X12_thin er63) rfl rfl (by decide) (Nat.le_of_ble_eq_true rfl) (Nat.le_refl 0) (Nat.le_refl _) (Or.inl rfl) rfl ?_
                        refine r_iadd hZ dX12_keep_167 ?_
                        refine r_goto (tgt := 172) hZ dX12_keep_168 (by decide) ?_
                        have H := ok_some H
                        exact r_pick [] (ls' := []) rfl H
                    · have H := ok_t H c71
                      refine r_aload_n hZ dX12_keep_137 rfl ?_
                      refine r_iload_n hZ dX12_keep_138 rfl ?_
                      obtain ⟨u65, eu65, H⟩ := ok_bind H
                      obtain ⟨r66, er66, H⟩ := ok_bind H
                      refine r_callV (As := [.int a3]) (rest := [.int a1, .ref x60]) (st1 := [.int r66, .int a1, .ref x60]) (N2 := 0) hZ dX12_keep_139 cw_X12_155_X12 rfl eu65 (s_X12_thin er66) rfl rfl (by decide) (Nat.le_of_ble_eq_true rfl) (Nat.le_refl 0) (Nat.le_refl _) (Or.inl rfl) rfl ?_
                      refine r_bipush (v := (J 31)) hZ dX12_keep_142 (by decide) ?_
                      refine r_icmp_ne (tgt := 152) hZ dX12_keep_144 (by decide) (fun c70 => ?_) (fun c70 => ?_)
                      · have H := ok_f H c70
                        refine r_iload hZ dX12_keep_152 rfl ?_
                        refine r_iconst (v := (J 2)) hZ dX12_keep_154 (by decide) ?_
                        refine r_icmp_ne (tgt := 171) hZ dX12_keep_155 (by decide) (fun c69 => ?_) (fun c69 => ?_)
                        · have H := ok_f H c69
                          refine r_iload_n hZ dX12_keep_171 rfl ?_
                          have H := ok_some H
                          exact r_pick [] (ls' := []) rfl H
                        · have H := ok_t H c69
                          refine r_iload_n hZ dX12_keep_158 rfl ?_
                          refine r_bipush (v := (J 100)) hZ dX12_keep_159 (by decide) ?_
                          refine r_iadd hZ dX12_keep_161 ?_
                          refine r_aload_n hZ dX12_keep_162 rfl ?_
                          refine r_iload_n hZ dX12_keep_163 rfl ?_
                          obtain ⟨u67, eu67, H⟩ := ok_bind H
                          obtain ⟨r68, er68, H⟩ := ok_bind H
                          refine r_callV (As := [.int a3]) (rest := [.int (a3 + (J 100)), .int a1, .ref x60]) (st1 := [.int r68, .int (a3 + (J 100)), .int a1, .ref x60]) (N2 := 0) hZ dX12_keep_164 cw_X12_155_X12 rfl eu67 (s_X12_thin er68) rfl rfl (by decide) (Nat.le_of_ble_eq_true rfl) (Nat.le_refl 0) (Nat.le_refl _) (Or.inl rfl) rfl ?_
                          refine r_iadd hZ dX12_keep_167 ?_
                          refine r_goto (tgt := 172) hZ dX12_keep_168 (by decide) ?_
                          have H := ok_some H
                          exact r_pick [] (ls' := []) rfl H
                      · have H := ok_t H c70
                        refine r_bipush (v := (J (-15))) hZ dX12_keep_147 (by decide) ?_
                        refine r_goto (tgt := 172) hZ dX12_keep_149 (by decide) ?_
                        have H := ok_some H
                        exact r_pick [] (ls' := []) rfl H
              · refine r_icmp_ne (tgt := 117) hZ dX12_keep_107 (by decide) (fun c58 => ?_) (fun c58 => ?_)
                · have H := ok_f H c58
                  refine r_iload hZ dX12_keep_117 rfl ?_
                  have H := ok_some H
                  exact r_pick [0, 1, 3, 4] (ls' := [(0, .ref a0), (1, .int a1), (3, .int a3), (4, .int r43)]) rfl H
                · have H := ok_t H c58
                  refine r_iconst (v := (J 2)) hZ dX12_keep_110 (by decide) ?_
                  refine r_iload hZ dX12_keep_111 rfl ?_
                  refine r_imul hZ dX12_keep_113 ?_
                  refine r_goto (tgt := 119) hZ dX12_keep_114 (by decide) ?_
                  have H := ok_some H
                  exact r_pick [0, 1, 3, 4] (ls' := [(0, .ref a0), (1, .int a1), (3, .int a3), (4, .int r43)]) rfl H
            · refine r_if_ne (tgt := 75) hZ dX12_keep_68 (by decide) (fun c54 => ?_) (fun c54 => ?_)
              · have H := ok_f H c54
                refine r_iload hZ dX12_keep_75 rfl ?_
                refine r_iconst (v := (J 4)) hZ dX12_keep_77 (by decide) ?_
                refine r_icmp_ne (tgt := 91) hZ dX12_keep_78 (by decide) (fun c53 => ?_) (fun c53 => ?_)
                · have H := ok_f H c53
                  refine r_aload_n hZ dX12_keep_91 rfl ?_
                  refine r_iload_n hZ dX12_keep_92 rfl ?_
                  obtain ⟨u49, eu49, H⟩ := ok_bind H
                  obtain ⟨r50, er50, H⟩ := ok_bind H
                  refine r_callV (As := [.int a3]) (rest := [.int (((J 100) + r45) + r47)]) (st1 := [.int r50, .int (((J 100) + r45) + r47)]) (N2 := 0) hZ dX12_keep_93 cw_X12_155_X12 rfl eu49 (s_X12_thin er50) rfl rfl (by decide) (Nat.le_of_ble_eq_true rfl) (Nat.le_refl 0) (Nat.le_refl _) (Or.inl rfl) rfl ?_
                  have H := ok_some H
                  exact r_pick [0, 1, 3, 4] (ls' := [(0, .ref a0), (1, .int a1), (3, .int a3), (4, .int r43)]) rfl H
                · have H := ok_t H c53
                  refine r_aload_n hZ dX12_keep_81 rfl ?_
                  refine r_iload_n hZ dX12_keep_82 rfl ?_
                  refine r_bipush (v := (J 15)) hZ dX12_keep_83 (by decide) ?_
                  obtain ⟨u51, eu51, H⟩ := ok_bind H
                  obtain ⟨r52, er52, H⟩ := ok_bind H
                  refine r_callV (As := [.int a3, .int (J 15)]) (rest := [.int (((J 100) + r45) + r47)]) (st1 := [.int r52, .int (((J 100) + r45) + r47)]) (N2 := 0) hZ dX12_keep_85 cw_X12_86_X12 rfl eu51 (s_X12_widthOf er52) rfl rfl (by decide) (Nat.le_of_ble_eq_true rfl) (Nat.le_refl 0) (Nat.le_refl _) (Or.inl rfl) rfl ?_
                  refine r_goto (tgt := 96) hZ dX12_keep_88 (by decide) ?_
                  have H := ok_some H
                  exact r_pick [0, 1, 3, 4] (ls' := [(0, .ref a0), (1, .int a1), (3, .int a3), (4, .int r43)]) rfl H
              · have H := ok_t H c54
                refine r_iconst (v := (J 0)) hZ dX12_keep_71 (by decide) ?_
                refine r_goto (tgt := 96) hZ dX12_keep_72 (by decide) ?_
                have H := ok_some H
                exact r_pick [0, 1, 3, 4] (ls' := [(0, .ref a0), (1, .int a1), (3, .int a3), (4, .int r43)]) rfl H
          · have H := ok_t H c74
            refine r_iconst (v := (J 0)) hZ dX12_keep_43 (by decide) ?_
            have H := ok_some H
            subst H
            exact r_iret hZ hF dX12_keep_44
        · have H := ok_t H c75
          refine r_iconst (v := (J (-1))) hZ dX12_keep_30 (by decide) ?_
          have H := ok_some H
          subst H
          exact r_iret hZ hF dX12_keep_31
def b_X12_row_58 (p0 : Nat) (p1 : Int32) (s : Int32 × Hp) : Option ((Int32 × Hp) ⊕ ((Hp))) :=
  (if (J 120) ≤ s.1 then
    some (.inr (s.2))
  else
    (gR s.2 p0 11 7).bind fun x1 =>
    (sI s.2 x1 (((J 120) * p1) + s.1) (J 0)).bind fun h2 =>
    (some (s.1 + (J 1))).bind fun x3 =>
    some (.inl (x3, h2)))
set_option maxRecDepth 100000 in
set_option maxHeartbeats 4000000 in
theorem l_X12_row_58 {Z : Zc} (hZ : Fx cX12_row RX12 5 4 0 Z) {n : Nat} {p0 : Nat} {p1 : Int32} {P : ((Hp)) → Prop} (hx0 : ∀ e : Hp, P (e) → R Z 84 [] [] n e 0) : ∀ (m : Nat) (s : Int32 × Hp), Ok (iter (b_X12_row_58 p0 p1) m s) P → R Z 58 [(0, .ref p0), (1, .int p1), (4, .int s.1)] [] n s.2 0 := by
  intro m
  induction m with
  | zero => exact fun s H => ok_iter0 H
  | succ m ih =>
    intro s H
    have H := ok_iter H
    unfold b_X12_row_58 at H
    refine r_iload hZ dX12_row_58 rfl ?_
    refine r_bipush (v := (J 120)) hZ dX12_row_60 (by decide) ?_
    refine r_icmp_ge (tgt := 84) hZ dX12_row_62 (by decide) (fun c4 => ?_) (fun c4 => ?_)
    · have H := ok_t H c4
      exact r_pick [] (ls' := []) rfl (hx0 _ (ki_r H))
    · have H := ok_f H c4
      refine r_aload_n hZ dX12_row_65 rfl ?_
      obtain ⟨x1, ex1, H⟩ := ok_bind H
      refine r_getR hZ fl_X12_31_11 dX12_row_66 ex1 ?_
      refine r_bipush (v := (J 120)) hZ dX12_row_69 (by decide) ?_
      refine r_iload_n hZ dX12_row_71 rfl ?_
      refine r_imul hZ dX12_row_72 ?_
      refine r_iload hZ dX12_row_73 rfl ?_
      refine r_iadd hZ dX12_row_75 ?_
      refine r_iconst (v := (J 0)) hZ dX12_row_76 (by decide) ?_
      obtain ⟨h2, eh2, H⟩ := ok_bind H
      refine r_sI hZ dX12_row_77 eh2 ?_
      obtain ⟨x3, ex3, H⟩ := ok_bind H
      refine r_iincE (w := (J 1)) hZ dX12_row_78 (by decide) rfl (by decide) ex3 (r_pick [0, 1, 4] (ls' := [(0, .ref p0), (1, .int p1), (4, .int x3)]) rfl ?_)
      refine r_goto (tgt := 58) hZ dX12_row_81 (by decide) ?_
      exact r_pick [0, 1, 4] (ls' := [(0, .ref p0), (1, .int p1), (4, .int x3)]) rfl (ih _ (ki_l H))
def f_X12_row  (h : Hp) (a0 : Nat) (a1 : Int32) (a2 : Int32) (a3 : Int32) : Option (Int32 × Hp) :=
  (f_X12_isShelf a1).bind fun r1 =>
  (if r1 = 0 then
    some ((J (-1)), h)
  else
    (f_X12_isIn (a2.toInt64) (K 0) (K 2)).bind fun r2 =>
    (if r2 = 0 then
      some ((J (-1)), h)
    else
      (if a3 ≤ (J 120) then
        (if 0 ≤ a3 then
          (gR h a0 11 4).bind fun x3 =>
          (sI h x3 a1 (J 2)).bind fun h4 =>
          (gR h4 a0 11 5).bind fun x5 =>
          (sI h4 x5 a1 a2).bind fun h6 =>
          (gR h6 a0 11 6).bind fun x7 =>
          (sI h6 x7 a1 a3).bind fun h8 =>
          (some (J 0)).bind fun x9 =>
          (iter (b_X12_row_58 a0 a1) FU (x9, h8)).bind fun e10 =>
          some ((J 0), e10)
        else
          some ((J (-14)), h))
      else
        some ((J (-1)), h))))
set_option maxRecDepth 100000 in
set_option maxHeartbeats 4000000 in
theorem s_X12_row {n : Nat} {h : Hp} {a0 : Nat} {a1 : Int32} {a2 : Int32} {a3 : Int32}  {r : Int32 × Hp} (hf : f_X12_row  h a0 a1 a2 a3 = some r) : Ev 4 yX12_row cX12_row 5 (some .int) [.ref a0, .int a1, .int a2, .int a3] n h (some (.int r.1)) n r.2 := by
  refine Ev_of RX12 rfl (by decide) (Nat.le_of_ble_eq_true rfl) (Nat.le_refl _) (Or.inl rfl) (fun Z hZ hF hN hI => ?_)
  have H : Ok (f_X12_row  h a0 a1 a2 a3) (fun y => y = r) := ⟨_, hf, rfl⟩
  unfold f_X12_row at H
  refine r_ls (ls' := [(0, .ref a0), (1, .int a1), (2, .int a2), (3, .int a3)]) rfl ?_
  refine r_iload_n hZ dX12_row_0 rfl ?_
  obtain ⟨r1, er1, H⟩ := ok_bind H
  refine r_callS (As := [.int a1]) (rest := []) (st1 := [.int r1]) (N2 := 0) hZ dX12_row_1 cw_X12_127 (s_X12_isShelf er1) rfl rfl (by decide) (Nat.le_of_ble_eq_true rfl) (Nat.le_refl 0) (Nat.le_refl _) (Or.inl rfl) rfl ?_
  refine r_if_eq (tgt := 25) hZ dX12_row_4 (by decide) (fun c14 => ?_) (fun c14 => ?_)
  · have H := ok_t H c14
    refine r_iconst (v := (J (-1))) hZ dX12_row_25 (by decide) ?_
    have H := ok_some H
    subst H
    exact r_iret hZ hF dX12_row_26
  · have H := ok_f H c14
    refine r_iload_n hZ dX12_row_7 rfl ?_
    refine r_i2l hZ dX12_row_8 ?_
    refine r_lconst (v := (K 0)) hZ dX12_row_9 (by decide) ?_
    refine r_ldc2 (v := (K 2)) hZ wc_X12_166 dX12_row_10 ?_
    obtain ⟨r2, er2, H⟩ := ok_bind H
    refine r_callS (As := [.long (a2.toInt64), .long (K 0), .long (K 2)]) (rest := []) (st1 := [.int r2]) (N2 := 0) hZ dX12_row_13 cw_X12_73 (s_X12_isIn er2) rfl rfl (by decide) (Nat.le_of_ble_eq_true rfl) (Nat.le_refl 0) (Nat.le_refl _) (Or.inl rfl) rfl ?_
    refine r_if_eq (tgt := 25) hZ dX12_row_16 (by decide) (fun c13 => ?_) (fun c13 => ?_)
    · have H := ok_t H c13
      refine r_iconst (v := (J (-1))) hZ dX12_row_25 (by decide) ?_
      have H := ok_some H
      subst H
      exact r_iret hZ hF dX12_row_26
    · have H := ok_f H c13
      refine r_iload_n hZ dX12_row_19 rfl ?_
      refine r_bipush (v := (J 120)) hZ dX12_row_20 (by decide) ?_
      refine r_icmp_le (tgt := 27) hZ dX12_row_22 (by decide) (fun c12 => ?_) (fun c12 => ?_)
      · have H := ok_t H c12
        refine r_iload_n hZ dX12_row_27 rfl ?_
        refine r_if_ge (tgt := 34) hZ dX12_row_28 (by decide) (fun c11 => ?_) (fun c11 => ?_)
        · have H := ok_t H c11
          refine r_aload_n hZ dX12_row_34 rfl ?_
          obtain ⟨x3, ex3, H⟩ := ok_bind H
          refine r_getR hZ fl_X12_22_11 dX12_row_35 ex3 ?_
          refine r_iload_n hZ dX12_row_38 rfl ?_
          refine r_iconst (v := (J 2)) hZ dX12_row_39 (by decide) ?_
          obtain ⟨h4, eh4, H⟩ := ok_bind H
          refine r_sI hZ dX12_row_40 eh4 ?_
          refine r_aload_n hZ dX12_row_41 rfl ?_
          obtain ⟨x5, ex5, H⟩ := ok_bind H
          refine r_getR hZ fl_X12_25_11 dX12_row_42 ex5 ?_
          refine r_iload_n hZ dX12_row_45 rfl ?_
          refine r_iload_n hZ dX12_row_46 rfl ?_
          obtain ⟨h6, eh6, H⟩ := ok_bind H
          refine r_sI hZ dX12_row_47 eh6 ?_
          refine r_aload_n hZ dX12_row_48 rfl ?_
          obtain ⟨x7, ex7, H⟩ := ok_bind H
          refine r_getR hZ fl_X12_28_11 dX12_row_49 ex7 ?_
          refine r_iload_n hZ dX12_row_52 rfl ?_
          refine r_iload_n hZ dX12_row_53 rfl ?_
          obtain ⟨h8, eh8, H⟩ := ok_bind H
          refine r_sI hZ dX12_row_54 eh8 ?_
          refine r_iconst (v := (J 0)) hZ dX12_row_55 (by decide) ?_
          obtain ⟨x9, ex9, H⟩ := ok_bind H
          refine r_topi ex9 ?_
          refine r_istore hZ dX12_row_56 (by decide) (r_pick [0, 1, 4] (ls' := [(0, .ref a0), (1, .int a1), (4, .int x9)]) rfl ?_)
          have H := ok_bindK H
          refine r_pick [0, 1, 4] (ls' := [(0, .ref a0), (1, .int a1), (4, .int x9)]) rfl (l_X12_row_58 hZ (fun e10 H => ?_) FU _ H)
          · refine r_iconst (v := (J 0)) hZ dX12_row_84 (by decide) ?_
            have H := ok_some H
            subst H
            exact r_iret hZ hF dX12_row_85
        · have H := ok_f H c11
          refine r_bipush (v := (J (-14))) hZ dX12_row_31 (by decide) ?_
          have H := ok_some H
          subst H
          exact r_iret hZ hF dX12_row_33
      · have H := ok_f H c12
        refine r_iconst (v := (J (-1))) hZ dX12_row_25 (by decide) ?_
        have H := ok_some H
        subst H
        exact r_iret hZ hF dX12_row_26
def f_X12_put  (h : Hp) (a0 : Nat) (a1 : Int32) (a2 : Int32) (a3 : Int32) : Option (Int32 × Hp) :=
  (isO h a0 11).bind fun u1 =>
  (f_X12_wrongRow h a0 a1 (J (-1))).bind fun r2 =>
  (if r2 = 0 then
    (gR h a0 11 6).bind fun x3 =>
    (aI h x3 a1).bind fun x4 =>
    (f_X12_isIn (a2.toInt64) (K 0) ((x4 - (J 1)).toInt64)).bind fun r5 =>
    (if r5 = 0 then
      some ((J (-13)), h)
    else
      (gR h a0 11 7).bind fun x6 =>
      (gR h a0 11 5).bind fun x7 =>
      (aI h x7 a1).bind fun x8 =>
      ((if x8 = 0 then
        some (a3.toInt8.toInt32)
      else
        (gR h a0 11 5).bind fun x10 =>
        (aI h x10 a1).bind fun x11 =>
        (if x11 = (J 1) then
          some (a3.toInt16.toInt32)
        else
          some a3))).bind fun (j9 : Int32) =>
      (sI h x6 (((J 120) * a1) + a2) j9).bind fun h14 =>
      some ((J 0), h14))
  else
    some (r2, h))
set_option maxRecDepth 100000 in
set_option maxHeartbeats 4000000 in
theorem s_X12_put {n : Nat} {h : Hp} {a0 : Nat} {a1 : Int32} {a2 : Int32} {a3 : Int32}  {r : Int32 × Hp} (hf : f_X12_put  h a0 a1 a2 a3 = some r) : Ev 5 yX12_put cX12_put 5 (some .int) [.ref a0, .int a1, .int a2, .int a3] n h (some (.int r.1)) n r.2 := by
  refine Ev_of RX12 rfl (by decide) (Nat.le_of_ble_eq_true rfl) (Nat.le_refl _) (Or.inl rfl) (fun Z hZ hF hN hI => ?_)
  have H : Ok (f_X12_put  h a0 a1 a2 a3) (fun y => y = r) := ⟨_, hf, rfl⟩
  unfold f_X12_put at H
  refine r_ls (ls' := [(0, .ref a0), (1, .int a1), (2, .int a2), (3, .int a3)]) rfl ?_
  refine r_aload_n hZ dX12_put_0 rfl ?_
  refine r_iload_n hZ dX12_put_1 rfl ?_
  refine r_iconst (v := (J (-1))) hZ dX12_put_2 (by decide) ?_
  obtain ⟨u1, eu1, H⟩ := ok_bind H
  obtain ⟨r2, er2, H⟩ := ok_bind H
  refine r_callV (As := [.int a1, .int (J (-1))]) (rest := []) (st1 := [.int r2]) (N2 := 0) hZ dX12_put_3 cw_X12_130_X12 rfl eu1 (s_X12_wrongRow er2) rfl rfl (by decide) (Nat.le_of_ble_eq_true rfl) (Nat.le_refl 0) (Nat.le_refl _) (Or.inl rfl) rfl ?_
  refine r_istore hZ dX12_put_6 (by decide) (r_pick [0, 1, 2, 3, 4] (ls' := [(0, .ref a0), (1, .int a1), (2, .int a2), (3, .int a3), (4, .int r2)]) rfl ?_)
  refine r_iload hZ dX12_put_8 rfl ?_
  refine r_if_eq (tgt := 16) hZ dX12_put_10 (by decide) (fun c16 => ?_) (fun c16 => ?_)
  · have H := ok_t H c16
    refine r_iload_n hZ dX12_put_16 rfl ?_
    refine r_i2l hZ dX12_put_17 ?_
    refine r_lconst (v := (K 0)) hZ dX12_put_18 (by decide) ?_
    refine r_aload_n hZ dX12_put_19 rfl ?_
    obtain ⟨x3, ex3, H⟩ := ok_bind H
    refine r_getR hZ fl_X12_28_11 dX12_put_20 ex3 ?_
    refine r_iload_n hZ dX12_put_23 rfl ?_
    obtain ⟨x4, ex4, H⟩ := ok_bind H
    refine r_aI hZ dX12_put_24 ex4 ?_
    refine r_iconst (v := (J 1)) hZ dX12_put_25 (by decide) ?_
    refine r_isub hZ dX12_put_26 ?_
    refine r_i2l hZ dX12_put_27 ?_
    obtain ⟨r5, er5, H⟩ := ok_bind H
    refine r_callS (As := [.long (a2.toInt64), .long (K 0), .long ((x4 - (J 1)).toInt64)]) (rest := []) (st1 := [.int r5]) (N2 := 0) hZ dX12_put_28 cw_X12_73 (s_X12_isIn er5) rfl rfl (by decide) (Nat.le_of_ble_eq_true rfl) (Nat.le_refl 0) (Nat.le_refl _) (Or.inl rfl) rfl ?_
    refine r_if_ne (tgt := 37) hZ dX12_put_31 (by decide) (fun c15 => ?_) (fun c15 => ?_)
    · have H := ok_f H c15
      refine r_aload_n hZ dX12_put_37 rfl ?_
      obtain ⟨x6, ex6, H⟩ := ok_bind H
      refine r_getR hZ fl_X12_31_11 dX12_put_38 ex6 ?_
      refine r_bipush (v := (J 120)) hZ dX12_put_41 (by decide) ?_
      refine r_iload_n hZ dX12_put_43 rfl ?_
      refine r_imul hZ dX12_put_44 ?_
      refine r_iload_n hZ dX12_put_45 rfl ?_
      refine r_iadd hZ dX12_put_46 ?_
      refine r_aload_n hZ dX12_put_47 rfl ?_
      obtain ⟨x7, ex7, H⟩ := ok_bind H
      refine r_getR hZ fl_X12_25_11 dX12_put_48 ex7 ?_
      refine r_iload_n hZ dX12_put_51 rfl ?_
      obtain ⟨x8, ex8, H⟩ := ok_bind H
      refine r_aI hZ dX12_put_52 ex8 ?_
      refine ok_join (Q := fun j9 : Int32 => R Z 77 [] [.int j9, .int (((J 120) * a1) + a2), .ref x6] n h 0) H (fun j9 H => ?_) (fun H => ?_)
      · obtain ⟨h14, eh14, H⟩ := ok_bind H
        refine r_sI hZ dX12_put_77 eh14 ?_
        refine r_iconst (v := (J 0)) hZ dX12_put_78 (by decide) ?_
        have H := ok_some H
        subst H
        exact r_iret hZ hF dX12_put_79
      · refine r_if_ne (tgt := 61) hZ dX12_put_53 (by decide) (fun c13 => ?_) (fun c13 => ?_)
        · have H := ok_f H c13
          refine r_aload_n hZ dX12_put_61 rfl ?_
          obtain ⟨x10, ex10, H⟩ := ok_bind H
          refine r_getR hZ fl_X12_25_11 dX12_put_62 ex10 ?_
          refine r_iload_n hZ dX12_put_65 rfl ?_
          obtain ⟨x11, ex11, H⟩ := ok_bind H
          refine r_aI hZ dX12_put_66 ex11 ?_
          refine r_iconst (v := (J 1)) hZ dX12_put_67 (by decide) ?_
          refine r_icmp_ne (tgt := 76) hZ dX12_put_68 (by decide) (fun c12 => ?_) (fun c12 => ?_)
          · have H := ok_f H c12
            refine r_iload_n hZ dX12_put_76 rfl ?_
            have H := ok_some H
            exact r_pick [] (ls' := []) rfl H
          · have H := ok_t H c12
            refine r_iload_n hZ dX12_put_71 rfl ?_
            refine r_i2s hZ dX12_put_72 ?_
            refine r_goto (tgt := 77) hZ dX12_put_73 (by decide) ?_
            have H := ok_some H
            exact r_pick [] (ls' := []) rfl H
        · have H := ok_t H c13
          refine r_iload_n hZ dX12_put_56 rfl ?_
          refine r_i2b hZ dX12_put_57 ?_
          refine r_goto (tgt := 77) hZ dX12_put_58 (by decide) ?_
          have H := ok_some H
          exact r_pick [] (ls' := []) rfl H
    · have H := ok_t H c15
      refine r_bipush (v := (J (-13))) hZ dX12_put_34 (by decide) ?_
      have H := ok_some H
      subst H
      exact r_iret hZ hF dX12_put_36
  · have H := ok_f H c16
    refine r_iload hZ dX12_put_13 rfl ?_
    have H := ok_some H
    subst H
    exact r_iret hZ hF dX12_put_15
def f_X12_element  (h : Hp) (a0 : Nat) (a1 : Int32) (a2 : Int32) : Option (Int64 × Hp) :=
  (f_X12_isShelf a1).bind fun r1 =>
  ((if r1 = 0 then
    some (J 1)
  else
    (gR h a0 11 4).bind fun x3 =>
    (aI h x3 a1).bind fun x4 =>
    (if x4 = (J 2) then
      (gR h a0 11 6).bind fun x5 =>
      (aI h x5 a1).bind fun x6 =>
      (f_X12_isIn (a2.toInt64) (K 0) ((x6 - (J 1)).toInt64)).bind fun r7 =>
      (if r7 = 0 then
        some (J 2)
      else
        some (J 0))
    else
      some (J 2)))).bind fun (j2 : Int32) =>
  (pF h a0 11 11 (.int j2)).bind fun h11 =>
  (gI h11 a0 11 11).bind fun x12 =>
  ((if x12 = 0 then
    (gR h11 a0 11 7).bind fun x14 =>
    (aI h11 x14 (((J 120) * a1) + a2)).bind fun x15 =>
    some (x15.toInt64)
  else
    some (K 0))).bind fun (j13 : Int64) =>
  some (j13, h11)
set_option maxRecDepth 100000 in
set_option maxHeartbeats 4000000 in
theorem s_X12_element {n : Nat} {h : Hp} {a0 : Nat} {a1 : Int32} {a2 : Int32}  {r : Int64 × Hp} (hf : f_X12_element  h a0 a1 a2 = some r) : Ev 4 yX12_element cX12_element 3 (some .long) [.ref a0, .int a1, .int a2] n h (some (.long r.1)) n r.2 := by
  refine Ev_of RX12 rfl (by decide) (Nat.le_of_ble_eq_true rfl) (Nat.le_refl _) (Or.inl rfl) (fun Z hZ hF hN hI => ?_)
  have H : Ok (f_X12_element  h a0 a1 a2) (fun y => y = r) := ⟨_, hf, rfl⟩
  unfold f_X12_element at H
  refine r_ls (ls' := [(0, .ref a0), (1, .int a1), (2, .int a2)]) rfl ?_
  refine r_aload_n hZ dX12_element_0 rfl ?_
  refine r_iload_n hZ dX12_element_1 rfl ?_
  obtain ⟨r1, er1, H⟩ := ok_bind H
  refine r_callS (As := [.int a1]) (rest := [.ref a0]) (st1 := [.int r1, .ref a0]) (N2 := 0) hZ dX12_element_2 cw_X12_127 (s_X12_isShelf er1) rfl rfl (by decide) (Nat.le_of_ble_eq_true rfl) (Nat.le_refl 0) (Nat.le_refl _) (Or.inl rfl) rfl ?_
  refine ok_join (Q := fun j2 : Int32 => R Z 45 [(0, .ref a0), (1, .int a1), (2, .int a2)] [.int j2, .ref a0] n h 0) H (fun j2 H => ?_) (fun H => ?_)
  · obtain ⟨h11, eh11, H⟩ := ok_bind H
    refine r_putf hZ fl_X12_69_11 dX12_element_45 eh11 rfl rfl ?_
    refine r_aload_n hZ dX12_element_48 rfl ?_
    obtain ⟨x12, ex12, H⟩ := ok_bind H
    refine r_getI hZ fl_X12_69_11 dX12_element_49 ex12 ?_
    refine ok_join (Q := fun j13 : Int64 => R Z 71 [] [.long j13] n h11 0) H (fun j13 H => ?_) (fun H => ?_)
    · have H := ok_some H
      subst H
      exact r_lret hZ hF dX12_element_71
    · refine r_if_ne (tgt := 70) hZ dX12_element_52 (by decide) (fun c16 => ?_) (fun c16 => ?_)
      · have H := ok_f H c16
        refine r_lconst (v := (K 0)) hZ dX12_element_70 (by decide) ?_
        have H := ok_some H
        exact r_pick [] (ls' := []) rfl H
      · have H := ok_t H c16
        refine r_aload_n hZ dX12_element_55 rfl ?_
        obtain ⟨x14, ex14, H⟩ := ok_bind H
        refine r_getR hZ fl_X12_31_11 dX12_element_56 ex14 ?_
        refine r_bipush (v := (J 120)) hZ dX12_element_59 (by decide) ?_
        refine r_iload_n hZ dX12_element_61 rfl ?_
        refine r_imul hZ dX12_element_62 ?_
        refine r_iload_n hZ dX12_element_63 rfl ?_
        refine r_iadd hZ dX12_element_64 ?_
        obtain ⟨x15, ex15, H⟩ := ok_bind H
        refine r_aI hZ dX12_element_65 ex15 ?_
        refine r_i2l hZ dX12_element_66 ?_
        refine r_goto (tgt := 71) hZ dX12_element_67 (by decide) ?_
        have H := ok_some H
        exact r_pick [] (ls' := []) rfl H
  · refine r_if_ne (tgt := 12) hZ dX12_element_5 (by decide) (fun c10 => ?_) (fun c10 => ?_)
    · have H := ok_f H c10
      refine r_aload_n hZ dX12_element_12 rfl ?_
      obtain ⟨x3, ex3, H⟩ := ok_bind H
      refine r_getR hZ fl_X12_22_11 dX12_element_13 ex3 ?_
      refine r_iload_n hZ dX12_element_16 rfl ?_
      obtain ⟨x4, ex4, H⟩ := ok_bind H
      refine r_aI hZ dX12_element_17 ex4 ?_
      refine r_iconst (v := (J 2)) hZ dX12_element_18 (by decide) ?_
      refine r_icmp_ne (tgt := 40) hZ dX12_element_19 (by decide) (fun c9 => ?_) (fun c9 => ?_)
      · have H := ok_f H c9
        refine r_iconst (v := (J 2)) hZ dX12_element_40 (by decide) ?_
        refine r_goto (tgt := 45) hZ dX12_element_41 (by decide) ?_
        have H := ok_some H
        exact r_pick [0, 1, 2] (ls' := [(0, .ref a0), (1, .int a1), (2, .int a2)]) rfl H
      · have H := ok_t H c9
        refine r_iload_n hZ dX12_element_22 rfl ?_
        refine r_i2l hZ dX12_element_23 ?_
        refine r_lconst (v := (K 0)) hZ dX12_element_24 (by decide) ?_
        refine r_aload_n hZ dX12_element_25 rfl ?_
        obtain ⟨x5, ex5, H⟩ := ok_bind H
        refine r_getR hZ fl_X12_28_11 dX12_element_26 ex5 ?_
        refine r_iload_n hZ dX12_element_29 rfl ?_
        obtain ⟨x6, ex6, H⟩ := ok_bind H
        refine r_aI hZ dX12_element_30 ex6 ?_
        refine r_iconst (v := (J 1)) hZ dX12_element_31 (by decide) ?_
        refine r_isub hZ dX12_element_32 ?_
        refine r_i2l hZ dX12_element_33 ?_
        obtain ⟨r7, er7, H⟩ := ok_bind H
        refine r_callS (As := [.long (a2.toInt64), .long (K 0), .long ((x6 - (J 1)).toInt64)]) (rest := [.ref a0]) (st1 := [.int r7, .ref a0]) (N2 := 0) hZ dX12_element_34 cw_X12_73 (s_X12_isIn er7) rfl rfl (by decide) (Nat.le_of_ble_eq_true rfl) (Nat.le_refl 0) (Nat.le_refl _) (Or.inl rfl) rfl ?_
        refine r_if_ne (tgt := 44) hZ dX12_element_37 (by decide) (fun c8 => ?_) (fun c8 => ?_)
        · have H := ok_f H c8
          refine r_iconst (v := (J 0)) hZ dX12_element_44 (by decide) ?_
          have H := ok_some H
          exact r_pick [0, 1, 2] (ls' := [(0, .ref a0), (1, .int a1), (2, .int a2)]) rfl H
        · have H := ok_t H c8
          refine r_iconst (v := (J 2)) hZ dX12_element_40 (by decide) ?_
          refine r_goto (tgt := 45) hZ dX12_element_41 (by decide) ?_
          have H := ok_some H
          exact r_pick [0, 1, 2] (ls' := [(0, .ref a0), (1, .int a1), (2, .int a2)]) rfl H
    · have H := ok_t H c10
      refine r_iconst (v := (J 1)) hZ dX12_element_8 (by decide) ?_
      refine r_goto (tgt := 45) hZ dX12_element_9 (by decide) ?_
      have H := ok_some H
      exact r_pick [0, 1, 2] (ls' := [(0, .ref a0), (1, .int a1), (2, .int a2)]) rfl H
def b_X12_copy_122 (p0 : Nat) (p1 : Int32) (p2 : Int32) (p3 : Int32) (p4 : Int32) (p5 : Int32) (s : Int32 × Hp) : Option ((Int32 × Hp) ⊕ ((Hp))) :=
  (if p5 ≤ s.1 then
    some (.inr (s.2))
  else
    ((if p2 ≤ p4 then
      some ((p5 - (J 1)) - s.1)
    else
      some s.1)).bind fun (j1 : Int32) =>
    (gR s.2 p0 11 7).bind fun x3 =>
    (gR s.2 p0 11 7).bind fun x4 =>
    (aI s.2 x4 ((((J 120) * p1) + p2) + j1)).bind fun x5 =>
    (sI s.2 x3 ((((J 120) * p3) + p4) + j1) x5).bind fun h6 =>
    (some (s.1 + (J 1))).bind fun x7 =>
    some (.inl (x7, h6)))
set_option maxRecDepth 100000 in
set_option maxHeartbeats 4000000 in
theorem l_X12_copy_122 {Z : Zc} (hZ : Fx cX12_copy RX12 8 4 0 Z) {n : Nat} {p0 : Nat} {p1 : Int32} {p2 : Int32} {p3 : Int32} {p4 : Int32} {p5 : Int32} {P : ((Hp)) → Prop} (hx0 : ∀ e : Hp, P (e) → R Z 184 [(5, .int p5)] [] n e 0) : ∀ (m : Nat) (s : Int32 × Hp), Ok (iter (b_X12_copy_122 p0 p1 p2 p3 p4 p5) m s) P → R Z 122 [(0, .ref p0), (1, .int p1), (2, .int p2), (3, .int p3), (4, .int p4), (5, .int p5), (6, .int s.1)] [] n s.2 0 := by
  intro m
  induction m with
  | zero => exact fun s H => ok_iter0 H
  | succ m ih =>
    intro s H
    have H := ok_iter H
    unfold b_X12_copy_122 at H
    refine r_iload hZ dX12_copy_122 rfl ?_
    refine r_iload hZ dX12_copy_124 rfl ?_
    refine r_icmp_ge (tgt := 184) hZ dX12_copy_126 (by decide) (fun c8 => ?_) (fun c8 => ?_)
    · have H := ok_t H c8
      exact r_pick [5] (ls' := [(5, .int p5)]) rfl (hx0 _ (ki_r H))
    · have H := ok_f H c8
      refine r_iload_n hZ dX12_copy_129 rfl ?_
      refine r_iload hZ dX12_copy_130 rfl ?_
      refine ok_join (Q := fun j1 : Int32 => R Z 147 [(0, .ref p0), (1, .int p1), (2, .int p2), (3, .int p3), (4, .int p4), (5, .int p5), (6, .int s.1)] [.int j1] n s.2 0) H (fun j1 H => ?_) (fun H => ?_)
      · refine r_istore hZ dX12_copy_147 (by decide) (r_pick [0, 1, 2, 3, 4, 5, 6, 7] (ls' := [(0, .ref p0), (1, .int p1), (2, .int p2), (3, .int p3), (4, .int p4), (5, .int p5), (6, .int s.1), (7, .int j1)]) rfl ?_)
        refine r_aload_n hZ dX12_copy_149 rfl ?_
        obtain ⟨x3, ex3, H⟩ := ok_bind H
        refine r_getR hZ fl_X12_31_11 dX12_copy_150 ex3 ?_
        refine r_bipush (v := (J 120)) hZ dX12_copy_153 (by decide) ?_
        refine r_iload_n hZ dX12_copy_155 rfl ?_
        refine r_imul hZ dX12_copy_156 ?_
        refine r_iload hZ dX12_copy_157 rfl ?_
        refine r_iadd hZ dX12_copy_159 ?_
        refine r_iload hZ dX12_copy_160 rfl ?_
        refine r_iadd hZ dX12_copy_162 ?_
        refine r_aload_n hZ dX12_copy_163 rfl ?_
        obtain ⟨x4, ex4, H⟩ := ok_bind H
        refine r_getR hZ fl_X12_31_11 dX12_copy_164 ex4 ?_
        refine r_bipush (v := (J 120)) hZ dX12_copy_167 (by decide) ?_
        refine r_iload_n hZ dX12_copy_169 rfl ?_
        refine r_imul hZ dX12_copy_170 ?_
        refine r_iload_n hZ dX12_copy_171 rfl ?_
        refine r_iadd hZ dX12_copy_172 ?_
        refine r_iload hZ dX12_copy_173 rfl ?_
        refine r_iadd hZ dX12_copy_175 ?_
        obtain ⟨x5, ex5, H⟩ := ok_bind H
        refine r_aI hZ dX12_copy_176 ex5 ?_
        obtain ⟨h6, eh6, H⟩ := ok_bind H
        refine r_sI hZ dX12_copy_177 eh6 ?_
        obtain ⟨x7, ex7, H⟩ := ok_bind H
        refine r_iincE (w := (J 1)) hZ dX12_copy_178 (by decide) rfl (by decide) ex7 (r_pick [0, 1, 2, 3, 4, 5, 6] (ls' := [(0, .ref p0), (1, .int p1), (2, .int p2), (3, .int p3), (4, .int p4), (5, .int p5), (6, .int x7)]) rfl ?_)
        refine r_goto (tgt := 122) hZ dX12_copy_181 (by decide) ?_
        exact r_pick [0, 1, 2, 3, 4, 5, 6] (ls' := [(0, .ref p0), (1, .int p1), (2, .int p2), (3, .int p3), (4, .int p4), (5, .int p5), (6, .int x7)]) rfl (ih _ (ki_l H))
      · refine r_icmp_le (tgt := 140) hZ dX12_copy_132 (by decide) (fun c2 => ?_) (fun c2 => ?_)
        · have H := ok_t H c2
          refine r_iload hZ dX12_copy_140 rfl ?_
          refine r_iconst (v := (J 1)) hZ dX12_copy_142 (by decide) ?_
          refine r_isub hZ dX12_copy_143 ?_
          refine r_iload hZ dX12_copy_144 rfl ?_
          refine r_isub hZ dX12_copy_146 ?_
          have H := ok_some H
          exact r_pick [0, 1, 2, 3, 4, 5, 6] (ls' := [(0, .ref p0), (1, .int p1), (2, .int p2), (3, .int p3), (4, .int p4), (5, .int p5), (6, .int s.1)]) rfl H
        · have H := ok_f H c2
          refine r_iload hZ dX12_copy_135 rfl ?_
          refine r_goto (tgt := 147) hZ dX12_copy_137 (by decide) ?_
          have H := ok_some H
          exact r_pick [0, 1, 2, 3, 4, 5, 6] (ls' := [(0, .ref p0), (1, .int p1), (2, .int p2), (3, .int p3), (4, .int p4), (5, .int p5), (6, .int s.1)]) rfl H
def f_X12_copy  (h : Hp) (a0 : Nat) (a1 : Int32) (a2 : Int32) (a3 : Int32) (a4 : Int32) (a5 : Int32) : Option (Int32 × Hp) :=
  (f_X12_isShelf a1).bind fun r1 =>
  (if r1 = 0 then
    some ((J (-1)), h)
  else
    (f_X12_isShelf a3).bind fun r2 =>
    (if r2 = 0 then
      some ((J (-1)), h)
    else
      (gR h a0 11 4).bind fun x3 =>
      (aI h x3 a1).bind fun x4 =>
      (if x4 = 0 then
        some ((J (-11)), h)
      else
        (gR h a0 11 4).bind fun x5 =>
        (aI h x5 a3).bind fun x6 =>
        (if x6 = 0 then
          some ((J (-11)), h)
        else
          (gR h a0 11 4).bind fun x7 =>
          (aI h x7 a1).bind fun x8 =>
          (if x8 = (J 2) then
            (gR h a0 11 4).bind fun x9 =>
            (aI h x9 a3).bind fun x10 =>
            (if x10 = (J 2) then
              (gR h a0 11 5).bind fun x11 =>
              (aI h x11 a1).bind fun x12 =>
              (gR h a0 11 5).bind fun x13 =>
              (aI h x13 a3).bind fun x14 =>
              (if x12 = x14 then
                (if a5 < 0 then
                  some ((J (-13)), h)
                else
                  (if a2 < 0 then
                    some ((J (-13)), h)
                  else
                    (if a4 < 0 then
                      some ((J (-13)), h)
                    else
                      (gR h a0 11 6).bind fun x15 =>
                      (aI h x15 a1).bind fun x16 =>
                      (if (x16 - a2) < a5 then
                        some ((J (-13)), h)
                      else
                        (gR h a0 11 6).bind fun x17 =>
                        (aI h x17 a3).bind fun x18 =>
                        (if a5 ≤ (x18 - a4) then
                          (some (J 0)).bind fun x19 =>
                          (iter (b_X12_copy_122 a0 a1 a2 a3 a4 a5) FU (x19, h)).bind fun e20 =>
                          some (a5, e20)
                        else
                          some ((J (-13)), h))))))
              else
                some ((J (-12)), h))
            else
              some ((J (-12)), h))
          else
            some ((J (-12)), h))))))
set_option maxRecDepth 100000 in
set_option maxHeartbeats 4000000 in
theorem s_X12_copy {n : Nat} {h : Hp} {a0 : Nat} {a1 : Int32} {a2 : Int32} {a3 : Int32} {a4 : Int32} {a5 : Int32}  {r : Int32 × Hp} (hf : f_X12_copy  h a0 a1 a2 a3 a4 a5 = some r) : Ev 4 yX12_copy cX12_copy 8 (some .int) [.ref a0, .int a1, .int a2, .int a3, .int a4, .int a5] n h (some (.int r.1)) n r.2 := by
  refine Ev_of RX12 rfl (by decide) (Nat.le_of_ble_eq_true rfl) (Nat.le_refl _) (Or.inl rfl) (fun Z hZ hF hN hI => ?_)
  have H : Ok (f_X12_copy  h a0 a1 a2 a3 a4 a5) (fun y => y = r) := ⟨_, hf, rfl⟩
  unfold f_X12_copy at H
  refine r_ls (ls' := [(0, .ref a0), (1, .int a1), (2, .int a2), (3, .int a3), (4, .int a4), (5, .int a5)]) rfl ?_
  refine r_iload_n hZ dX12_copy_0 rfl ?_
  obtain ⟨r1, er1, H⟩ := ok_bind H
  refine r_callS (As := [.int a1]) (rest := []) (st1 := [.int r1]) (N2 := 0) hZ dX12_copy_1 cw_X12_127 (s_X12_isShelf er1) rfl rfl (by decide) (Nat.le_of_ble_eq_true rfl) (Nat.le_refl 0) (Nat.le_refl _) (Or.inl rfl) rfl ?_
  refine r_if_eq (tgt := 14) hZ dX12_copy_4 (by decide) (fun c32 => ?_) (fun c32 => ?_)
  · have H := ok_t H c32
    refine r_iconst (v := (J (-1))) hZ dX12_copy_14 (by decide) ?_
    have H := ok_some H
    subst H
    exact r_iret hZ hF dX12_copy_15
  · have H := ok_f H c32
    refine r_iload_n hZ dX12_copy_7 rfl ?_
    obtain ⟨r2, er2, H⟩ := ok_bind H
    refine r_callS (As := [.int a3]) (rest := []) (st1 := [.int r2]) (N2 := 0) hZ dX12_copy_8 cw_X12_127 (s_X12_isShelf er2) rfl rfl (by decide) (Nat.le_of_ble_eq_true rfl) (Nat.le_refl 0) (Nat.le_refl _) (Or.inl rfl) rfl ?_
    refine r_if_ne (tgt := 16) hZ dX12_copy_11 (by decide) (fun c31 => ?_) (fun c31 => ?_)
    · have H := ok_f H c31
      refine r_aload_n hZ dX12_copy_16 rfl ?_
      obtain ⟨x3, ex3, H⟩ := ok_bind H
      refine r_getR hZ fl_X12_22_11 dX12_copy_17 ex3 ?_
      refine r_iload_n hZ dX12_copy_20 rfl ?_
      obtain ⟨x4, ex4, H⟩ := ok_bind H
      refine r_aI hZ dX12_copy_21 ex4 ?_
      refine r_if_eq (tgt := 34) hZ dX12_copy_22 (by decide) (fun c30 => ?_) (fun c30 => ?_)
      · have H := ok_t H c30
        refine r_bipush (v := (J (-11))) hZ dX12_copy_34 (by decide) ?_
        have H := ok_some H
        subst H
        exact r_iret hZ hF dX12_copy_36
      · have H := ok_f H c30
        refine r_aload_n hZ dX12_copy_25 rfl ?_
        obtain ⟨x5, ex5, H⟩ := ok_bind H
        refine r_getR hZ fl_X12_22_11 dX12_copy_26 ex5 ?_
        refine r_iload_n hZ dX12_copy_29 rfl ?_
        obtain ⟨x6, ex6, H⟩ := ok_bind H
        refine r_aI hZ dX12_copy_30 ex6 ?_
        refine r_if_ne (tgt := 37) hZ dX12_copy_31 (by decide) (fun c29 => ?_) (fun c29 => ?_)
        · have H := ok_f H c29
          refine r_aload_n hZ dX12_copy_37 rfl ?_
          obtain ⟨x7, ex7, H⟩ := ok_bind H
          refine r_getR hZ fl_X12_22_11 dX12_copy_38 ex7 ?_
          refine r_iload_n hZ dX12_copy_41 rfl ?_
          obtain ⟨x8, ex8, H⟩ := ok_bind H
          refine r_aI hZ dX12_copy_42 ex8 ?_
          refine r_iconst (v := (J 2)) hZ dX12_copy_43 (by decide) ?_
          refine r_icmp_ne (tgt := 72) hZ dX12_copy_44 (by decide) (fun c28 => ?_) (fun c28 => ?_)
          · have H := ok_f H c28
            refine r_bipush (v := (J (-12))) hZ dX12_copy_72 (by decide) ?_
            have H := ok_some H
            subst H
            exact r_iret hZ hF dX12_copy_74
          · have H := ok_t H c28
            refine r_aload_n hZ dX12_copy_47 rfl ?_
            obtain ⟨x9, ex9, H⟩ := ok_bind H
            refine r_getR hZ fl_X12_22_11 dX12_copy_48 ex9 ?_
            refine r_iload_n hZ dX12_copy_51 rfl ?_
            obtain ⟨x10, ex10, H⟩ := ok_bind H
            refine r_aI hZ dX12_copy_52 ex10 ?_
            refine r_iconst (v := (J 2)) hZ dX12_copy_53 (by decide) ?_
            refine r_icmp_ne (tgt := 72) hZ dX12_copy_54 (by decide) (fun c27 => ?_) (fun c27 => ?_)
            · have H := ok_f H c27
              refine r_bipush (v := (J (-12))) hZ dX12_copy_72 (by decide) ?_
              have H := ok_some H
              subst H
              exact r_iret hZ hF dX12_copy_74
            · have H := ok_t H c27
              refine r_aload_n hZ dX12_copy_57 rfl ?_
              obtain ⟨x11, ex11, H⟩ := ok_bind H
              refine r_getR hZ fl_X12_25_11 dX12_copy_58 ex11 ?_
              refine r_iload_n hZ dX12_copy_61 rfl ?_
              obtain ⟨x12, ex12, H⟩ := ok_bind H
              refine r_aI hZ dX12_copy_62 ex12 ?_
              refine r_aload_n hZ dX12_copy_63 rfl ?_
              obtain ⟨x13, ex13, H⟩ := ok_bind H
              refine r_getR hZ fl_X12_25_11 dX12_copy_64 ex13 ?_
              refine r_iload_n hZ dX12_copy_67 rfl ?_
              obtain ⟨x14, ex14, H⟩ := ok_bind H
              refine r_aI hZ dX12_copy_68 ex14 ?_
              refine r_icmp_eq (tgt := 75) hZ dX12_copy_69 (by decide) (fun c26 => ?_) (fun c26 => ?_)
              · have H := ok_t H c26
                refine r_iload hZ dX12_copy_75 rfl ?_
                refine r_if_lt (tgt := 116) hZ dX12_copy_77 (by decide) (fun c25 => ?_) (fun c25 => ?_)
                · have H := ok_t H c25
                  refine r_bipush (v := (J (-13))) hZ dX12_copy_116 (by decide) ?_
                  have H := ok_some H
                  subst H
                  exact r_iret hZ hF dX12_copy_118
                · have H := ok_f H c25
                  refine r_iload_n hZ dX12_copy_80 rfl ?_
                  refine r_if_lt (tgt := 116) hZ dX12_copy_81 (by decide) (fun c24 => ?_) (fun c24 => ?_)
                  · have H := ok_t H c24
                    refine r_bipush (v := (J (-13))) hZ dX12_copy_116 (by decide) ?_
                    have H := ok_some H
                    subst H
                    exact r_iret hZ hF dX12_copy_118
                  · have H := ok_f H c24
                    refine r_iload hZ dX12_copy_84 rfl ?_
                    refine r_if_lt (tgt := 116) hZ dX12_copy_86 (by decide) (fun c23 => ?_) (fun c23 => ?_)
                    · have H := ok_t H c23
                      refine r_bipush (v := (J (-13))) hZ dX12_copy_116 (by decide) ?_
                      have H := ok_some H
                      subst H
                      exact r_iret hZ hF dX12_copy_118
                    · have H := ok_f H c23
                      refine r_iload hZ dX12_copy_89 rfl ?_
                      refine r_aload_n hZ dX12_copy_91 rfl ?_
                      obtain ⟨x15, ex15, H⟩ := ok_bind H
                      refine r_getR hZ fl_X12_28_11 dX12_copy_92 ex15 ?_
                      refine r_iload_n hZ dX12_copy_95 rfl ?_
                      obtain ⟨x16, ex16, H⟩ := ok_bind H
                      refine r_aI hZ dX12_copy_96 ex16 ?_
                      refine r_iload_n hZ dX12_copy_97 rfl ?_
                      refine r_isub hZ dX12_copy_98 ?_
                      refine r_icmp_gt (tgt := 116) hZ dX12_copy_99 (by decide) (fun c22 => ?_) (fun c22 => ?_)
                      · have H := ok_t H c22
                        refine r_bipush (v := (J (-13))) hZ dX12_copy_116 (by decide) ?_
                        have H := ok_some H
                        subst H
                        exact r_iret hZ hF dX12_copy_118
                      · have H := ok_f H c22
                        refine r_iload hZ dX12_copy_102 rfl ?_
                        refine r_aload_n hZ dX12_copy_104 rfl ?_
                        obtain ⟨x17, ex17, H⟩ := ok_bind H
                        refine r_getR hZ fl_X12_28_11 dX12_copy_105 ex17 ?_
                        refine r_iload_n hZ dX12_copy_108 rfl ?_
                        obtain ⟨x18, ex18, H⟩ := ok_bind H
                        refine r_aI hZ dX12_copy_109 ex18 ?_
                        refine r_iload hZ dX12_copy_110 rfl ?_
                        refine r_isub hZ dX12_copy_112 ?_
                        refine r_icmp_le (tgt := 119) hZ dX12_copy_113 (by decide) (fun c21 => ?_) (fun c21 => ?_)
                        · have H := ok_t H c21
                          refine r_iconst (v := (J 0)) hZ dX12_copy_119 (by decide) ?_
                          obtain ⟨x19, ex19, H⟩ := ok_bind H
                          refine r_topi ex19 ?_
                          refine r_istore hZ dX12_copy_120 (by decide) (r_pick [0, 1, 2, 3, 4, 5, 6] (ls' := [(0, .ref a0), (1, .int a1), (2, .int a2), (3, .int a3), (4, .int a4), (5, .int a5), (6, .int x19)]) rfl ?_)
                          have H := ok_bindK H
                          refine r_pick [0, 1, 2, 3, 4, 5, 6] (ls' := [(0, .ref a0), (1, .int a1), (2, .int a2), (3, .int a3), (4, .int a4), (5, .int a5), (6, .int x19)]) rfl (l_X12_copy_122 hZ (fun e20 H => ?_) FU _ H)
                          · refine r_iload hZ dX12_copy_184 rfl ?_
                            have H := ok_some H
                            subst H
                            exact r_iret hZ hF dX12_copy_186
                        · have H := ok_f H c21
                          refine r_bipush (v := (J (-13))) hZ dX12_copy_116 (by decide) ?_
                          have H := ok_some H
                          subst H
                          exact r_iret hZ hF dX12_copy_118
              · have H := ok_f H c26
                refine r_bipush (v := (J (-12))) hZ dX12_copy_72 (by decide) ?_
                have H := ok_some H
                subst H
                exact r_iret hZ hF dX12_copy_74
        · have H := ok_t H c29
          refine r_bipush (v := (J (-11))) hZ dX12_copy_34 (by decide) ?_
          have H := ok_some H
          subst H
          exact r_iret hZ hF dX12_copy_36
    · have H := ok_t H c31
      refine r_iconst (v := (J (-1))) hZ dX12_copy_14 (by decide) ?_
      have H := ok_some H
      subst H
      exact r_iret hZ hF dX12_copy_15
def f_X12_wrongKept  (h : Hp) (a0 : Nat) (a1 : Int32) : Option (Int32) :=
  (f_X12_isShelf a1).bind fun r1 =>
  ((if r1 = 0 then
    some (J (-1))
  else
    (gR h a0 11 4).bind fun x3 =>
    (aI h x3 a1).bind fun x4 =>
    (if x4 = 0 then
      some (J (-11))
    else
      (gR h a0 11 4).bind fun x5 =>
      (aI h x5 a1).bind fun x6 =>
      (if x6 = (J 1) then
        some (J 0)
      else
        some (J (-12)))))).bind fun (j2 : Int32) =>
  some j2
set_option maxRecDepth 100000 in
set_option maxHeartbeats 4000000 in
theorem s_X12_wrongKept {n : Nat} {h : Hp} {a0 : Nat} {a1 : Int32}  {r : Int32} (hf : f_X12_wrongKept  h a0 a1 = some r) : Ev 4 yX12_wrongKept cX12_wrongKept 2 (some .int) [.ref a0, .int a1] n h (some (.int r)) n h := by
  refine Ev_of RX12 rfl (by decide) (Nat.le_of_ble_eq_true rfl) (Nat.le_refl _) (Or.inl rfl) (fun Z hZ hF hN hI => ?_)
  have H : Ok (f_X12_wrongKept  h a0 a1) (fun y => y = r) := ⟨_, hf, rfl⟩
  unfold f_X12_wrongKept at H
  refine r_ls (ls' := [(0, .ref a0), (1, .int a1)]) rfl ?_
  refine r_iload_n hZ dX12_wrongKept_0 rfl ?_
  obtain ⟨r1, er1, H⟩ := ok_bind H
  refine r_callS (As := [.int a1]) (rest := []) (st1 := [.int r1]) (N2 := 0) hZ dX12_wrongKept_1 cw_X12_127 (s_X12_isShelf er1) rfl rfl (by decide) (Nat.le_of_ble_eq_true rfl) (Nat.le_refl 0) (Nat.le_refl _) (Or.inl rfl) rfl ?_
  refine ok_join (Q := fun j2 : Int32 => R Z 41 [] [.int j2] n h 0) H (fun j2 H => ?_) (fun H => ?_)
  · have H := ok_some H
    subst H
    exact r_iret hZ hF dX12_wrongKept_41
  · refine r_if_ne (tgt := 11) hZ dX12_wrongKept_4 (by decide) (fun c9 => ?_) (fun c9 => ?_)
    · have H := ok_f H c9
      refine r_aload_n hZ dX12_wrongKept_11 rfl ?_
      obtain ⟨x3, ex3, H⟩ := ok_bind H
      refine r_getR hZ fl_X12_22_11 dX12_wrongKept_12 ex3 ?_
      refine r_iload_n hZ dX12_wrongKept_15 rfl ?_
      obtain ⟨x4, ex4, H⟩ := ok_bind H
      refine r_aI hZ dX12_wrongKept_16 ex4 ?_
      refine r_if_ne (tgt := 25) hZ dX12_wrongKept_17 (by decide) (fun c8 => ?_) (fun c8 => ?_)
      · have H := ok_f H c8
        refine r_aload_n hZ dX12_wrongKept_25 rfl ?_
        obtain ⟨x5, ex5, H⟩ := ok_bind H
        refine r_getR hZ fl_X12_22_11 dX12_wrongKept_26 ex5 ?_
        refine r_iload_n hZ dX12_wrongKept_29 rfl ?_
        obtain ⟨x6, ex6, H⟩ := ok_bind H
        refine r_aI hZ dX12_wrongKept_30 ex6 ?_
        refine r_iconst (v := (J 1)) hZ dX12_wrongKept_31 (by decide) ?_
        refine r_icmp_ne (tgt := 39) hZ dX12_wrongKept_32 (by decide) (fun c7 => ?_) (fun c7 => ?_)
        · have H := ok_f H c7
          refine r_bipush (v := (J (-12))) hZ dX12_wrongKept_39 (by decide) ?_
          have H := ok_some H
          exact r_pick [] (ls' := []) rfl H
        · have H := ok_t H c7
          refine r_iconst (v := (J 0)) hZ dX12_wrongKept_35 (by decide) ?_
          refine r_goto (tgt := 41) hZ dX12_wrongKept_36 (by decide) ?_
          have H := ok_some H
          exact r_pick [] (ls' := []) rfl H
      · have H := ok_t H c8
        refine r_bipush (v := (J (-11))) hZ dX12_wrongKept_20 (by decide) ?_
        refine r_goto (tgt := 41) hZ dX12_wrongKept_22 (by decide) ?_
        have H := ok_some H
        exact r_pick [] (ls' := []) rfl H
    · have H := ok_t H c9
      refine r_iconst (v := (J (-1))) hZ dX12_wrongKept_7 (by decide) ?_
      refine r_goto (tgt := 41) hZ dX12_wrongKept_8 (by decide) ?_
      have H := ok_some H
      exact r_pick [] (ls' := []) rfl H
def f_X12_weight  (h : Hp) (a0 : Nat) (a1 : Int32) : Option (Int32) :=
  (isO h a0 11).bind fun u1 =>
  (f_X12_wrongKept h a0 a1).bind fun r2 =>
  ((if r2 = 0 then
    (gR h a0 11 8).bind fun x4 =>
    (aI h x4 a1).bind fun x5 =>
    some x5
  else
    some r2)).bind fun (j3 : Int32) =>
  some j3
set_option maxRecDepth 100000 in
set_option maxHeartbeats 4000000 in
theorem s_X12_weight {n : Nat} {h : Hp} {a0 : Nat} {a1 : Int32}  {r : Int32} (hf : f_X12_weight  h a0 a1 = some r) : Ev 5 yX12_weight cX12_weight 3 (some .int) [.ref a0, .int a1] n h (some (.int r)) n h := by
  refine Ev_of RX12 rfl (by decide) (Nat.le_of_ble_eq_true rfl) (Nat.le_refl _) (Or.inl rfl) (fun Z hZ hF hN hI => ?_)
  have H : Ok (f_X12_weight  h a0 a1) (fun y => y = r) := ⟨_, hf, rfl⟩
  unfold f_X12_weight at H
  refine r_ls (ls' := [(0, .ref a0), (1, .int a1)]) rfl ?_
  refine r_aload_n hZ dX12_weight_0 rfl ?_
  refine r_iload_n hZ dX12_weight_1 rfl ?_
  obtain ⟨u1, eu1, H⟩ := ok_bind H
  obtain ⟨r2, er2, H⟩ := ok_bind H
  refine r_callV (As := [.int a1]) (rest := []) (st1 := [.int r2]) (N2 := 0) hZ dX12_weight_2 cw_X12_349_X12 rfl eu1 (s_X12_wrongKept er2) rfl rfl (by decide) (Nat.le_of_ble_eq_true rfl) (Nat.le_refl 0) (Nat.le_refl _) (Or.inl rfl) rfl ?_
  refine r_istore_n hZ dX12_weight_5 (by decide) (r_pick [0, 1, 2] (ls' := [(0, .ref a0), (1, .int a1), (2, .int r2)]) rfl ?_)
  refine r_iload_n hZ dX12_weight_6 rfl ?_
  refine ok_join (Q := fun j3 : Int32 => R Z 20 [] [.int j3] n h 0) H (fun j3 H => ?_) (fun H => ?_)
  · have H := ok_some H
    subst H
    exact r_iret hZ hF dX12_weight_20
  · refine r_if_eq (tgt := 14) hZ dX12_weight_7 (by decide) (fun c6 => ?_) (fun c6 => ?_)
    · have H := ok_t H c6
      refine r_aload_n hZ dX12_weight_14 rfl ?_
      obtain ⟨x4, ex4, H⟩ := ok_bind H
      refine r_getR hZ fl_X12_34_11 dX12_weight_15 ex4 ?_
      refine r_iload_n hZ dX12_weight_18 rfl ?_
      obtain ⟨x5, ex5, H⟩ := ok_bind H
      refine r_aI hZ dX12_weight_19 ex5 ?_
      have H := ok_some H
      exact r_pick [] (ls' := []) rfl H
    · have H := ok_f H c6
      refine r_iload_n hZ dX12_weight_10 rfl ?_
      refine r_goto (tgt := 20) hZ dX12_weight_11 (by decide) ?_
      have H := ok_some H
      exact r_pick [] (ls' := []) rfl H
def f_X12_toss  (h : Hp) (a0 : Nat) (a1 : Int32) : Option (Int32) :=
  (isO h a0 11).bind fun u1 =>
  (f_X12_wrongKept h a0 a1).bind fun r2 =>
  ((if r2 = 0 then
    (gR h a0 11 9).bind fun x4 =>
    (aI h x4 a1).bind fun x5 =>
    some x5
  else
    some r2)).bind fun (j3 : Int32) =>
  some j3
set_option maxRecDepth 100000 in
set_option maxHeartbeats 4000000 in
theorem s_X12_toss {n : Nat} {h : Hp} {a0 : Nat} {a1 : Int32}  {r : Int32} (hf : f_X12_toss  h a0 a1 = some r) : Ev 5 yX12_toss cX12_toss 3 (some .int) [.ref a0, .int a1] n h (some (.int r)) n h := by
  refine Ev_of RX12 rfl (by decide) (Nat.le_of_ble_eq_true rfl) (Nat.le_refl _) (Or.inl rfl) (fun Z hZ hF hN hI => ?_)
  have H : Ok (f_X12_toss  h a0 a1) (fun y => y = r) := ⟨_, hf, rfl⟩
  unfold f_X12_toss at H
  refine r_ls (ls' := [(0, .ref a0), (1, .int a1)]) rfl ?_
  refine r_aload_n hZ dX12_toss_0 rfl ?_
  refine r_iload_n hZ dX12_toss_1 rfl ?_
  obtain ⟨u1, eu1, H⟩ := ok_bind H
  obtain ⟨r2, er2, H⟩ := ok_bind H
  refine r_callV (As := [.int a1]) (rest := []) (st1 := [.int r2]) (N2 := 0) hZ dX12_toss_2 cw_X12_349_X12 rfl eu1 (s_X12_wrongKept er2) rfl rfl (by decide) (Nat.le_of_ble_eq_true rfl) (Nat.le_refl 0) (Nat.le_refl _) (Or.inl rfl) rfl ?_
  refine r_istore_n hZ dX12_toss_5 (by decide) (r_pick [0, 1, 2] (ls' := [(0, .ref a0), (1, .int a1), (2, .int r2)]) rfl ?_)
  refine r_iload_n hZ dX12_toss_6 rfl ?_
  refine ok_join (Q := fun j3 : Int32 => R Z 20 [] [.int j3] n h 0) H (fun j3 H => ?_) (fun H => ?_)
  · have H := ok_some H
    subst H
    exact r_iret hZ hF dX12_toss_20
  · refine r_if_eq (tgt := 14) hZ dX12_toss_7 (by decide) (fun c6 => ?_) (fun c6 => ?_)
    · have H := ok_t H c6
      refine r_aload_n hZ dX12_toss_14 rfl ?_
      obtain ⟨x4, ex4, H⟩ := ok_bind H
      refine r_getR hZ fl_X12_37_11 dX12_toss_15 ex4 ?_
      refine r_iload_n hZ dX12_toss_18 rfl ?_
      obtain ⟨x5, ex5, H⟩ := ok_bind H
      refine r_aI hZ dX12_toss_19 ex5 ?_
      have H := ok_some H
      exact r_pick [] (ls' := []) rfl H
    · have H := ok_f H c6
      refine r_iload_n hZ dX12_toss_10 rfl ?_
      refine r_goto (tgt := 20) hZ dX12_toss_11 (by decide) ?_
      have H := ok_some H
      exact r_pick [] (ls' := []) rfl H
