set_option maxRecDepth 100000 in
theorem wi_X0_5 : Cond.methodLink RX0 5 objectInit ∈ TT := (TT_in 130 (by decide +kernel) rfl)
set_option maxRecDepth 100000 in
theorem wi_i : Cond.instanceMethod objectInit ∈ TT := (TT_in 116 (by decide +kernel) rfl)
set_option maxRecDepth 100000 in
theorem wi_c : Cond.code objectInit ⟨#[0xb1]⟩ 1 none ∈ TT := (TT_in 117 (by decide +kernel) rfl)
set_option maxRecDepth 100000 in
theorem inT_X0 : ∀ w ∈ u_ws RX0 TX0 5, w ∈ TT := mem_all (by decide +kernel)
set_option maxRecDepth 100000 in
theorem fl_X0_11_0 : FL RX0 11 0 2 (.int) false := ⟨RX0, "GearTeeth$Gear", TX0, 5, tyX0, rfl, by decide, inT_X0, (TT_in 134 (by decide +kernel) rfl), Or.inl rfl, tyX0_ok, nmX0, by decide +kernel, rfl, fun q => nomatch q⟩
set_option maxRecDepth 100000 in
theorem wa_int : Cond.arrayClass .int ∈ TT := (TT_in 156 (by decide +kernel) rfl)
set_option maxRecDepth 100000 in
theorem fl_X0_15_0 : FL RX0 15 0 4 (.array (.int)) true := ⟨RX0, "GearTeeth$Gear", TX0, 5, tyX0, rfl, by decide, inT_X0, (TT_in 142 (by decide +kernel) rfl), Or.inl rfl, tyX0_ok, nmX0, by decide +kernel, rfl, fun _ _ => rfl⟩
set_option maxRecDepth 100000 in
theorem fl_X0_19_0 : FL RX0 19 0 0 (.int) false := ⟨RX0, "GearTeeth$Gear", TX0, 5, tyX0, rfl, by decide, inT_X0, (TT_in 131 (by decide +kernel) rfl), Or.inl rfl, tyX0_ok, nmX0, by decide +kernel, rfl, fun q => nomatch q⟩
set_option maxRecDepth 100000 in
theorem fl_X0_22_0 : FL RX0 22 0 1 (.int) false := ⟨RX0, "GearTeeth$Gear", TX0, 5, tyX0, rfl, by decide, inT_X0, (TT_in 132 (by decide +kernel) rfl), Or.inl rfl, tyX0_ok, nmX0, by decide +kernel, rfl, fun q => nomatch q⟩
set_option maxRecDepth 100000 in
theorem fl_X0_25_0 : FL RX0 25 0 3 (.int) false := ⟨RX0, "GearTeeth$Gear", TX0, 5, tyX0, rfl, by decide, inT_X0, (TT_in 139 (by decide +kernel) rfl), Or.inl rfl, tyX0_ok, nmX0, by decide +kernel, rfl, fun q => nomatch q⟩
set_option maxRecDepth 100000 in
theorem cw_X0_28 : CS RX0 28 yJ7_fill_53178 cJ7_fill_53178 4 none 2 := ⟨(TT_in 552 (by decide +kernel) rfl), (TT_in 553 (by decide +kernel) rfl), (TT_in 104 (by decide +kernel) rfl), (TT_in 554 (by decide +kernel) rfl), by decide, by decide +kernel, by decide⟩
set_option maxRecDepth 100000 in
theorem wC_X0_34 : WC RX0 34 := ⟨(TT_in 533 (by decide +kernel) rfl), (TT_in 535 (by decide +kernel) rfl), (TT_in 534 (by decide +kernel) rfl), (TT_in 103 (by decide +kernel) rfl)⟩
set_option maxRecDepth 100000 in
theorem cw_X0_40_X0 : CV RX0 40 RX0 yX0_isRing cX0_isRing 1 (some .boolean) 0 := ⟨(TT_in 583 (by decide +kernel) rfl), (TT_in 560 (by decide +kernel) rfl), (TT_in 561 (by decide +kernel) rfl), (TT_in 91 (by decide +kernel) rfl), (TT_in 562 (by decide +kernel) rfl), by decide, by decide +kernel, by decide⟩
set_option maxRecDepth 100000 in
theorem ws_X0_44 : Cond.fieldLink RX0 44 (roC 0).1 (roC 0).2.1 "[I" ∈ TT := (TT_in 584 (by decide +kernel) rfl)
set_option maxRecDepth 100000 in
theorem ws_X0_47 : Cond.fieldLink RX0 47 (roC 1).1 (roC 1).2.1 "[I" ∈ TT := (TT_in 590 (by decide +kernel) rfl)
set_option maxRecDepth 100000 in
theorem wM_X0_50 : WM RX0 50 Lib.Math.min.name Lib.Math.min.code 2 .int := ⟨(TT_in 596 (by decide +kernel) rfl), (TT_in 487 (by decide +kernel) rfl), (TT_in 102 (by decide +kernel) rfl), (TT_in 488 (by decide +kernel) rfl)⟩
set_option maxRecDepth 100000 in
theorem wM_X0_56 : WM RX0 56 Lib.Math.max.name Lib.Math.max.code 2 .int := ⟨(TT_in 605 (by decide +kernel) rfl), (TT_in 606 (by decide +kernel) rfl), (TT_in 102 (by decide +kernel) rfl), (TT_in 607 (by decide +kernel) rfl)⟩
set_option maxRecDepth 100000 in
theorem cw_X0_63 : CSN RX0 63 yX11_isWithin cX11_isWithin 3 (some .boolean) 3 := ⟨(by decide +kernel), (TT_in 458 (by decide +kernel) rfl), (TT_in 89 (by decide +kernel) rfl), (TT_in 459 (by decide +kernel) rfl), by decide, by decide +kernel, by decide⟩
set_option maxRecDepth 100000 in
theorem cw_X0_59_X0 : CV RX0 59 RX0 yX0_cutOnce cX0_cutOnce 7 none 3 := ⟨(TT_in 715 (by decide +kernel) rfl), (TT_in 717 (by decide +kernel) rfl), (TT_in 12 (by decide +kernel) rfl), (TT_in 91 (by decide +kernel) rfl), (TT_in 718 (by decide +kernel) rfl), by decide, by decide +kernel, by decide⟩
set_option maxRecDepth 100000 in
theorem cw_X0_67_X0 : CV RX0 67 RX0 yX0_hard cX0_hard 1 (some .int) 0 := ⟨(TT_in 1129 (by decide +kernel) rfl), (TT_in 580 (by decide +kernel) rfl), (TT_in 581 (by decide +kernel) rfl), (TT_in 91 (by decide +kernel) rfl), (TT_in 582 (by decide +kernel) rfl), by decide, by decide +kernel, by decide⟩
set_option maxRecDepth 100000 in
theorem cw_X0_71_X0 : CV RX0 71 RX0 yX0_thin cX0_thin 3 (some .int) 0 := ⟨(TT_in 1130 (by decide +kernel) rfl), (TT_in 593 (by decide +kernel) rfl), (TT_in 594 (by decide +kernel) rfl), (TT_in 91 (by decide +kernel) rfl), (TT_in 595 (by decide +kernel) rfl), by decide, by decide +kernel, by decide⟩
set_option maxRecDepth 100000 in
theorem cw_X0_74_X0 : CV RX0 74 RX0 yX0_top cX0_top 1 (some .int) 0 := ⟨(TT_in 1131 (by decide +kernel) rfl), (TT_in 598 (by decide +kernel) rfl), (TT_in 599 (by decide +kernel) rfl), (TT_in 91 (by decide +kernel) rfl), (TT_in 600 (by decide +kernel) rfl), by decide, by decide +kernel, by decide⟩
set_option maxRecDepth 100000 in
theorem wi_X1_3 : Cond.methodLink RX1 3 objectInit ∈ TT := (TT_in 343 (by decide +kernel) rfl)
set_option maxRecDepth 100000 in
theorem wq_X1_9 : Cond.classLink RX1 9 RX0 ∈ TT := (TT_in 344 (by decide +kernel) rfl)
set_option maxRecDepth 100000 in
theorem inT_X1 : ∀ w ∈ u_ws RX1 TX1 9, w ∈ TT := mem_all (by decide +kernel)
set_option maxRecDepth 100000 in
theorem fl_X1_11_1 : FL RX1 11 1 0 (.array (.object "GearTeeth$Gear")) true := ⟨RX1, "GearTeeth$Listener", TX1, 9, tyX1, rfl, by decide, inT_X1, (TT_in 345 (by decide +kernel) rfl), Or.inl rfl, tyX1_ok, nmX1, by decide +kernel, rfl, fun _ _ => rfl⟩
set_option maxRecDepth 100000 in
theorem wa_long : Cond.arrayClass .long ∈ TT := (TT_in 312 (by decide +kernel) rfl)
set_option maxRecDepth 100000 in
theorem fl_X1_17_1 : FL RX1 17 1 5 (.array (.long)) true := ⟨RX1, "GearTeeth$Listener", TX1, 9, tyX1, rfl, by decide, inT_X1, (TT_in 350 (by decide +kernel) rfl), Or.inl rfl, tyX1_ok, nmX1, by decide +kernel, rfl, fun _ _ => rfl⟩
set_option maxRecDepth 100000 in
theorem fl_X1_21_1 : FL RX1 21 1 6 (.array (.int)) true := ⟨RX1, "GearTeeth$Listener", TX1, 9, tyX1, rfl, by decide, inT_X1, (TT_in 351 (by decide +kernel) rfl), Or.inl rfl, tyX1_ok, nmX1, by decide +kernel, rfl, fun _ _ => rfl⟩
set_option maxRecDepth 100000 in
theorem fl_X1_25_1 : FL RX1 25 1 7 (.array (.int)) true := ⟨RX1, "GearTeeth$Listener", TX1, 9, tyX1, rfl, by decide, inT_X1, (TT_in 352 (by decide +kernel) rfl), Or.inl rfl, tyX1_ok, nmX1, by decide +kernel, rfl, fun _ _ => rfl⟩
set_option maxRecDepth 100000 in
theorem fl_X1_55_1 : FL RX1 55 1 8 (.int) false := ⟨RX1, "GearTeeth$Listener", TX1, 9, tyX1, rfl, by decide, inT_X1, (TT_in 353 (by decide +kernel) rfl), Or.inl rfl, tyX1_ok, nmX1, by decide +kernel, rfl, fun q => nomatch q⟩
set_option maxRecDepth 100000 in
theorem fl_X1_51_1 : FL RX1 51 1 3 (.long) false := ⟨RX1, "GearTeeth$Listener", TX1, 9, tyX1, rfl, by decide, inT_X1, (TT_in 348 (by decide +kernel) rfl), Or.inl rfl, tyX1_ok, nmX1, by decide +kernel, rfl, fun q => nomatch q⟩
set_option maxRecDepth 100000 in
theorem wc_X1_87 : Cond.constantLong RX1 87 (K (-1)) ∈ TT := (TT_in 990 (by decide +kernel) rfl)
set_option maxRecDepth 100000 in
theorem fl_X1_81_0 : FL RX1 81 0 2 (.int) false := ⟨RX0, "GearTeeth$Gear", TX0, 5, tyX0, rfl, by decide, inT_X0, (TT_in 136 (by decide +kernel) rfl), Or.inl rfl, tyX0_ok, nmX0, by decide +kernel, rfl, fun q => nomatch q⟩
set_option maxRecDepth 100000 in
theorem wM_X1_84 : WM RX1 84 Lib.Math.max.name Lib.Math.max.code 2 .int := ⟨(TT_in 981 (by decide +kernel) rfl), (TT_in 606 (by decide +kernel) rfl), (TT_in 102 (by decide +kernel) rfl), (TT_in 607 (by decide +kernel) rfl)⟩
set_option maxRecDepth 100000 in
theorem fl_X1_74_1 : FL RX1 74 1 2 (.int) false := ⟨RX1, "GearTeeth$Listener", TX1, 9, tyX1, rfl, by decide, inT_X1, (TT_in 347 (by decide +kernel) rfl), Or.inl rfl, tyX1_ok, nmX1, by decide +kernel, rfl, fun q => nomatch q⟩
set_option maxRecDepth 100000 in
theorem wM_X1_69 : WM RX1 69 Lib.Math.min.name Lib.Math.min.code 2 .int := ⟨(TT_in 973 (by decide +kernel) rfl), (TT_in 487 (by decide +kernel) rfl), (TT_in 102 (by decide +kernel) rfl), (TT_in 488 (by decide +kernel) rfl)⟩
set_option maxRecDepth 100000 in
theorem cw_X1_43_X1 : CV RX1 43 RX1 yX1_soundAt cX1_soundAt 7 (some .long) 2 := ⟨(TT_in 977 (by decide +kernel) rfl), (TT_in 979 (by decide +kernel) rfl), (TT_in 23 (by decide +kernel) rfl), (TT_in 99 (by decide +kernel) rfl), (TT_in 980 (by decide +kernel) rfl), by decide, by decide +kernel, by decide⟩
set_option maxRecDepth 100000 in
theorem cw_X1_89_X1 : CV RX1 89 RX1 yX1_isInside cX1_isInside 3 (some .boolean) 1 := ⟨(TT_in 986 (by decide +kernel) rfl), (TT_in 988 (by decide +kernel) rfl), (TT_in 25 (by decide +kernel) rfl), (TT_in 99 (by decide +kernel) rfl), (TT_in 989 (by decide +kernel) rfl), by decide, by decide +kernel, by decide⟩
set_option maxRecDepth 100000 in
theorem cw_X1_77 : CS RX1 77 yX1_firstTick cX1_firstTick 3 (some .int) 1 := ⟨(TT_in 974 (by decide +kernel) rfl), (TT_in 975 (by decide +kernel) rfl), (TT_in 99 (by decide +kernel) rfl), (TT_in 976 (by decide +kernel) rfl), by decide, by decide +kernel, by decide⟩
set_option maxRecDepth 100000 in
theorem cw_X1_93_X1 : CV RX1 93 RX1 yX1_countBeside cX1_countBeside 8 (some .int) 2 := ⟨(TT_in 1003 (by decide +kernel) rfl), (TT_in 1005 (by decide +kernel) rfl), (TT_in 29 (by decide +kernel) rfl), (TT_in 99 (by decide +kernel) rfl), (TT_in 1006 (by decide +kernel) rfl), by decide, by decide +kernel, by decide⟩
set_option maxRecDepth 100000 in
theorem fl_X1_40_1 : FL RX1 40 1 4 (.int) false := ⟨RX1, "GearTeeth$Listener", TX1, 9, tyX1, rfl, by decide, inT_X1, (TT_in 349 (by decide +kernel) rfl), Or.inl rfl, tyX1_ok, nmX1, by decide +kernel, rfl, fun q => nomatch q⟩
set_option maxRecDepth 100000 in
theorem cw_X1_28_X1 : CV RX1 28 RX1 yX1_hear cX1_hear 4 none 2 := ⟨(TT_in 969 (by decide +kernel) rfl), (TT_in 971 (by decide +kernel) rfl), (TT_in 22 (by decide +kernel) rfl), (TT_in 99 (by decide +kernel) rfl), (TT_in 972 (by decide +kernel) rfl), by decide, by decide +kernel, by decide⟩
set_option maxRecDepth 100000 in
theorem inT_X3 : ∀ w ∈ u_ws RX3 TX3 6, w ∈ TT := mem_all (by decide +kernel)
set_option maxRecDepth 100000 in
theorem fl_X1_32_3 : FL RX1 32 3 1 (.int) false := ⟨RX3, "GearTeeth$Plant", TX3, 6, tyX3, rfl, by decide, inT_X3, (TT_in 162 (by decide +kernel) rfl), Or.inl rfl, tyX3_ok, nmX3, by decide +kernel, rfl, fun q => nomatch q⟩
set_option maxRecDepth 100000 in
theorem fl_X1_38_1 : FL RX1 38 1 1 (.int) false := ⟨RX1, "GearTeeth$Listener", TX1, 9, tyX1, rfl, by decide, inT_X1, (TT_in 346 (by decide +kernel) rfl), Or.inl rfl, tyX1_ok, nmX1, by decide +kernel, rfl, fun q => nomatch q⟩
set_option maxRecDepth 100000 in
theorem fl_X1_39_3 : FL RX1 39 3 0 (.array (.object "GearTeeth$Gear")) true := ⟨RX3, "GearTeeth$Plant", TX3, 6, tyX3, rfl, by decide, inT_X3, (TT_in 158 (by decide +kernel) rfl), Or.inl rfl, tyX3_ok, nmX3, by decide +kernel, rfl, fun _ q => absurd q (by decide)⟩
set_option maxRecDepth 100000 in
theorem cw_X1_47_X1 : CV RX1 47 RX1 yX1_countInside cX1_countInside 5 (some .int) 1 := ⟨(TT_in 982 (by decide +kernel) rfl), (TT_in 984 (by decide +kernel) rfl), (TT_in 24 (by decide +kernel) rfl), (TT_in 99 (by decide +kernel) rfl), (TT_in 985 (by decide +kernel) rfl), by decide, by decide +kernel, by decide⟩
set_option maxRecDepth 100000 in
theorem cw_X1_58_X1 : CV RX1 58 RX1 yX1_countSingles cX1_countSingles 2 (some .int) 1 := ⟨(TT_in 991 (by decide +kernel) rfl), (TT_in 993 (by decide +kernel) rfl), (TT_in 26 (by decide +kernel) rfl), (TT_in 99 (by decide +kernel) rfl), (TT_in 994 (by decide +kernel) rfl), by decide, by decide +kernel, by decide⟩
set_option maxRecDepth 100000 in
theorem cw_X1_61_X1 : CV RX1 61 RX1 yX1_addSets cX1_addSets 4 none 3 := ⟨(TT_in 995 (by decide +kernel) rfl), (TT_in 997 (by decide +kernel) rfl), (TT_in 27 (by decide +kernel) rfl), (TT_in 99 (by decide +kernel) rfl), (TT_in 998 (by decide +kernel) rfl), by decide, by decide +kernel, by decide⟩
set_option maxRecDepth 100000 in
theorem cw_X1_65_X1 : CV RX1 65 RX1 yX1_countPairs cX1_countPairs 4 (some .int) 2 := ⟨(TT_in 999 (by decide +kernel) rfl), (TT_in 1001 (by decide +kernel) rfl), (TT_in 28 (by decide +kernel) rfl), (TT_in 99 (by decide +kernel) rfl), (TT_in 1002 (by decide +kernel) rfl), by decide, by decide +kernel, by decide⟩
set_option maxRecDepth 100000 in
theorem wi_X2_3 : Cond.methodLink RX2 3 objectInit ∈ TT := (TT_in 193 (by decide +kernel) rfl)
set_option maxRecDepth 100000 in
theorem inT_X2 : ∀ w ∈ u_ws RX2 TX2 3, w ∈ TT := mem_all (by decide +kernel)
set_option maxRecDepth 100000 in
theorem fl_X2_9_2 : FL RX2 9 2 0 (.array (.int)) true := ⟨RX2, "GearTeeth$Loads", TX2, 3, tyX2, rfl, by decide, inT_X2, (TT_in 194 (by decide +kernel) rfl), Or.inl rfl, tyX2_ok, nmX2, by decide +kernel, rfl, fun _ _ => rfl⟩
set_option maxRecDepth 100000 in
theorem fl_X2_15_2 : FL RX2 15 2 1 (.array (.int)) true := ⟨RX2, "GearTeeth$Loads", TX2, 3, tyX2, rfl, by decide, inT_X2, (TT_in 195 (by decide +kernel) rfl), Or.inl rfl, tyX2_ok, nmX2, by decide +kernel, rfl, fun _ _ => rfl⟩
set_option maxRecDepth 100000 in
theorem fl_X2_18_2 : FL RX2 18 2 2 (.int) false := ⟨RX2, "GearTeeth$Loads", TX2, 3, tyX2, rfl, by decide, inT_X2, (TT_in 196 (by decide +kernel) rfl), Or.inl rfl, tyX2_ok, nmX2, by decide +kernel, rfl, fun q => nomatch q⟩
set_option maxRecDepth 100000 in
theorem wC_X2_22 : WC RX2 22 := ⟨(TT_in 1036 (by decide +kernel) rfl), (TT_in 535 (by decide +kernel) rfl), (TT_in 534 (by decide +kernel) rfl), (TT_in 103 (by decide +kernel) rfl)⟩
set_option maxRecDepth 100000 in
theorem wM_X2_28 : WM RX2 28 Lib.Math.max.name Lib.Math.max.code 2 .int := ⟨(TT_in 862 (by decide +kernel) rfl), (TT_in 606 (by decide +kernel) rfl), (TT_in 102 (by decide +kernel) rfl), (TT_in 607 (by decide +kernel) rfl)⟩
set_option maxRecDepth 100000 in
theorem cw_X2_34_X2 : CV RX2 34 RX2 yX2_shareAt cX2_shareAt 3 (some .int) 2 := ⟨(TT_in 858 (by decide +kernel) rfl), (TT_in 859 (by decide +kernel) rfl), (TT_in 860 (by decide +kernel) rfl), (TT_in 92 (by decide +kernel) rfl), (TT_in 861 (by decide +kernel) rfl), by decide, by decide +kernel, by decide⟩
set_option maxRecDepth 100000 in
theorem cw_X2_37_X2 : CV RX2 37 RX2 yX2_sumAt cX2_sumAt 4 (some .int) 1 := ⟨(TT_in 854 (by decide +kernel) rfl), (TT_in 856 (by decide +kernel) rfl), (TT_in 16 (by decide +kernel) rfl), (TT_in 92 (by decide +kernel) rfl), (TT_in 857 (by decide +kernel) rfl), by decide, by decide +kernel, by decide⟩
set_option maxRecDepth 100000 in
theorem wi_X3_3 : Cond.methodLink RX3 3 objectInit ∈ TT := (TT_in 123 (by decide +kernel) rfl)
set_option maxRecDepth 100000 in
theorem wq_X3_9 : Cond.classLink RX3 9 RX0 ∈ TT := (TT_in 124 (by decide +kernel) rfl)
set_option maxRecDepth 100000 in
theorem fl_X3_11_3 : FL RX3 11 3 0 (.array (.object "GearTeeth$Gear")) true := ⟨RX3, "GearTeeth$Plant", TX3, 6, tyX3, rfl, by decide, inT_X3, (TT_in 157 (by decide +kernel) rfl), Or.inl rfl, tyX3_ok, nmX3, by decide +kernel, rfl, fun _ _ => rfl⟩
set_option maxRecDepth 100000 in
theorem fl_X3_17_3 : FL RX3 17 3 2 (.array (.int)) true := ⟨RX3, "GearTeeth$Plant", TX3, 6, tyX3, rfl, by decide, inT_X3, (TT_in 164 (by decide +kernel) rfl), Or.inl rfl, tyX3_ok, nmX3, by decide +kernel, rfl, fun _ _ => rfl⟩
set_option maxRecDepth 100000 in
theorem fl_X3_21_3 : FL RX3 21 3 3 (.array (.int)) true := ⟨RX3, "GearTeeth$Plant", TX3, 6, tyX3, rfl, by decide, inT_X3, (TT_in 167 (by decide +kernel) rfl), Or.inl rfl, tyX3_ok, nmX3, by decide +kernel, rfl, fun _ _ => rfl⟩
set_option maxRecDepth 100000 in
theorem fl_X3_24_3 : FL RX3 24 3 4 (.array (.int)) true := ⟨RX3, "GearTeeth$Plant", TX3, 6, tyX3, rfl, by decide, inT_X3, (TT_in 170 (by decide +kernel) rfl), Or.inl rfl, tyX3_ok, nmX3, by decide +kernel, rfl, fun _ _ => rfl⟩
set_option maxRecDepth 100000 in
theorem wn_X3_9 : WN RX3 9 0 [.int 0, .int 0, .int 0, .int 0, .null] := ⟨RX0, TX0, 5, tyX0, rfl, inT_X0, tyX0_ok, (TT_in 124 (by decide +kernel) rfl), (TT_in 126 (by decide +kernel) rfl), (TT_in 91 (by decide +kernel) rfl), by decide +kernel, by decide, by decide⟩
set_option maxRecDepth 100000 in
theorem cw_X3_27 : CIN RX3 27 yX0_init cX0_init 1 0 := ⟨(by decide +kernel), (TT_in 128 (by decide +kernel) rfl), (TT_in 91 (by decide +kernel) rfl), (TT_in 129 (by decide +kernel) rfl), by decide, by decide +kernel, by decide, rfl⟩
set_option maxRecDepth 100000 in
theorem fl_X3_28_3 : FL RX3 28 3 1 (.int) false := ⟨RX3, "GearTeeth$Plant", TX3, 6, tyX3, rfl, by decide, inT_X3, (TT_in 161 (by decide +kernel) rfl), Or.inl rfl, tyX3_ok, nmX3, by decide +kernel, rfl, fun q => nomatch q⟩
set_option maxRecDepth 100000 in
theorem cw_X3_32_X0 : CV RX3 32 RX0 yX0_takeFrom cX0_takeFrom 2 none 1 := ⟨(TT_in 529 (by decide +kernel) rfl), (TT_in 530 (by decide +kernel) rfl), (TT_in 531 (by decide +kernel) rfl), (TT_in 91 (by decide +kernel) rfl), (TT_in 532 (by decide +kernel) rfl), by decide, by decide +kernel, by decide⟩
set_option maxRecDepth 100000 in
theorem fl_X3_36_3 : FL RX3 36 3 5 (.int) false := ⟨RX3, "GearTeeth$Plant", TX3, 6, tyX3, rfl, by decide, inT_X3, (TT_in 172 (by decide +kernel) rfl), Or.inl rfl, tyX3_ok, nmX3, by decide +kernel, rfl, fun q => nomatch q⟩
set_option maxRecDepth 100000 in
theorem wC_X3_39 : WC RX3 39 := ⟨(TT_in 536 (by decide +kernel) rfl), (TT_in 535 (by decide +kernel) rfl), (TT_in 534 (by decide +kernel) rfl), (TT_in 103 (by decide +kernel) rfl)⟩
set_option maxRecDepth 100000 in
theorem cw_X3_64 : CSN RX3 64 yX11_isWithin cX11_isWithin 3 (some .boolean) 3 := ⟨(by decide +kernel), (TT_in 458 (by decide +kernel) rfl), (TT_in 89 (by decide +kernel) rfl), (TT_in 459 (by decide +kernel) rfl), by decide, by decide +kernel, by decide⟩
set_option maxRecDepth 100000 in
theorem cw_X3_67_X0 : CV RX3 67 RX0 yX0_become cX0_become 5 none 4 := ⟨(TT_in 548 (by decide +kernel) rfl), (TT_in 549 (by decide +kernel) rfl), (TT_in 550 (by decide +kernel) rfl), (TT_in 91 (by decide +kernel) rfl), (TT_in 551 (by decide +kernel) rfl), by decide, by decide +kernel, by decide⟩
set_option maxRecDepth 100000 in
theorem cw_X3_71_X0 : CV RX3 71 RX0 yX0_isRing cX0_isRing 1 (some .boolean) 0 := ⟨(TT_in 559 (by decide +kernel) rfl), (TT_in 560 (by decide +kernel) rfl), (TT_in 561 (by decide +kernel) rfl), (TT_in 91 (by decide +kernel) rfl), (TT_in 562 (by decide +kernel) rfl), by decide, by decide +kernel, by decide⟩
set_option maxRecDepth 100000 in
theorem cw_X3_75_X3 : CV RX3 75 RX3 yX3_meshOf cX3_meshOf 4 (some .int) 2 := ⟨(TT_in 563 (by decide +kernel) rfl), (TT_in 565 (by decide +kernel) rfl), (TT_in 3 (by decide +kernel) rfl), (TT_in 90 (by decide +kernel) rfl), (TT_in 566 (by decide +kernel) rfl), by decide, by decide +kernel, by decide⟩
set_option maxRecDepth 100000 in
theorem inT_X9 : ∀ w ∈ u_ws RX9 TX9 7, w ∈ TT := mem_all (by decide +kernel)
set_option maxRecDepth 100000 in
theorem fl_X3_45_8 : FL RX3 45 8 4 (.int) false := ⟨RX9, "GearTeeth$TextReader", TX9, 7, tyX9, rfl, by decide, inT_X9, (TT_in 237 (by decide +kernel) rfl), Or.inl rfl, tyX9_ok, nmX9, by decide +kernel, rfl, fun q => nomatch q⟩
set_option maxRecDepth 100000 in
theorem fl_X3_50_8 : FL RX3 50 8 6 (.array (.int)) true := ⟨RX9, "GearTeeth$TextReader", TX9, 7, tyX9, rfl, by decide, inT_X9, (TT_in 242 (by decide +kernel) rfl), Or.inl rfl, tyX9_ok, nmX9, by decide +kernel, rfl, fun _ q => absurd q (by decide)⟩
set_option maxRecDepth 100000 in
theorem cw_X3_53_X3 : CV RX3 53 RX3 yX3_addGear cX3_addGear 4 (some .boolean) 3 := ⟨(TT_in 543 (by decide +kernel) rfl), (TT_in 545 (by decide +kernel) rfl), (TT_in 1 (by decide +kernel) rfl), (TT_in 90 (by decide +kernel) rfl), (TT_in 546 (by decide +kernel) rfl), by decide, by decide +kernel, by decide⟩
set_option maxRecDepth 100000 in
theorem cw_X3_57_X3 : CV RX3 57 RX3 yX3_addMesh cX3_addMesh 3 (some .boolean) 2 := ⟨(TT_in 555 (by decide +kernel) rfl), (TT_in 557 (by decide +kernel) rfl), (TT_in 2 (by decide +kernel) rfl), (TT_in 90 (by decide +kernel) rfl), (TT_in 558 (by decide +kernel) rfl), by decide, by decide +kernel, by decide⟩
set_option maxRecDepth 100000 in
theorem cw_X3_61_X3 : CV RX3 61 RX3 yX3_setRoom cX3_setRoom 5 (some .boolean) 3 := ⟨(TT_in 567 (by decide +kernel) rfl), (TT_in 569 (by decide +kernel) rfl), (TT_in 4 (by decide +kernel) rfl), (TT_in 90 (by decide +kernel) rfl), (TT_in 570 (by decide +kernel) rfl), by decide, by decide +kernel, by decide⟩
set_option maxRecDepth 100000 in
theorem fl_X3_79_0 : FL RX3 79 0 2 (.int) false := ⟨RX0, "GearTeeth$Gear", TX0, 5, tyX0, rfl, by decide, inT_X0, (TT_in 138 (by decide +kernel) rfl), Or.inl rfl, tyX0_ok, nmX0, by decide +kernel, rfl, fun q => nomatch q⟩
set_option maxRecDepth 100000 in
theorem cw_X3_82_X0 : CV RX3 82 RX0 yX0_sumOfWidths cX0_sumOfWidths 3 (some .int) 0 := ⟨(TT_in 1058 (by decide +kernel) rfl), (TT_in 1059 (by decide +kernel) rfl), (TT_in 1060 (by decide +kernel) rfl), (TT_in 91 (by decide +kernel) rfl), (TT_in 1061 (by decide +kernel) rfl), by decide, by decide +kernel, by decide⟩
set_option maxRecDepth 100000 in
theorem wi_X4_1 : Cond.methodLink RX4 1 objectInit ∈ TT := (TT_in 236 (by decide +kernel) rfl)
set_option maxRecDepth 100000 in
theorem inT_X7 : ∀ w ∈ u_ws RX7 TX7 5, w ∈ TT := mem_all (by decide +kernel)
set_option maxRecDepth 100000 in
theorem fl_X4_7_6 : FL RX4 7 6 0 (.array (.int)) false := ⟨RX7, "GearTeeth$Reader", TX7, 5, tyX7, rfl, by decide, inT_X7, (TT_in 243 (by decide +kernel) rfl), Or.inl rfl, tyX7_ok, nmX7, by decide +kernel, rfl, fun q => nomatch q⟩
set_option maxRecDepth 100000 in
theorem fl_X4_7_8 : FL RX4 7 8 0 (.array (.int)) false := ⟨RX9, "GearTeeth$Reader", TX9, 7, tyX9, rfl, by decide, inT_X9, (TT_in 243 (by decide +kernel) rfl), Or.inl rfl, tyX9_ok, nmX9, by decide +kernel, rfl, fun q => nomatch q⟩
set_option maxRecDepth 100000 in
theorem wM_X4_13 : WM RX4 13 Lib.Math.min.name Lib.Math.min.code 2 .int := ⟨(TT_in 486 (by decide +kernel) rfl), (TT_in 487 (by decide +kernel) rfl), (TT_in 102 (by decide +kernel) rfl), (TT_in 488 (by decide +kernel) rfl)⟩
set_option maxRecDepth 100000 in
theorem fl_X4_19_6 : FL RX4 19 6 1 (.int) false := ⟨RX7, "GearTeeth$Reader", TX7, 5, tyX7, rfl, by decide, inT_X7, (TT_in 244 (by decide +kernel) rfl), Or.inl rfl, tyX7_ok, nmX7, by decide +kernel, rfl, fun q => nomatch q⟩
set_option maxRecDepth 100000 in
theorem fl_X4_23_6 : FL RX4 23 6 2 (.int) false := ⟨RX7, "GearTeeth$Reader", TX7, 5, tyX7, rfl, by decide, inT_X7, (TT_in 245 (by decide +kernel) rfl), Or.inl rfl, tyX7_ok, nmX7, by decide +kernel, rfl, fun q => nomatch q⟩
set_option maxRecDepth 100000 in
theorem fl_X4_26_6 : FL RX4 26 6 3 (.boolean) false := ⟨RX7, "GearTeeth$Reader", TX7, 5, tyX7, rfl, by decide, inT_X7, (TT_in 255 (by decide +kernel) rfl), Or.inl rfl, tyX7_ok, nmX7, by decide +kernel, rfl, fun q => nomatch q⟩
set_option maxRecDepth 100000 in
theorem fl_X4_19_8 : FL RX4 19 8 1 (.int) false := ⟨RX9, "GearTeeth$Reader", TX9, 7, tyX9, rfl, by decide, inT_X9, (TT_in 244 (by decide +kernel) rfl), Or.inl rfl, tyX9_ok, nmX9, by decide +kernel, rfl, fun q => nomatch q⟩
set_option maxRecDepth 100000 in
theorem fl_X4_23_8 : FL RX4 23 8 2 (.int) false := ⟨RX9, "GearTeeth$Reader", TX9, 7, tyX9, rfl, by decide, inT_X9, (TT_in 245 (by decide +kernel) rfl), Or.inl rfl, tyX9_ok, nmX9, by decide +kernel, rfl, fun q => nomatch q⟩
set_option maxRecDepth 100000 in
theorem fl_X4_26_8 : FL RX4 26 8 3 (.boolean) false := ⟨RX9, "GearTeeth$Reader", TX9, 7, tyX9, rfl, by decide, inT_X9, (TT_in 255 (by decide +kernel) rfl), Or.inl rfl, tyX9_ok, nmX9, by decide +kernel, rfl, fun q => nomatch q⟩
set_option maxRecDepth 100000 in
theorem cw_X4_30_X7 : CV RX4 30 RX7 yX4_coming cX4_coming 1 (some .int) 0 := ⟨(TT_in 511 (by decide +kernel) rfl), (TT_in 497 (by decide +kernel) rfl), (TT_in 1780 (by decide +kernel) rfl), (TT_in 94 (by decide +kernel) rfl), (TT_in 498 (by decide +kernel) rfl), by decide, by decide +kernel, by decide⟩
set_option maxRecDepth 100000 in
theorem cw_X4_30_X9 : CV RX4 30 RX9 yX4_coming cX4_coming 1 (some .int) 0 := ⟨(TT_in 511 (by decide +kernel) rfl), (TT_in 497 (by decide +kernel) rfl), (TT_in 1781 (by decide +kernel) rfl), (TT_in 94 (by decide +kernel) rfl), (TT_in 498 (by decide +kernel) rfl), by decide, by decide +kernel, by decide⟩
set_option maxRecDepth 100000 in
theorem cw_X4_34_X7 : CV RX4 34 RX7 yX4_takes cX4_takes 2 (some .boolean) 1 := ⟨(TT_in 505 (by decide +kernel) rfl), (TT_in 506 (by decide +kernel) rfl), (TT_in 508 (by decide +kernel) rfl), (TT_in 94 (by decide +kernel) rfl), (TT_in 510 (by decide +kernel) rfl), by decide, by decide +kernel, by decide⟩
set_option maxRecDepth 100000 in
theorem cw_X4_34_X9 : CV RX4 34 RX9 yX4_takes cX4_takes 2 (some .boolean) 1 := ⟨(TT_in 505 (by decide +kernel) rfl), (TT_in 506 (by decide +kernel) rfl), (TT_in 509 (by decide +kernel) rfl), (TT_in 94 (by decide +kernel) rfl), (TT_in 510 (by decide +kernel) rfl), by decide, by decide +kernel, by decide⟩
set_option maxRecDepth 100000 in
theorem cw_X4_38 : CSN RX4 38 yX11_isWithin cX11_isWithin 3 (some .boolean) 3 := ⟨(by decide +kernel), (TT_in 458 (by decide +kernel) rfl), (TT_in 89 (by decide +kernel) rfl), (TT_in 459 (by decide +kernel) rfl), by decide, by decide +kernel, by decide⟩
set_option maxRecDepth 100000 in
theorem wi_X5_3 : Cond.methodLink RX5 3 objectInit ∈ TT := (TT_in 321 (by decide +kernel) rfl)
set_option maxRecDepth 100000 in
theorem wn_X5_9 : WN RX5 9 0 [.int 0, .int 0, .int 0, .int 0, .null] := ⟨RX0, TX0, 5, tyX0, rfl, inT_X0, tyX0_ok, (TT_in 322 (by decide +kernel) rfl), (TT_in 126 (by decide +kernel) rfl), (TT_in 91 (by decide +kernel) rfl), by decide +kernel, by decide, by decide⟩
set_option maxRecDepth 100000 in
theorem cw_X5_11 : CIN RX5 11 yX0_init cX0_init 1 0 := ⟨(by decide +kernel), (TT_in 128 (by decide +kernel) rfl), (TT_in 91 (by decide +kernel) rfl), (TT_in 129 (by decide +kernel) rfl), by decide, by decide +kernel, by decide, rfl⟩
set_option maxRecDepth 100000 in
theorem inT_X5 : ∀ w ∈ u_ws RX5 TX5 4, w ∈ TT := mem_all (by decide +kernel)
set_option maxRecDepth 100000 in
theorem fl_X5_12_4 : FL RX5 12 4 0 (.object "GearTeeth$Gear") false := ⟨RX5, "GearTeeth$Rolling", TX5, 4, tyX5, rfl, by decide, inT_X5, (TT_in 324 (by decide +kernel) rfl), Or.inl rfl, tyX5_ok, nmX5, by decide +kernel, rfl, fun q => nomatch q⟩
set_option maxRecDepth 100000 in
theorem fl_X5_18_4 : FL RX5 18 4 1 (.object "GearTeeth$Gear") false := ⟨RX5, "GearTeeth$Rolling", TX5, 4, tyX5, rfl, by decide, inT_X5, (TT_in 325 (by decide +kernel) rfl), Or.inl rfl, tyX5_ok, nmX5, by decide +kernel, rfl, fun q => nomatch q⟩
set_option maxRecDepth 100000 in
theorem fl_X5_21_4 : FL RX5 21 4 3 (.array (.int)) true := ⟨RX5, "GearTeeth$Rolling", TX5, 4, tyX5, rfl, by decide, inT_X5, (TT_in 327 (by decide +kernel) rfl), Or.inl rfl, tyX5_ok, nmX5, by decide +kernel, rfl, fun _ _ => rfl⟩
set_option maxRecDepth 100000 in
theorem fl_X5_40_0 : FL RX5 40 0 4 (.array (.int)) true := ⟨RX0, "GearTeeth$Gear", TX0, 5, tyX0, rfl, by decide, inT_X0, (TT_in 144 (by decide +kernel) rfl), Or.inl rfl, tyX0_ok, nmX0, by decide +kernel, rfl, fun _ q => absurd q (by decide)⟩
set_option maxRecDepth 100000 in
theorem cw_X5_43 : CS RX5 43 yX5_facing cX5_facing 2 (some .int) 2 := ⟨(TT_in 745 (by decide +kernel) rfl), (TT_in 746 (by decide +kernel) rfl), (TT_in 98 (by decide +kernel) rfl), (TT_in 747 (by decide +kernel) rfl), by decide, by decide +kernel, by decide⟩
set_option maxRecDepth 100000 in
theorem cw_X5_36_X5 : CV RX5 36 RX5 yX5_bothAt cX5_bothAt 3 (some .int) 2 := ⟨(TT_in 741 (by decide +kernel) rfl), (TT_in 743 (by decide +kernel) rfl), (TT_in 14 (by decide +kernel) rfl), (TT_in 98 (by decide +kernel) rfl), (TT_in 744 (by decide +kernel) rfl), by decide, by decide +kernel, by decide⟩
set_option maxRecDepth 100000 in
theorem fl_X5_25_4 : FL RX5 25 4 2 (.int) false := ⟨RX5, "GearTeeth$Rolling", TX5, 4, tyX5, rfl, by decide, inT_X5, (TT_in 326 (by decide +kernel) rfl), Or.inl rfl, tyX5_ok, nmX5, by decide +kernel, rfl, fun q => nomatch q⟩
set_option maxRecDepth 100000 in
theorem cw_X5_32_X5 : CV RX5 32 RX5 yX5_touchAt cX5_touchAt 6 (some .int) 1 := ⟨(TT_in 737 (by decide +kernel) rfl), (TT_in 738 (by decide +kernel) rfl), (TT_in 739 (by decide +kernel) rfl), (TT_in 98 (by decide +kernel) rfl), (TT_in 740 (by decide +kernel) rfl), by decide, by decide +kernel, by decide⟩
set_option maxRecDepth 100000 in
theorem cw_X5_29_X5 : CV RX5 29 RX5 yX5_measure cX5_measure 2 none 0 := ⟨(TT_in 733 (by decide +kernel) rfl), (TT_in 734 (by decide +kernel) rfl), (TT_in 735 (by decide +kernel) rfl), (TT_in 98 (by decide +kernel) rfl), (TT_in 736 (by decide +kernel) rfl), by decide, by decide +kernel, by decide⟩
set_option maxRecDepth 100000 in
theorem wM_X5_46 : WM RX5 46 Lib.Math.min.name Lib.Math.min.code 2 .int := ⟨(TT_in 769 (by decide +kernel) rfl), (TT_in 487 (by decide +kernel) rfl), (TT_in 102 (by decide +kernel) rfl), (TT_in 488 (by decide +kernel) rfl)⟩
set_option maxRecDepth 100000 in
theorem wM_X5_51 : WM RX5 51 Lib.Math.max.name Lib.Math.max.code 2 .int := ⟨(TT_in 778 (by decide +kernel) rfl), (TT_in 606 (by decide +kernel) rfl), (TT_in 102 (by decide +kernel) rfl), (TT_in 607 (by decide +kernel) rfl)⟩
set_option maxRecDepth 100000 in
theorem cw_X5_54_X5 : CV RX5 54 RX5 yX5_leastOff cX5_leastOff 3 (some .int) 0 := ⟨(TT_in 779 (by decide +kernel) rfl), (TT_in 766 (by decide +kernel) rfl), (TT_in 767 (by decide +kernel) rfl), (TT_in 98 (by decide +kernel) rfl), (TT_in 768 (by decide +kernel) rfl), by decide, by decide +kernel, by decide⟩
set_option maxRecDepth 100000 in
theorem ws_X5_58 : Cond.fieldLink RX5 58 (roC 2).1 (roC 2).2.1 "[I" ∈ TT := (TT_in 819 (by decide +kernel) rfl)
set_option maxRecDepth 100000 in
theorem wc_X5_61 : Cond.constantLong RX5 61 (K 1000000) ∈ TT := (TT_in 821 (by decide +kernel) rfl)
set_option maxRecDepth 100000 in
theorem cw_X5_63_X5 : CV RX5 63 RX5 yX5_loudness cX5_loudness 8 (some .long) 1 := ⟨(TT_in 830 (by decide +kernel) rfl), (TT_in 816 (by decide +kernel) rfl), (TT_in 817 (by decide +kernel) rfl), (TT_in 98 (by decide +kernel) rfl), (TT_in 818 (by decide +kernel) rfl), by decide, by decide +kernel, by decide⟩
set_option maxRecDepth 100000 in
theorem cw_X5_67_X0 : CV RX5 67 RX0 yX0_hard cX0_hard 1 (some .int) 0 := ⟨(TT_in 795 (by decide +kernel) rfl), (TT_in 580 (by decide +kernel) rfl), (TT_in 581 (by decide +kernel) rfl), (TT_in 91 (by decide +kernel) rfl), (TT_in 582 (by decide +kernel) rfl), by decide, by decide +kernel, by decide⟩
set_option maxRecDepth 100000 in
theorem cw_X5_70_X0 : CV RX5 70 RX0 yX0_wearAt cX0_wearAt 2 none 1 := ⟨(TT_in 796 (by decide +kernel) rfl), (TT_in 797 (by decide +kernel) rfl), (TT_in 798 (by decide +kernel) rfl), (TT_in 91 (by decide +kernel) rfl), (TT_in 799 (by decide +kernel) rfl), by decide, by decide +kernel, by decide⟩
set_option maxRecDepth 100000 in
theorem cw_X5_74_X5 : CV RX5 74 RX5 yX5_loudestTone cX5_loudestTone 3 (some .int) 0 := ⟨(TT_in 946 (by decide +kernel) rfl), (TT_in 827 (by decide +kernel) rfl), (TT_in 828 (by decide +kernel) rfl), (TT_in 98 (by decide +kernel) rfl), (TT_in 829 (by decide +kernel) rfl), by decide, by decide +kernel, by decide⟩
set_option maxRecDepth 100000 in
theorem cw_X5_77_X5 : CV RX5 77 RX5 yX5_spread cX5_spread 3 (some .int) 0 := ⟨(TT_in 947 (by decide +kernel) rfl), (TT_in 775 (by decide +kernel) rfl), (TT_in 776 (by decide +kernel) rfl), (TT_in 98 (by decide +kernel) rfl), (TT_in 777 (by decide +kernel) rfl), by decide, by decide +kernel, by decide⟩
set_option maxRecDepth 100000 in
theorem wc_X5_80 : Cond.constantLong RX5 80 (K 9999) ∈ TT := (TT_in 948 (by decide +kernel) rfl)
set_option maxRecDepth 100000 in
theorem wM_X5_82 : WM RX5 82 Lib.MathLoose.min_long.x Lib.MathLoose.min_long.code 4 .long := ⟨(TT_in 949 (by decide +kernel) rfl), (TT_in 950 (by decide +kernel) rfl), (TT_in 102 (by decide +kernel) rfl), (TT_in 951 (by decide +kernel) rfl)⟩
set_option maxRecDepth 100000 in
theorem cw_X5_85_X0 : CV RX5 85 RX0 yX0_thin cX0_thin 3 (some .int) 0 := ⟨(TT_in 952 (by decide +kernel) rfl), (TT_in 593 (by decide +kernel) rfl), (TT_in 594 (by decide +kernel) rfl), (TT_in 91 (by decide +kernel) rfl), (TT_in 595 (by decide +kernel) rfl), by decide, by decide +kernel, by decide⟩
set_option maxRecDepth 100000 in
theorem wi_X6_3 : Cond.methodLink RX6 3 objectInit ∈ TT := (TT_in 210 (by decide +kernel) rfl)
set_option maxRecDepth 100000 in
theorem wm_X6_9 : Cond.classLink RX6 9 ("[" ++ (FieldType.array .int).toString) ∈ TT := (TT_in 211 (by decide +kernel) rfl)
set_option maxRecDepth 100000 in
theorem inT_X6 : ∀ w ∈ u_ws RX6 TX6 3, w ∈ TT := mem_all (by decide +kernel)
set_option maxRecDepth 100000 in
theorem fl_X6_11_5 : FL RX6 11 5 0 (.array (.array (.int))) true := ⟨RX6, "GearTeeth$RuleBook", TX6, 3, tyX6, rfl, by decide, inT_X6, (TT_in 213 (by decide +kernel) rfl), Or.inl rfl, tyX6_ok, nmX6, by decide +kernel, rfl, fun _ _ => rfl⟩
set_option maxRecDepth 100000 in
theorem fl_X6_16_5 : FL RX6 16 5 1 (.array (.int)) true := ⟨RX6, "GearTeeth$RuleBook", TX6, 3, tyX6, rfl, by decide, inT_X6, (TT_in 215 (by decide +kernel) rfl), Or.inl rfl, tyX6_ok, nmX6, by decide +kernel, rfl, fun _ _ => rfl⟩
set_option maxRecDepth 100000 in
theorem fl_X6_20_5 : FL RX6 20 5 2 (.int) false := ⟨RX6, "GearTeeth$RuleBook", TX6, 3, tyX6, rfl, by decide, inT_X6, (TT_in 217 (by decide +kernel) rfl), Or.inl rfl, tyX6_ok, nmX6, by decide +kernel, rfl, fun q => nomatch q⟩
set_option maxRecDepth 100000 in
theorem wC_X6_28 : WC RX6 28 := ⟨(TT_in 933 (by decide +kernel) rfl), (TT_in 535 (by decide +kernel) rfl), (TT_in 534 (by decide +kernel) rfl), (TT_in 103 (by decide +kernel) rfl)⟩
set_option maxRecDepth 100000 in
theorem cw_X6_24_X6 : CV RX6 24 RX6 yX6_addRule cX6_addRule 3 none 2 := ⟨(TT_in 1041 (by decide +kernel) rfl), (TT_in 930 (by decide +kernel) rfl), (TT_in 931 (by decide +kernel) rfl), (TT_in 93 (by decide +kernel) rfl), (TT_in 932 (by decide +kernel) rfl), by decide, by decide +kernel, by decide⟩
set_option maxRecDepth 100000 in
theorem cw_X7_3 : CIN RX7 3 yX4_init cX4_init 1 0 := ⟨(by decide +kernel), (TT_in 234 (by decide +kernel) rfl), (TT_in 94 (by decide +kernel) rfl), (TT_in 235 (by decide +kernel) rfl), by decide, by decide +kernel, by decide, rfl⟩
set_option maxRecDepth 100000 in
theorem fl_X7_9_6 : FL RX7 9 6 4 (.array (.int)) true := ⟨RX7, "GearTeeth$RuleReader", TX7, 5, tyX7, rfl, by decide, inT_X7, (TT_in 278 (by decide +kernel) rfl), Or.inl rfl, tyX7_ok, nmX7, by decide +kernel, rfl, fun _ _ => rfl⟩
set_option maxRecDepth 100000 in
theorem cw_X7_50_X7 : CU RX7 50 RX7 ⟨RX7, "coming", "()I"⟩ yX4_coming cX4_coming 1 (some .int) 0 := ⟨(TT_in 910 (by decide +kernel) rfl), (TT_in 497 (by decide +kernel) rfl), (TT_in 912 (by decide +kernel) rfl), (TT_in 94 (by decide +kernel) rfl), (TT_in 498 (by decide +kernel) rfl), by decide, by decide +kernel, by decide, (TT_in 911 (by decide +kernel) rfl), rfl⟩
set_option maxRecDepth 100000 in
theorem ws_X7_56 : Cond.fieldLink RX7 56 (roC 3).1 (roC 3).2.1 "[I" ∈ TT := (TT_in 913 (by decide +kernel) rfl)
set_option maxRecDepth 100000 in
theorem cw_X7_59_X7 : CU RX7 59 RX7 ⟨RX7, "takeNumber", "(I)I"⟩ yX4_takeNumber cX4_takeNumber 5 (some .int) 1 := ⟨(TT_in 915 (by decide +kernel) rfl), (TT_in 516 (by decide +kernel) rfl), (TT_in 917 (by decide +kernel) rfl), (TT_in 94 (by decide +kernel) rfl), (TT_in 517 (by decide +kernel) rfl), by decide, by decide +kernel, by decide, (TT_in 916 (by decide +kernel) rfl), rfl⟩
set_option maxRecDepth 100000 in
theorem fl_X7_31_6 : FL RX7 31 6 2 (.int) false := ⟨RX7, "GearTeeth$RuleReader", TX7, 5, tyX7, rfl, by decide, inT_X7, (TT_in 249 (by decide +kernel) rfl), Or.inr (TT_in 250 (by decide +kernel) rfl), tyX7_ok, nmX7, by decide +kernel, rfl, fun q => nomatch q⟩
set_option maxRecDepth 100000 in
theorem cw_X7_53_X7 : CV RX7 53 RX7 yX7_readAtom cX7_readAtom 3 (some .int) 0 := ⟨(TT_in 906 (by decide +kernel) rfl), (TT_in 908 (by decide +kernel) rfl), (TT_in 20 (by decide +kernel) rfl), (TT_in 96 (by decide +kernel) rfl), (TT_in 909 (by decide +kernel) rfl), by decide, by decide +kernel, by decide⟩
set_option maxRecDepth 100000 in
theorem cw_X7_38_X7 : CU RX7 38 RX7 ⟨RX7, "takes", "(C)Z"⟩ yX4_takes cX4_takes 2 (some .boolean) 1 := ⟨(TT_in 895 (by decide +kernel) rfl), (TT_in 506 (by decide +kernel) rfl), (TT_in 898 (by decide +kernel) rfl), (TT_in 94 (by decide +kernel) rfl), (TT_in 510 (by decide +kernel) rfl), by decide, by decide +kernel, by decide, (TT_in 896 (by decide +kernel) rfl), rfl⟩
set_option maxRecDepth 100000 in
theorem cw_X7_46_X7 : CV RX7 46 RX7 yX7_readSum cX7_readSum 3 (some .int) 0 := ⟨(TT_in 902 (by decide +kernel) rfl), (TT_in 904 (by decide +kernel) rfl), (TT_in 19 (by decide +kernel) rfl), (TT_in 96 (by decide +kernel) rfl), (TT_in 905 (by decide +kernel) rfl), by decide, by decide +kernel, by decide⟩
set_option maxRecDepth 100000 in
theorem cw_X7_42_X7 : CU RX7 42 RX7 ⟨RX7, "takeOrStop", "(C)V"⟩ yX4_takeOrStop cX4_takeOrStop 2 none 1 := ⟨(TT_in 899 (by decide +kernel) rfl), (TT_in 503 (by decide +kernel) rfl), (TT_in 901 (by decide +kernel) rfl), (TT_in 94 (by decide +kernel) rfl), (TT_in 504 (by decide +kernel) rfl), by decide, by decide +kernel, by decide, (TT_in 900 (by decide +kernel) rfl), rfl⟩
set_option maxRecDepth 100000 in
theorem cw_X7_19_X7 : CV RX7 19 RX7 yX7_readOr cX7_readOr 5 (some .boolean) 1 := ⟨(TT_in 887 (by decide +kernel) rfl), (TT_in 889 (by decide +kernel) rfl), (TT_in 17 (by decide +kernel) rfl), (TT_in 96 (by decide +kernel) rfl), (TT_in 890 (by decide +kernel) rfl), by decide, by decide +kernel, by decide⟩
set_option maxRecDepth 100000 in
theorem cw_X7_35_X7 : CV RX7 35 RX7 yX7_readTest cX7_readTest 7 (some .boolean) 1 := ⟨(TT_in 891 (by decide +kernel) rfl), (TT_in 893 (by decide +kernel) rfl), (TT_in 18 (by decide +kernel) rfl), (TT_in 96 (by decide +kernel) rfl), (TT_in 894 (by decide +kernel) rfl), by decide, by decide +kernel, by decide⟩
set_option maxRecDepth 100000 in
theorem cw_X7_15_X7 : CU RX7 15 RX7 ⟨RX7, "startOn", "([II)V"⟩ yX4_startOn cX4_startOn 3 none 2 := ⟨(TT_in 884 (by decide +kernel) rfl), (TT_in 484 (by decide +kernel) rfl), (TT_in 886 (by decide +kernel) rfl), (TT_in 94 (by decide +kernel) rfl), (TT_in 485 (by decide +kernel) rfl), by decide, by decide +kernel, by decide, (TT_in 885 (by decide +kernel) rfl), rfl⟩
set_option maxRecDepth 100000 in
theorem fl_X7_23_6 : FL RX7 23 6 3 (.boolean) false := ⟨RX7, "GearTeeth$RuleReader", TX7, 5, tyX7, rfl, by decide, inT_X7, (TT_in 251 (by decide +kernel) rfl), Or.inr (TT_in 252 (by decide +kernel) rfl), tyX7_ok, nmX7, by decide +kernel, rfl, fun q => nomatch q⟩
set_option maxRecDepth 100000 in
theorem cw_X7_27_X7 : CU RX7 27 RX7 ⟨RX7, "isAtEnd", "()Z"⟩ yX4_isAtEnd cX4_isAtEnd 1 (some .boolean) 0 := ⟨(TT_in 918 (by decide +kernel) rfl), (TT_in 523 (by decide +kernel) rfl), (TT_in 920 (by decide +kernel) rfl), (TT_in 94 (by decide +kernel) rfl), (TT_in 524 (by decide +kernel) rfl), by decide, by decide +kernel, by decide, (TT_in 919 (by decide +kernel) rfl), rfl⟩
set_option maxRecDepth 100000 in
theorem wi_X8_3 : Cond.methodLink RX8 3 objectInit ∈ TT := (TT_in 378 (by decide +kernel) rfl)
set_option maxRecDepth 100000 in
theorem inT_X8 : ∀ w ∈ u_ws RX8 TX8 5, w ∈ TT := mem_all (by decide +kernel)
set_option maxRecDepth 100000 in
theorem fl_X8_11_7 : FL RX8 11 7 0 (.int) false := ⟨RX8, "GearTeeth$Shelf", TX8, 5, tyX8, rfl, by decide, inT_X8, (TT_in 381 (by decide +kernel) rfl), Or.inl rfl, tyX8_ok, nmX8, by decide +kernel, rfl, fun q => nomatch q⟩
set_option maxRecDepth 100000 in
theorem wn_X8_15 : WN RX8 15 0 [.int 0, .int 0, .int 0, .int 0, .null] := ⟨RX0, TX0, 5, tyX0, rfl, inT_X0, tyX0_ok, (TT_in 379 (by decide +kernel) rfl), (TT_in 126 (by decide +kernel) rfl), (TT_in 91 (by decide +kernel) rfl), by decide +kernel, by decide, by decide⟩
set_option maxRecDepth 100000 in
theorem cw_X8_17 : CIN RX8 17 yX0_init cX0_init 1 0 := ⟨(by decide +kernel), (TT_in 128 (by decide +kernel) rfl), (TT_in 91 (by decide +kernel) rfl), (TT_in 129 (by decide +kernel) rfl), by decide, by decide +kernel, by decide, rfl⟩
set_option maxRecDepth 100000 in
theorem fl_X8_18_7 : FL RX8 18 7 1 (.object "GearTeeth$Gear") true := ⟨RX8, "GearTeeth$Shelf", TX8, 5, tyX8, rfl, by decide, inT_X8, (TT_in 382 (by decide +kernel) rfl), Or.inl rfl, tyX8_ok, nmX8, by decide +kernel, rfl, fun _ _ => rfl⟩
set_option maxRecDepth 100000 in
theorem fl_X8_22_7 : FL RX8 22 7 4 (.array (.int)) true := ⟨RX8, "GearTeeth$Shelf", TX8, 5, tyX8, rfl, by decide, inT_X8, (TT_in 388 (by decide +kernel) rfl), Or.inl rfl, tyX8_ok, nmX8, by decide +kernel, rfl, fun _ _ => rfl⟩
set_option maxRecDepth 100000 in
theorem cw_X8_26_X0 : CV RX8 26 RX0 yX0_takeFrom cX0_takeFrom 2 none 1 := ⟨(TT_in 1080 (by decide +kernel) rfl), (TT_in 530 (by decide +kernel) rfl), (TT_in 531 (by decide +kernel) rfl), (TT_in 91 (by decide +kernel) rfl), (TT_in 532 (by decide +kernel) rfl), by decide, by decide +kernel, by decide⟩
set_option maxRecDepth 100000 in
theorem fl_X8_30_7 : FL RX8 30 7 2 (.int) false := ⟨RX8, "GearTeeth$Shelf", TX8, 5, tyX8, rfl, by decide, inT_X8, (TT_in 384 (by decide +kernel) rfl), Or.inl rfl, tyX8_ok, nmX8, by decide +kernel, rfl, fun q => nomatch q⟩
set_option maxRecDepth 100000 in
theorem fl_X8_33_7 : FL RX8 33 7 3 (.int) false := ⟨RX8, "GearTeeth$Shelf", TX8, 5, tyX8, rfl, by decide, inT_X8, (TT_in 387 (by decide +kernel) rfl), Or.inl rfl, tyX8_ok, nmX8, by decide +kernel, rfl, fun q => nomatch q⟩
set_option maxRecDepth 100000 in
theorem cw_X8_36 : CS RX8 36 yJ7_fill_53178 cJ7_fill_53178 4 none 2 := ⟨(TT_in 1089 (by decide +kernel) rfl), (TT_in 553 (by decide +kernel) rfl), (TT_in 104 (by decide +kernel) rfl), (TT_in 554 (by decide +kernel) rfl), by decide, by decide +kernel, by decide⟩
set_option maxRecDepth 100000 in
theorem cw_X8_42 : CSN RX8 42 yX11_isWithin cX11_isWithin 3 (some .boolean) 3 := ⟨(by decide +kernel), (TT_in 458 (by decide +kernel) rfl), (TT_in 89 (by decide +kernel) rfl), (TT_in 459 (by decide +kernel) rfl), by decide, by decide +kernel, by decide⟩
set_option maxRecDepth 100000 in
theorem cw_X8_46_X8 : CV RX8 46 RX8 yX8_holdsNothing cX8_holdsNothing 1 (some .boolean) 0 := ⟨(TT_in 472 (by decide +kernel) rfl), (TT_in 473 (by decide +kernel) rfl), (TT_in 474 (by decide +kernel) rfl), (TT_in 100 (by decide +kernel) rfl), (TT_in 475 (by decide +kernel) rfl), by decide, by decide +kernel, by decide⟩
set_option maxRecDepth 100000 in
theorem cw_X8_50_X8 : CV RX8 50 RX8 yX8_refusalUnless cX8_refusalUnless 2 (some .int) 1 := ⟨(TT_in 468 (by decide +kernel) rfl), (TT_in 470 (by decide +kernel) rfl), (TT_in 0 (by decide +kernel) rfl), (TT_in 100 (by decide +kernel) rfl), (TT_in 471 (by decide +kernel) rfl), by decide, by decide +kernel, by decide⟩
set_option maxRecDepth 100000 in
theorem cw_X8_54_X8 : CV RX8 54 RX8 yX8_holdsRow cX8_holdsRow 1 (some .boolean) 0 := ⟨(TT_in 464 (by decide +kernel) rfl), (TT_in 465 (by decide +kernel) rfl), (TT_in 466 (by decide +kernel) rfl), (TT_in 100 (by decide +kernel) rfl), (TT_in 467 (by decide +kernel) rfl), by decide, by decide +kernel, by decide⟩
set_option maxRecDepth 100000 in
theorem cw_X8_57_X8 : CV RX8 57 RX8 yX8_bytesRefusal cX8_bytesRefusal 1 (some .int) 0 := ⟨(TT_in 705 (by decide +kernel) rfl), (TT_in 461 (by decide +kernel) rfl), (TT_in 462 (by decide +kernel) rfl), (TT_in 100 (by decide +kernel) rfl), (TT_in 463 (by decide +kernel) rfl), by decide, by decide +kernel, by decide⟩
set_option maxRecDepth 100000 in
theorem cw_X8_61_X8 : CV RX8 61 RX8 yX8_areAllWithin cX8_areAllWithin 3 (some .boolean) 1 := ⟨(TT_in 706 (by decide +kernel) rfl), (TT_in 708 (by decide +kernel) rfl), (TT_in 11 (by decide +kernel) rfl), (TT_in 100 (by decide +kernel) rfl), (TT_in 709 (by decide +kernel) rfl), by decide, by decide +kernel, by decide⟩
set_option maxRecDepth 100000 in
theorem cw_X9_1 : CIN RX9 1 yX4_init cX4_init 1 0 := ⟨(by decide +kernel), (TT_in 234 (by decide +kernel) rfl), (TT_in 94 (by decide +kernel) rfl), (TT_in 235 (by decide +kernel) rfl), by decide, by decide +kernel, by decide, rfl⟩
set_option maxRecDepth 100000 in
theorem fl_X9_7_8 : FL RX9 7 8 6 (.array (.int)) true := ⟨RX9, "GearTeeth$TextReader", TX9, 7, tyX9, rfl, by decide, inT_X9, (TT_in 241 (by decide +kernel) rfl), Or.inl rfl, tyX9_ok, nmX9, by decide +kernel, rfl, fun _ _ => rfl⟩
set_option maxRecDepth 100000 in
theorem fl_X9_28_8 : FL RX9 28 8 2 (.int) false := ⟨RX9, "GearTeeth$TextReader", TX9, 7, tyX9, rfl, by decide, inT_X9, (TT_in 248 (by decide +kernel) rfl), Or.inr (TT_in 247 (by decide +kernel) rfl), tyX9_ok, nmX9, by decide +kernel, rfl, fun q => nomatch q⟩
set_option maxRecDepth 100000 in
theorem fl_X9_32_8 : FL RX9 32 8 5 (.int) false := ⟨RX9, "GearTeeth$TextReader", TX9, 7, tyX9, rfl, by decide, inT_X9, (TT_in 240 (by decide +kernel) rfl), Or.inl rfl, tyX9_ok, nmX9, by decide +kernel, rfl, fun q => nomatch q⟩
set_option maxRecDepth 100000 in
theorem cw_X9_35_X9 : CU RX9 35 RX9 ⟨RX9, "coming", "()I"⟩ yX4_coming cX4_coming 1 (some .int) 0 := ⟨(TT_in 493 (by decide +kernel) rfl), (TT_in 497 (by decide +kernel) rfl), (TT_in 496 (by decide +kernel) rfl), (TT_in 94 (by decide +kernel) rfl), (TT_in 498 (by decide +kernel) rfl), by decide, by decide +kernel, by decide, (TT_in 494 (by decide +kernel) rfl), rfl⟩
set_option maxRecDepth 100000 in
theorem fl_X9_39_8 : FL RX9 39 8 4 (.int) false := ⟨RX9, "GearTeeth$TextReader", TX9, 7, tyX9, rfl, by decide, inT_X9, (TT_in 238 (by decide +kernel) rfl), Or.inl rfl, tyX9_ok, nmX9, by decide +kernel, rfl, fun q => nomatch q⟩
set_option maxRecDepth 100000 in
theorem cw_X9_42_X9 : CU RX9 42 RX9 ⟨RX9, "takeOrStop", "(C)V"⟩ yX4_takeOrStop cX4_takeOrStop 2 none 1 := ⟨(TT_in 499 (by decide +kernel) rfl), (TT_in 503 (by decide +kernel) rfl), (TT_in 502 (by decide +kernel) rfl), (TT_in 94 (by decide +kernel) rfl), (TT_in 504 (by decide +kernel) rfl), by decide, by decide +kernel, by decide, (TT_in 500 (by decide +kernel) rfl), rfl⟩
set_option maxRecDepth 100000 in
theorem cw_X9_46_X9 : CU RX9 46 RX9 ⟨RX9, "takeNumber", "(I)I"⟩ yX4_takeNumber cX4_takeNumber 5 (some .int) 1 := ⟨(TT_in 512 (by decide +kernel) rfl), (TT_in 516 (by decide +kernel) rfl), (TT_in 515 (by decide +kernel) rfl), (TT_in 94 (by decide +kernel) rfl), (TT_in 517 (by decide +kernel) rfl), by decide, by decide +kernel, by decide, (TT_in 513 (by decide +kernel) rfl), rfl⟩
set_option maxRecDepth 100000 in
theorem fl_X9_20_8 : FL RX9 20 8 3 (.boolean) false := ⟨RX9, "GearTeeth$TextReader", TX9, 7, tyX9, rfl, by decide, inT_X9, (TT_in 253 (by decide +kernel) rfl), Or.inr (TT_in 254 (by decide +kernel) rfl), tyX9_ok, nmX9, by decide +kernel, rfl, fun q => nomatch q⟩
set_option maxRecDepth 100000 in
theorem cw_X9_13_X9 : CU RX9 13 RX9 ⟨RX9, "startOn", "([II)V"⟩ yX4_startOn cX4_startOn 3 none 2 := ⟨(TT_in 480 (by decide +kernel) rfl), (TT_in 484 (by decide +kernel) rfl), (TT_in 483 (by decide +kernel) rfl), (TT_in 94 (by decide +kernel) rfl), (TT_in 485 (by decide +kernel) rfl), by decide, by decide +kernel, by decide, (TT_in 481 (by decide +kernel) rfl), rfl⟩
set_option maxRecDepth 100000 in
theorem cw_X9_17_X9 : CV RX9 17 RX9 yX9_readStatement cX9_readStatement 3 none 0 := ⟨(TT_in 489 (by decide +kernel) rfl), (TT_in 490 (by decide +kernel) rfl), (TT_in 491 (by decide +kernel) rfl), (TT_in 95 (by decide +kernel) rfl), (TT_in 492 (by decide +kernel) rfl), by decide, by decide +kernel, by decide⟩
set_option maxRecDepth 100000 in
theorem cw_X9_24_X9 : CU RX9 24 RX9 ⟨RX9, "isAtEnd", "()Z"⟩ yX4_isAtEnd cX4_isAtEnd 1 (some .boolean) 0 := ⟨(TT_in 519 (by decide +kernel) rfl), (TT_in 523 (by decide +kernel) rfl), (TT_in 522 (by decide +kernel) rfl), (TT_in 94 (by decide +kernel) rfl), (TT_in 524 (by decide +kernel) rfl), by decide, by decide +kernel, by decide, (TT_in 520 (by decide +kernel) rfl), rfl⟩
set_option maxRecDepth 100000 in
theorem wi_X10_3 : Cond.methodLink RX10 3 objectInit ∈ TT := (TT_in 292 (by decide +kernel) rfl)
set_option maxRecDepth 100000 in
theorem inT_X10 : ∀ w ∈ u_ws RX10 TX10 6, w ∈ TT := mem_all (by decide +kernel)
set_option maxRecDepth 100000 in
theorem fl_X10_9_9 : FL RX10 9 9 0 (.array (.int)) true := ⟨RX10, "GearTeeth$Turning", TX10, 6, tyX10, rfl, by decide, inT_X10, (TT_in 293 (by decide +kernel) rfl), Or.inl rfl, tyX10_ok, nmX10, by decide +kernel, rfl, fun _ _ => rfl⟩
set_option maxRecDepth 100000 in
theorem fl_X10_15_9 : FL RX10 15 9 1 (.array (.long)) true := ⟨RX10, "GearTeeth$Turning", TX10, 6, tyX10, rfl, by decide, inT_X10, (TT_in 294 (by decide +kernel) rfl), Or.inl rfl, tyX10_ok, nmX10, by decide +kernel, rfl, fun _ _ => rfl⟩
set_option maxRecDepth 100000 in
theorem fl_X10_19_9 : FL RX10 19 9 2 (.array (.long)) true := ⟨RX10, "GearTeeth$Turning", TX10, 6, tyX10, rfl, by decide, inT_X10, (TT_in 295 (by decide +kernel) rfl), Or.inl rfl, tyX10_ok, nmX10, by decide +kernel, rfl, fun _ _ => rfl⟩
set_option maxRecDepth 100000 in
theorem wa_boolean : Cond.arrayClass .boolean ∈ TT := (TT_in 313 (by decide +kernel) rfl)
set_option maxRecDepth 100000 in
theorem fl_X10_22_9 : FL RX10 22 9 3 (.array (.boolean)) true := ⟨RX10, "GearTeeth$Turning", TX10, 6, tyX10, rfl, by decide, inT_X10, (TT_in 296 (by decide +kernel) rfl), Or.inl rfl, tyX10_ok, nmX10, by decide +kernel, rfl, fun _ _ => rfl⟩
set_option maxRecDepth 100000 in
theorem fl_X10_26_9 : FL RX10 26 9 5 (.long) false := ⟨RX10, "GearTeeth$Turning", TX10, 6, tyX10, rfl, by decide, inT_X10, (TT_in 298 (by decide +kernel) rfl), Or.inl rfl, tyX10_ok, nmX10, by decide +kernel, rfl, fun q => nomatch q⟩
set_option maxRecDepth 100000 in
theorem cw_X10_74_X0 : CV RX10 74 RX0 yX0_isRing cX0_isRing 1 (some .boolean) 0 := ⟨(TT_in 641 (by decide +kernel) rfl), (TT_in 560 (by decide +kernel) rfl), (TT_in 561 (by decide +kernel) rfl), (TT_in 91 (by decide +kernel) rfl), (TT_in 562 (by decide +kernel) rfl), by decide, by decide +kernel, by decide⟩
set_option maxRecDepth 100000 in
theorem fl_X10_63_0 : FL RX10 63 0 3 (.int) false := ⟨RX0, "GearTeeth$Gear", TX0, 5, tyX0, rfl, by decide, inT_X0, (TT_in 141 (by decide +kernel) rfl), Or.inl rfl, tyX0_ok, nmX0, by decide +kernel, rfl, fun q => nomatch q⟩
set_option maxRecDepth 100000 in
theorem fl_X10_78_0 : FL RX10 78 0 2 (.int) false := ⟨RX0, "GearTeeth$Gear", TX0, 5, tyX0, rfl, by decide, inT_X0, (TT_in 137 (by decide +kernel) rfl), Or.inl rfl, tyX0_ok, nmX0, by decide +kernel, rfl, fun q => nomatch q⟩
set_option maxRecDepth 100000 in
theorem fl_X10_71_9 : FL RX10 71 9 4 (.long) false := ⟨RX10, "GearTeeth$Turning", TX10, 6, tyX10, rfl, by decide, inT_X10, (TT_in 297 (by decide +kernel) rfl), Or.inl rfl, tyX10_ok, nmX10, by decide +kernel, rfl, fun q => nomatch q⟩
set_option maxRecDepth 100000 in
theorem wM_X10_81 : WM RX10 81 Lib.MathLoose.abs_long.x Lib.MathLoose.abs_long.code 2 .long := ⟨(TT_in 642 (by decide +kernel) rfl), (TT_in 643 (by decide +kernel) rfl), (TT_in 102 (by decide +kernel) rfl), (TT_in 644 (by decide +kernel) rfl)⟩
set_option maxRecDepth 100000 in
theorem cw_X10_87 : CSN RX10 87 yX11_greatestDivisor cX11_greatestDivisor 11 (some .long) 2 := ⟨(by decide +kernel), (TT_in 646 (by decide +kernel) rfl), (TT_in 89 (by decide +kernel) rfl), (TT_in 647 (by decide +kernel) rfl), by decide, by decide +kernel, by decide⟩
set_option maxRecDepth 100000 in
theorem cw_X10_68_X10 : CV RX10 68 RX10 yX10_findNext cX10_findNext 6 none 2 := ⟨(TT_in 637 (by decide +kernel) rfl), (TT_in 639 (by decide +kernel) rfl), (TT_in 9 (by decide +kernel) rfl), (TT_in 97 (by decide +kernel) rfl), (TT_in 640 (by decide +kernel) rfl), by decide, by decide +kernel, by decide⟩
set_option maxRecDepth 100000 in
theorem fl_X10_40_3 : FL RX10 40 3 5 (.int) false := ⟨RX3, "GearTeeth$Plant", TX3, 6, tyX3, rfl, by decide, inT_X3, (TT_in 173 (by decide +kernel) rfl), Or.inl rfl, tyX3_ok, nmX3, by decide +kernel, rfl, fun q => nomatch q⟩
set_option maxRecDepth 100000 in
theorem fl_X10_46_3 : FL RX10 46 3 0 (.array (.object "GearTeeth$Gear")) true := ⟨RX3, "GearTeeth$Plant", TX3, 6, tyX3, rfl, by decide, inT_X3, (TT_in 159 (by decide +kernel) rfl), Or.inl rfl, tyX3_ok, nmX3, by decide +kernel, rfl, fun _ q => absurd q (by decide)⟩
set_option maxRecDepth 100000 in
theorem fl_X10_50_3 : FL RX10 50 3 2 (.array (.int)) true := ⟨RX3, "GearTeeth$Plant", TX3, 6, tyX3, rfl, by decide, inT_X3, (TT_in 165 (by decide +kernel) rfl), Or.inl rfl, tyX3_ok, nmX3, by decide +kernel, rfl, fun _ q => absurd q (by decide)⟩
set_option maxRecDepth 100000 in
theorem fl_X10_53_3 : FL RX10 53 3 3 (.array (.int)) true := ⟨RX3, "GearTeeth$Plant", TX3, 6, tyX3, rfl, by decide, inT_X3, (TT_in 168 (by decide +kernel) rfl), Or.inl rfl, tyX3_ok, nmX3, by decide +kernel, rfl, fun _ q => absurd q (by decide)⟩
set_option maxRecDepth 100000 in
theorem cw_X10_60_X10 : CV RX10 60 RX10 yX10_drive cX10_drive 3 none 2 := ⟨(TT_in 633 (by decide +kernel) rfl), (TT_in 635 (by decide +kernel) rfl), (TT_in 8 (by decide +kernel) rfl), (TT_in 97 (by decide +kernel) rfl), (TT_in 636 (by decide +kernel) rfl), by decide, by decide +kernel, by decide⟩
set_option maxRecDepth 100000 in
theorem cw_X10_30 : CS RX10 30 yJ7_fill_53178 cJ7_fill_53178 4 none 2 := ⟨(TT_in 628 (by decide +kernel) rfl), (TT_in 553 (by decide +kernel) rfl), (TT_in 104 (by decide +kernel) rfl), (TT_in 554 (by decide +kernel) rfl), by decide, by decide +kernel, by decide⟩
set_option maxRecDepth 100000 in
theorem cw_X10_36_X10 : CV RX10 36 RX10 yX10_turnAllFrom cX10_turnAllFrom 7 none 2 := ⟨(TT_in 629 (by decide +kernel) rfl), (TT_in 631 (by decide +kernel) rfl), (TT_in 7 (by decide +kernel) rfl), (TT_in 97 (by decide +kernel) rfl), (TT_in 632 (by decide +kernel) rfl), by decide, by decide +kernel, by decide⟩
set_option maxRecDepth 100000 in
theorem cw_X10_56_X10 : CV RX10 56 RX10 yX10_checkMesh cX10_checkMesh 3 none 2 := ⟨(TT_in 648 (by decide +kernel) rfl), (TT_in 650 (by decide +kernel) rfl), (TT_in 10 (by decide +kernel) rfl), (TT_in 97 (by decide +kernel) rfl), (TT_in 651 (by decide +kernel) rfl), by decide, by decide +kernel, by decide⟩
set_option maxRecDepth 100000 in
theorem cw_X10_91_X10 : CV RX10 91 RX10 yX10_isLocked cX10_isLocked 1 (some .boolean) 0 := ⟨(TT_in 1066 (by decide +kernel) rfl), (TT_in 653 (by decide +kernel) rfl), (TT_in 654 (by decide +kernel) rfl), (TT_in 97 (by decide +kernel) rfl), (TT_in 655 (by decide +kernel) rfl), by decide, by decide +kernel, by decide⟩
set_option maxRecDepth 100000 in
theorem cw_X10_94_X10 : CV RX10 94 RX10 yX10_isTurned cX10_isTurned 2 (some .boolean) 1 := ⟨(TT_in 1067 (by decide +kernel) rfl), (TT_in 663 (by decide +kernel) rfl), (TT_in 664 (by decide +kernel) rfl), (TT_in 97 (by decide +kernel) rfl), (TT_in 665 (by decide +kernel) rfl), by decide, by decide +kernel, by decide⟩
set_option maxRecDepth 100000 in
theorem wi_X11_1 : Cond.methodLink RX11 1 objectInit ∈ TT := (TT_in 115 (by decide +kernel) rfl)
set_option maxRecDepth 100000 in
theorem wn_X11_7 : WN RX11 7 3 [.null, .int 0, .null, .null, .null, .int 0] := ⟨RX3, TX3, 6, tyX3, rfl, inT_X3, tyX3_ok, (TT_in 118 (by decide +kernel) rfl), (TT_in 119 (by decide +kernel) rfl), (TT_in 90 (by decide +kernel) rfl), by decide +kernel, by decide, by decide⟩
set_option maxRecDepth 100000 in
theorem cw_X11_9 : CI RX11 9 yX3_init cX3_init 2 0 := ⟨(TT_in 120 (by decide +kernel) rfl), (TT_in 121 (by decide +kernel) rfl), (TT_in 90 (by decide +kernel) rfl), (TT_in 122 (by decide +kernel) rfl), by decide, by decide +kernel, by decide, rfl⟩
set_option maxRecDepth 100000 in
theorem inT_X11 : ∀ w ∈ u_ws RX11 TX11 16, w ∈ TT := mem_all (by decide +kernel)
set_option maxRecDepth 100000 in
theorem fl_X11_10_10 : FL RX11 10 10 0 (.object "GearTeeth$Plant") true := ⟨RX11, "GearTeeth", TX11, 16, tyX11, rfl, by decide, inT_X11, (TT_in 401 (by decide +kernel) rfl), Or.inl rfl, tyX11_ok, nmX11, by decide +kernel, rfl, fun _ _ => rfl⟩
set_option maxRecDepth 100000 in
theorem fl_X11_16_10 : FL RX11 16 10 1 (.object "GearTeeth$Plant") true := ⟨RX11, "GearTeeth", TX11, 16, tyX11, rfl, by decide, inT_X11, (TT_in 402 (by decide +kernel) rfl), Or.inl rfl, tyX11_ok, nmX11, by decide +kernel, rfl, fun _ _ => rfl⟩
set_option maxRecDepth 100000 in
theorem wn_X11_19 : WN RX11 19 2 [.null, .null, .int 0] := ⟨RX2, TX2, 3, tyX2, rfl, inT_X2, tyX2_ok, (TT_in 188 (by decide +kernel) rfl), (TT_in 189 (by decide +kernel) rfl), (TT_in 92 (by decide +kernel) rfl), by decide +kernel, by decide, by decide⟩
set_option maxRecDepth 100000 in
theorem cw_X11_21 : CIN RX11 21 yX2_init cX2_init 1 0 := ⟨(by decide +kernel), (TT_in 191 (by decide +kernel) rfl), (TT_in 92 (by decide +kernel) rfl), (TT_in 192 (by decide +kernel) rfl), by decide, by decide +kernel, by decide, rfl⟩
set_option maxRecDepth 100000 in
theorem fl_X11_22_10 : FL RX11 22 10 2 (.object "GearTeeth$Loads") true := ⟨RX11, "GearTeeth", TX11, 16, tyX11, rfl, by decide, inT_X11, (TT_in 403 (by decide +kernel) rfl), Or.inl rfl, tyX11_ok, nmX11, by decide +kernel, rfl, fun _ _ => rfl⟩
set_option maxRecDepth 100000 in
theorem wn_X11_26 : WN RX11 26 5 [.null, .null, .int 0] := ⟨RX6, TX6, 3, tyX6, rfl, inT_X6, tyX6_ok, (TT_in 205 (by decide +kernel) rfl), (TT_in 206 (by decide +kernel) rfl), (TT_in 93 (by decide +kernel) rfl), by decide +kernel, by decide, by decide⟩
set_option maxRecDepth 100000 in
theorem cw_X11_28 : CIN RX11 28 yX6_init cX6_init 1 0 := ⟨(by decide +kernel), (TT_in 208 (by decide +kernel) rfl), (TT_in 93 (by decide +kernel) rfl), (TT_in 209 (by decide +kernel) rfl), by decide, by decide +kernel, by decide, rfl⟩
set_option maxRecDepth 100000 in
theorem fl_X11_29_10 : FL RX11 29 10 3 (.object "GearTeeth$RuleBook") true := ⟨RX11, "GearTeeth", TX11, 16, tyX11, rfl, by decide, inT_X11, (TT_in 404 (by decide +kernel) rfl), Or.inl rfl, tyX11_ok, nmX11, by decide +kernel, rfl, fun _ _ => rfl⟩
set_option maxRecDepth 100000 in
theorem fl_X11_33_10 : FL RX11 33 10 4 (.object "GearTeeth$Plant") true := ⟨RX11, "GearTeeth", TX11, 16, tyX11, rfl, by decide, inT_X11, (TT_in 405 (by decide +kernel) rfl), Or.inl rfl, tyX11_ok, nmX11, by decide +kernel, rfl, fun _ _ => rfl⟩
set_option maxRecDepth 100000 in
theorem fl_X11_36_10 : FL RX11 36 10 5 (.object "GearTeeth$Loads") true := ⟨RX11, "GearTeeth", TX11, 16, tyX11, rfl, by decide, inT_X11, (TT_in 406 (by decide +kernel) rfl), Or.inl rfl, tyX11_ok, nmX11, by decide +kernel, rfl, fun _ _ => rfl⟩
set_option maxRecDepth 100000 in
theorem fl_X11_39_10 : FL RX11 39 10 6 (.object "GearTeeth$RuleBook") true := ⟨RX11, "GearTeeth", TX11, 16, tyX11, rfl, by decide, inT_X11, (TT_in 407 (by decide +kernel) rfl), Or.inl rfl, tyX11_ok, nmX11, by decide +kernel, rfl, fun _ _ => rfl⟩
set_option maxRecDepth 100000 in
theorem wq_X11_42 : Cond.classLink RX11 42 RX8 ∈ TT := (TT_in 226 (by decide +kernel) rfl)
set_option maxRecDepth 100000 in
theorem fl_X11_44_10 : FL RX11 44 10 8 (.array (.object "GearTeeth$Shelf")) true := ⟨RX11, "GearTeeth", TX11, 16, tyX11, rfl, by decide, inT_X11, (TT_in 409 (by decide +kernel) rfl), Or.inl rfl, tyX11_ok, nmX11, by decide +kernel, rfl, fun _ _ => rfl⟩
set_option maxRecDepth 100000 in
theorem wn_X11_48 : WN RX11 48 8 [.null, .int 0, .int 0, .int 0, .int 0, .int 0, .null] := ⟨RX9, TX9, 7, tyX9, rfl, inT_X9, tyX9_ok, (TT_in 228 (by decide +kernel) rfl), (TT_in 229 (by decide +kernel) rfl), (TT_in 95 (by decide +kernel) rfl), by decide +kernel, by decide, by decide⟩
set_option maxRecDepth 100000 in
theorem cw_X11_50 : CIN RX11 50 yX9_init cX9_init 1 0 := ⟨(by decide +kernel), (TT_in 231 (by decide +kernel) rfl), (TT_in 95 (by decide +kernel) rfl), (TT_in 232 (by decide +kernel) rfl), by decide, by decide +kernel, by decide, rfl⟩
set_option maxRecDepth 100000 in
theorem fl_X11_51_10 : FL RX11 51 10 9 (.object "GearTeeth$TextReader") true := ⟨RX11, "GearTeeth", TX11, 16, tyX11, rfl, by decide, inT_X11, (TT_in 410 (by decide +kernel) rfl), Or.inl rfl, tyX11_ok, nmX11, by decide +kernel, rfl, fun _ _ => rfl⟩
set_option maxRecDepth 100000 in
theorem wn_X11_55 : WN RX11 55 6 [.null, .int 0, .int 0, .int 0, .null] := ⟨RX7, TX7, 5, tyX7, rfl, inT_X7, tyX7_ok, (TT_in 272 (by decide +kernel) rfl), (TT_in 273 (by decide +kernel) rfl), (TT_in 96 (by decide +kernel) rfl), by decide +kernel, by decide, by decide⟩
set_option maxRecDepth 100000 in
theorem cw_X11_57 : CIN RX11 57 yX7_init cX7_init 1 0 := ⟨(by decide +kernel), (TT_in 275 (by decide +kernel) rfl), (TT_in 96 (by decide +kernel) rfl), (TT_in 276 (by decide +kernel) rfl), by decide, by decide +kernel, by decide, rfl⟩
set_option maxRecDepth 100000 in
theorem fl_X11_58_10 : FL RX11 58 10 10 (.object "GearTeeth$RuleReader") true := ⟨RX11, "GearTeeth", TX11, 16, tyX11, rfl, by decide, inT_X11, (TT_in 411 (by decide +kernel) rfl), Or.inl rfl, tyX11_ok, nmX11, by decide +kernel, rfl, fun _ _ => rfl⟩
set_option maxRecDepth 100000 in
theorem wn_X11_62 : WN RX11 62 9 [.null, .null, .null, .null, .long 0, .long 0] := ⟨RX10, TX10, 6, tyX10, rfl, inT_X10, tyX10_ok, (TT_in 287 (by decide +kernel) rfl), (TT_in 288 (by decide +kernel) rfl), (TT_in 97 (by decide +kernel) rfl), by decide +kernel, by decide, by decide⟩
set_option maxRecDepth 100000 in
theorem cw_X11_64 : CIN RX11 64 yX10_init cX10_init 1 0 := ⟨(by decide +kernel), (TT_in 290 (by decide +kernel) rfl), (TT_in 97 (by decide +kernel) rfl), (TT_in 291 (by decide +kernel) rfl), by decide, by decide +kernel, by decide, rfl⟩
set_option maxRecDepth 100000 in
theorem fl_X11_65_10 : FL RX11 65 10 11 (.object "GearTeeth$Turning") true := ⟨RX11, "GearTeeth", TX11, 16, tyX11, rfl, by decide, inT_X11, (TT_in 412 (by decide +kernel) rfl), Or.inl rfl, tyX11_ok, nmX11, by decide +kernel, rfl, fun _ _ => rfl⟩
set_option maxRecDepth 100000 in
theorem wn_X11_69 : WN RX11 69 0 [.int 0, .int 0, .int 0, .int 0, .null] := ⟨RX0, TX0, 5, tyX0, rfl, inT_X0, tyX0_ok, (TT_in 314 (by decide +kernel) rfl), (TT_in 126 (by decide +kernel) rfl), (TT_in 91 (by decide +kernel) rfl), by decide +kernel, by decide, by decide⟩
set_option maxRecDepth 100000 in
theorem cw_X11_71 : CIN RX11 71 yX0_init cX0_init 1 0 := ⟨(by decide +kernel), (TT_in 128 (by decide +kernel) rfl), (TT_in 91 (by decide +kernel) rfl), (TT_in 129 (by decide +kernel) rfl), by decide, by decide +kernel, by decide, rfl⟩
set_option maxRecDepth 100000 in
theorem fl_X11_72_10 : FL RX11 72 10 12 (.object "GearTeeth$Gear") true := ⟨RX11, "GearTeeth", TX11, 16, tyX11, rfl, by decide, inT_X11, (TT_in 413 (by decide +kernel) rfl), Or.inl rfl, tyX11_ok, nmX11, by decide +kernel, rfl, fun _ _ => rfl⟩
set_option maxRecDepth 100000 in
theorem fl_X11_76_10 : FL RX11 76 10 13 (.object "GearTeeth$Gear") true := ⟨RX11, "GearTeeth", TX11, 16, tyX11, rfl, by decide, inT_X11, (TT_in 414 (by decide +kernel) rfl), Or.inl rfl, tyX11_ok, nmX11, by decide +kernel, rfl, fun _ _ => rfl⟩
set_option maxRecDepth 100000 in
theorem wn_X11_79 : WN RX11 79 4 [.null, .null, .int 0, .null] := ⟨RX5, TX5, 4, tyX5, rfl, inT_X5, tyX5_ok, (TT_in 316 (by decide +kernel) rfl), (TT_in 317 (by decide +kernel) rfl), (TT_in 98 (by decide +kernel) rfl), by decide +kernel, by decide, by decide⟩
set_option maxRecDepth 100000 in
theorem cw_X11_81 : CIN RX11 81 yX5_init cX5_init 1 0 := ⟨(by decide +kernel), (TT_in 319 (by decide +kernel) rfl), (TT_in 98 (by decide +kernel) rfl), (TT_in 320 (by decide +kernel) rfl), by decide, by decide +kernel, by decide, rfl⟩
set_option maxRecDepth 100000 in
theorem fl_X11_82_10 : FL RX11 82 10 14 (.object "GearTeeth$Rolling") true := ⟨RX11, "GearTeeth", TX11, 16, tyX11, rfl, by decide, inT_X11, (TT_in 415 (by decide +kernel) rfl), Or.inl rfl, tyX11_ok, nmX11, by decide +kernel, rfl, fun _ _ => rfl⟩
set_option maxRecDepth 100000 in
theorem wn_X11_86 : WN RX11 86 1 [.null, .int 0, .int 0, .long 0, .int 0, .null, .null, .null, .int 0] := ⟨RX1, TX1, 9, tyX1, rfl, inT_X1, tyX1_ok, (TT_in 338 (by decide +kernel) rfl), (TT_in 339 (by decide +kernel) rfl), (TT_in 99 (by decide +kernel) rfl), by decide +kernel, by decide, by decide⟩
set_option maxRecDepth 100000 in
theorem cw_X11_88 : CIN RX11 88 yX1_init cX1_init 1 0 := ⟨(by decide +kernel), (TT_in 341 (by decide +kernel) rfl), (TT_in 99 (by decide +kernel) rfl), (TT_in 342 (by decide +kernel) rfl), by decide, by decide +kernel, by decide, rfl⟩
set_option maxRecDepth 100000 in
theorem fl_X11_89_10 : FL RX11 89 10 15 (.object "GearTeeth$Listener") true := ⟨RX11, "GearTeeth", TX11, 16, tyX11, rfl, by decide, inT_X11, (TT_in 416 (by decide +kernel) rfl), Or.inl rfl, tyX11_ok, nmX11, by decide +kernel, rfl, fun _ _ => rfl⟩
set_option maxRecDepth 100000 in
theorem wn_X11_42 : WN RX11 42 7 [.int 0, .null, .int 0, .int 0, .null] := ⟨RX8, TX8, 5, tyX8, rfl, inT_X8, tyX8_ok, (TT_in 226 (by decide +kernel) rfl), (TT_in 374 (by decide +kernel) rfl), (TT_in 100 (by decide +kernel) rfl), by decide +kernel, by decide, by decide⟩
set_option maxRecDepth 100000 in
theorem cw_X11_93 : CIN RX11 93 yX8_init cX8_init 1 0 := ⟨(by decide +kernel), (TT_in 376 (by decide +kernel) rfl), (TT_in 100 (by decide +kernel) rfl), (TT_in 377 (by decide +kernel) rfl), by decide, by decide +kernel, by decide, rfl⟩
set_option maxRecDepth 100000 in
theorem cw_X11_170 : CS RX11 170 yX11_isWithin cX11_isWithin 3 (some .boolean) 3 := ⟨(TT_in 457 (by decide +kernel) rfl), (TT_in 458 (by decide +kernel) rfl), (TT_in 89 (by decide +kernel) rfl), (TT_in 459 (by decide +kernel) rfl), by decide, by decide +kernel, by decide⟩
set_option maxRecDepth 100000 in
theorem cw_X11_94 : CS RX11 94 yX11_isShelf cX11_isShelf 1 (some .boolean) 1 := ⟨(TT_in 454 (by decide +kernel) rfl), (TT_in 455 (by decide +kernel) rfl), (TT_in 89 (by decide +kernel) rfl), (TT_in 456 (by decide +kernel) rfl), by decide, by decide +kernel, by decide⟩
set_option maxRecDepth 100000 in
theorem cw_X11_98_X8 : CV RX11 98 RX8 yX8_bytesRefusal cX8_bytesRefusal 1 (some .int) 0 := ⟨(TT_in 460 (by decide +kernel) rfl), (TT_in 461 (by decide +kernel) rfl), (TT_in 462 (by decide +kernel) rfl), (TT_in 100 (by decide +kernel) rfl), (TT_in 463 (by decide +kernel) rfl), by decide, by decide +kernel, by decide⟩
set_option maxRecDepth 100000 in
theorem fl_X11_102_7 : FL RX11 102 7 4 (.array (.int)) true := ⟨RX8, "GearTeeth$Shelf", TX8, 5, tyX8, rfl, by decide, inT_X8, (TT_in 389 (by decide +kernel) rfl), Or.inl rfl, tyX8_ok, nmX8, by decide +kernel, rfl, fun _ q => absurd q (by decide)⟩
set_option maxRecDepth 100000 in
theorem fl_X11_106_7 : FL RX11 106 7 3 (.int) false := ⟨RX8, "GearTeeth$Shelf", TX8, 5, tyX8, rfl, by decide, inT_X8, (TT_in 386 (by decide +kernel) rfl), Or.inl rfl, tyX8_ok, nmX8, by decide +kernel, rfl, fun q => nomatch q⟩
set_option maxRecDepth 100000 in
theorem cw_X11_110_X9 : CV RX11 110 RX9 yX9_countStatements cX9_countStatements 4 (some .int) 2 := ⟨(TT_in 476 (by decide +kernel) rfl), (TT_in 477 (by decide +kernel) rfl), (TT_in 478 (by decide +kernel) rfl), (TT_in 95 (by decide +kernel) rfl), (TT_in 479 (by decide +kernel) rfl), by decide, by decide +kernel, by decide⟩
set_option maxRecDepth 100000 in
theorem fl_X11_114_8 : FL RX11 114 8 3 (.boolean) false := ⟨RX9, "GearTeeth$TextReader", TX9, 7, tyX9, rfl, by decide, inT_X9, (TT_in 256 (by decide +kernel) rfl), Or.inr (TT_in 254 (by decide +kernel) rfl), tyX9_ok, nmX9, by decide +kernel, rfl, fun q => nomatch q⟩
set_option maxRecDepth 100000 in
theorem cw_X11_121_X3 : CV RX11 121 RX3 yX3_takeFrom cX3_takeFrom 3 none 1 := ⟨(TT_in 525 (by decide +kernel) rfl), (TT_in 526 (by decide +kernel) rfl), (TT_in 527 (by decide +kernel) rfl), (TT_in 90 (by decide +kernel) rfl), (TT_in 528 (by decide +kernel) rfl), by decide, by decide +kernel, by decide⟩
set_option maxRecDepth 100000 in
theorem cw_X11_125_X9 : CU RX11 125 RX9 ⟨RX9, "startOn", "([II)V"⟩ yX4_startOn cX4_startOn 3 none 2 := ⟨(TT_in 537 (by decide +kernel) rfl), (TT_in 484 (by decide +kernel) rfl), (TT_in 483 (by decide +kernel) rfl), (TT_in 94 (by decide +kernel) rfl), (TT_in 485 (by decide +kernel) rfl), by decide, by decide +kernel, by decide, (TT_in 481 (by decide +kernel) rfl), rfl⟩
set_option maxRecDepth 100000 in
theorem cw_X11_129_X9 : CV RX11 129 RX9 yX9_readStatement cX9_readStatement 3 none 0 := ⟨(TT_in 538 (by decide +kernel) rfl), (TT_in 490 (by decide +kernel) rfl), (TT_in 491 (by decide +kernel) rfl), (TT_in 95 (by decide +kernel) rfl), (TT_in 492 (by decide +kernel) rfl), by decide, by decide +kernel, by decide⟩
set_option maxRecDepth 100000 in
theorem cw_X11_132_X3 : CV RX11 132 RX3 yX3_does cX3_does 2 (some .boolean) 1 := ⟨(TT_in 539 (by decide +kernel) rfl), (TT_in 540 (by decide +kernel) rfl), (TT_in 541 (by decide +kernel) rfl), (TT_in 90 (by decide +kernel) rfl), (TT_in 542 (by decide +kernel) rfl), by decide, by decide +kernel, by decide⟩
set_option maxRecDepth 100000 in
theorem fl_X11_136_8 : FL RX11 136 8 5 (.int) false := ⟨RX9, "GearTeeth$TextReader", TX9, 7, tyX9, rfl, by decide, inT_X9, (TT_in 239 (by decide +kernel) rfl), Or.inl rfl, tyX9_ok, nmX9, by decide +kernel, rfl, fun q => nomatch q⟩
set_option maxRecDepth 100000 in
theorem fl_X11_118_8 : FL RX11 118 8 2 (.int) false := ⟨RX9, "GearTeeth$TextReader", TX9, 7, tyX9, rfl, by decide, inT_X9, (TT_in 246 (by decide +kernel) rfl), Or.inr (TT_in 247 (by decide +kernel) rfl), tyX9_ok, nmX9, by decide +kernel, rfl, fun q => nomatch q⟩
set_option maxRecDepth 100000 in
theorem fl_X11_349_3 : FL RX11 349 3 1 (.int) false := ⟨RX3, "GearTeeth$Plant", TX3, 6, tyX3, rfl, by decide, inT_X3, (TT_in 163 (by decide +kernel) rfl), Or.inl rfl, tyX3_ok, nmX3, by decide +kernel, rfl, fun q => nomatch q⟩
set_option maxRecDepth 100000 in
theorem cw_X11_139_X11 : CV RX11 139 RX11 yX11_isGear cX11_isGear 2 (some .boolean) 1 := ⟨(TT_in 575 (by decide +kernel) rfl), (TT_in 577 (by decide +kernel) rfl), (TT_in 5 (by decide +kernel) rfl), (TT_in 89 (by decide +kernel) rfl), (TT_in 578 (by decide +kernel) rfl), by decide, by decide +kernel, by decide⟩
set_option maxRecDepth 100000 in
theorem fl_X11_142_3 : FL RX11 142 3 0 (.array (.object "GearTeeth$Gear")) true := ⟨RX3, "GearTeeth$Plant", TX3, 6, tyX3, rfl, by decide, inT_X3, (TT_in 160 (by decide +kernel) rfl), Or.inl rfl, tyX3_ok, nmX3, by decide +kernel, rfl, fun _ q => absurd q (by decide)⟩
set_option maxRecDepth 100000 in
theorem fl_X11_146_0 : FL RX11 146 0 1 (.int) false := ⟨RX0, "GearTeeth$Gear", TX0, 5, tyX0, rfl, by decide, inT_X0, (TT_in 133 (by decide +kernel) rfl), Or.inl rfl, tyX0_ok, nmX0, by decide +kernel, rfl, fun q => nomatch q⟩
set_option maxRecDepth 100000 in
theorem fl_X11_149_0 : FL RX11 149 0 2 (.int) false := ⟨RX0, "GearTeeth$Gear", TX0, 5, tyX0, rfl, by decide, inT_X0, (TT_in 135 (by decide +kernel) rfl), Or.inl rfl, tyX0_ok, nmX0, by decide +kernel, rfl, fun q => nomatch q⟩
set_option maxRecDepth 100000 in
theorem fl_X11_152_0 : FL RX11 152 0 3 (.int) false := ⟨RX0, "GearTeeth$Gear", TX0, 5, tyX0, rfl, by decide, inT_X0, (TT_in 140 (by decide +kernel) rfl), Or.inl rfl, tyX0_ok, nmX0, by decide +kernel, rfl, fun q => nomatch q⟩
set_option maxRecDepth 100000 in
theorem cw_X11_155_X0 : CV RX11 155 RX0 yX0_hard cX0_hard 1 (some .int) 0 := ⟨(TT_in 579 (by decide +kernel) rfl), (TT_in 580 (by decide +kernel) rfl), (TT_in 581 (by decide +kernel) rfl), (TT_in 91 (by decide +kernel) rfl), (TT_in 582 (by decide +kernel) rfl), by decide, by decide +kernel, by decide⟩
set_option maxRecDepth 100000 in
theorem cw_X11_158_X0 : CV RX11 158 RX0 yX0_stiff cX0_stiff 1 (some .int) 0 := ⟨(TT_in 586 (by decide +kernel) rfl), (TT_in 587 (by decide +kernel) rfl), (TT_in 588 (by decide +kernel) rfl), (TT_in 91 (by decide +kernel) rfl), (TT_in 589 (by decide +kernel) rfl), by decide, by decide +kernel, by decide⟩
set_option maxRecDepth 100000 in
theorem cw_X11_161_X0 : CV RX11 161 RX0 yX0_thin cX0_thin 3 (some .int) 0 := ⟨(TT_in 592 (by decide +kernel) rfl), (TT_in 593 (by decide +kernel) rfl), (TT_in 594 (by decide +kernel) rfl), (TT_in 91 (by decide +kernel) rfl), (TT_in 595 (by decide +kernel) rfl), by decide, by decide +kernel, by decide⟩
set_option maxRecDepth 100000 in
theorem cw_X11_164_X0 : CV RX11 164 RX0 yX0_top cX0_top 1 (some .int) 0 := ⟨(TT_in 597 (by decide +kernel) rfl), (TT_in 598 (by decide +kernel) rfl), (TT_in 599 (by decide +kernel) rfl), (TT_in 91 (by decide +kernel) rfl), (TT_in 600 (by decide +kernel) rfl), by decide, by decide +kernel, by decide⟩
set_option maxRecDepth 100000 in
theorem cw_X11_167_X0 : CV RX11 167 RX0 yX0_undercut cX0_undercut 3 (some .int) 0 := ⟨(TT_in 601 (by decide +kernel) rfl), (TT_in 602 (by decide +kernel) rfl), (TT_in 603 (by decide +kernel) rfl), (TT_in 91 (by decide +kernel) rfl), (TT_in 604 (by decide +kernel) rfl), by decide, by decide +kernel, by decide⟩
set_option maxRecDepth 100000 in
theorem fl_X11_174_0 : FL RX11 174 0 4 (.array (.int)) true := ⟨RX0, "GearTeeth$Gear", TX0, 5, tyX0, rfl, by decide, inT_X0, (TT_in 143 (by decide +kernel) rfl), Or.inl rfl, tyX0_ok, nmX0, by decide +kernel, rfl, fun _ q => absurd q (by decide)⟩
set_option maxRecDepth 100000 in
theorem fl_X11_352_3 : FL RX11 352 3 5 (.int) false := ⟨RX3, "GearTeeth$Plant", TX3, 6, tyX3, rfl, by decide, inT_X3, (TT_in 174 (by decide +kernel) rfl), Or.inl rfl, tyX3_ok, nmX3, by decide +kernel, rfl, fun q => nomatch q⟩
set_option maxRecDepth 100000 in
theorem cw_X11_177_X11 : CV RX11 177 RX11 yX11_isMesh cX11_isMesh 2 (some .boolean) 1 := ⟨(TT_in 616 (by decide +kernel) rfl), (TT_in 618 (by decide +kernel) rfl), (TT_in 6 (by decide +kernel) rfl), (TT_in 89 (by decide +kernel) rfl), (TT_in 619 (by decide +kernel) rfl), by decide, by decide +kernel, by decide⟩
set_option maxRecDepth 100000 in
theorem fl_X11_180_3 : FL RX11 180 3 2 (.array (.int)) true := ⟨RX3, "GearTeeth$Plant", TX3, 6, tyX3, rfl, by decide, inT_X3, (TT_in 166 (by decide +kernel) rfl), Or.inl rfl, tyX3_ok, nmX3, by decide +kernel, rfl, fun _ q => absurd q (by decide)⟩
set_option maxRecDepth 100000 in
theorem fl_X11_183_3 : FL RX11 183 3 3 (.array (.int)) true := ⟨RX3, "GearTeeth$Plant", TX3, 6, tyX3, rfl, by decide, inT_X3, (TT_in 169 (by decide +kernel) rfl), Or.inl rfl, tyX3_ok, nmX3, by decide +kernel, rfl, fun _ q => absurd q (by decide)⟩
set_option maxRecDepth 100000 in
theorem fl_X11_186_3 : FL RX11 186 3 4 (.array (.int)) true := ⟨RX3, "GearTeeth$Plant", TX3, 6, tyX3, rfl, by decide, inT_X3, (TT_in 171 (by decide +kernel) rfl), Or.inl rfl, tyX3_ok, nmX3, by decide +kernel, rfl, fun _ q => absurd q (by decide)⟩
set_option maxRecDepth 100000 in
theorem cw_X11_189_X10 : CV RX11 189 RX10 yX10_solve cX10_solve 3 none 1 := ⟨(TT_in 624 (by decide +kernel) rfl), (TT_in 625 (by decide +kernel) rfl), (TT_in 626 (by decide +kernel) rfl), (TT_in 97 (by decide +kernel) rfl), (TT_in 627 (by decide +kernel) rfl), by decide, by decide +kernel, by decide⟩
set_option maxRecDepth 100000 in
theorem cw_X11_192_X10 : CV RX11 192 RX10 yX10_isLocked cX10_isLocked 1 (some .boolean) 0 := ⟨(TT_in 652 (by decide +kernel) rfl), (TT_in 653 (by decide +kernel) rfl), (TT_in 654 (by decide +kernel) rfl), (TT_in 97 (by decide +kernel) rfl), (TT_in 655 (by decide +kernel) rfl), by decide, by decide +kernel, by decide⟩
set_option maxRecDepth 100000 in
theorem wc_X11_196 : Cond.constantLong RX11 196 (K (-1000000001)) ∈ TT := (TT_in 660 (by decide +kernel) rfl)
set_option maxRecDepth 100000 in
theorem cw_X11_200_X10 : CV RX11 200 RX10 yX10_isTurned cX10_isTurned 2 (some .boolean) 1 := ⟨(TT_in 662 (by decide +kernel) rfl), (TT_in 663 (by decide +kernel) rfl), (TT_in 664 (by decide +kernel) rfl), (TT_in 97 (by decide +kernel) rfl), (TT_in 665 (by decide +kernel) rfl), by decide, by decide +kernel, by decide⟩
set_option maxRecDepth 100000 in
theorem cw_X11_209_X10 : CV RX11 209 RX10 yX10_belowLine cX10_belowLine 2 (some .long) 1 := ⟨(TT_in 671 (by decide +kernel) rfl), (TT_in 672 (by decide +kernel) rfl), (TT_in 673 (by decide +kernel) rfl), (TT_in 97 (by decide +kernel) rfl), (TT_in 674 (by decide +kernel) rfl), by decide, by decide +kernel, by decide⟩
set_option maxRecDepth 100000 in
theorem cw_X11_205_X10 : CV RX11 205 RX10 yX10_aboveLine cX10_aboveLine 2 (some .long) 1 := ⟨(TT_in 667 (by decide +kernel) rfl), (TT_in 668 (by decide +kernel) rfl), (TT_in 669 (by decide +kernel) rfl), (TT_in 97 (by decide +kernel) rfl), (TT_in 670 (by decide +kernel) rfl), by decide, by decide +kernel, by decide⟩
set_option maxRecDepth 100000 in
theorem wc_X11_203 : Cond.constantLong RX11 203 (K (-1000000004)) ∈ TT := (TT_in 666 (by decide +kernel) rfl)
set_option maxRecDepth 100000 in
theorem wc_X11_198 : Cond.constantLong RX11 198 (K (-1000000003)) ∈ TT := (TT_in 661 (by decide +kernel) rfl)
set_option maxRecDepth 100000 in
theorem cw_X11_212 : CS RX11 212 yX11_greatestDivisor cX11_greatestDivisor 11 (some .long) 2 := ⟨(TT_in 679 (by decide +kernel) rfl), (TT_in 646 (by decide +kernel) rfl), (TT_in 89 (by decide +kernel) rfl), (TT_in 647 (by decide +kernel) rfl), by decide, by decide +kernel, by decide⟩
set_option maxRecDepth 100000 in
theorem cw_X11_216 : CS RX11 216 yX11_areSunAndRing cX11_areSunAndRing 2 (some .boolean) 2 := ⟨(TT_in 684 (by decide +kernel) rfl), (TT_in 685 (by decide +kernel) rfl), (TT_in 89 (by decide +kernel) rfl), (TT_in 686 (by decide +kernel) rfl), by decide, by decide +kernel, by decide⟩
set_option maxRecDepth 100000 in
theorem cw_X11_220 : CS RX11 220 yX11_mayBeBuilt cX11_mayBeBuilt 4 (some .boolean) 3 := ⟨(TT_in 687 (by decide +kernel) rfl), (TT_in 688 (by decide +kernel) rfl), (TT_in 89 (by decide +kernel) rfl), (TT_in 689 (by decide +kernel) rfl), by decide, by decide +kernel, by decide⟩
set_option maxRecDepth 100000 in
theorem cw_X11_223 : CS RX11 223 yX11_isSteps cX11_isSteps 1 (some .boolean) 1 := ⟨(TT_in 698 (by decide +kernel) rfl), (TT_in 699 (by decide +kernel) rfl), (TT_in 89 (by decide +kernel) rfl), (TT_in 700 (by decide +kernel) rfl), by decide, by decide +kernel, by decide⟩
set_option maxRecDepth 100000 in
theorem cw_X11_226_X8 : CV RX11 226 RX8 yX8_cutterRefusal cX8_cutterRefusal 2 (some .int) 0 := ⟨(TT_in 701 (by decide +kernel) rfl), (TT_in 702 (by decide +kernel) rfl), (TT_in 703 (by decide +kernel) rfl), (TT_in 100 (by decide +kernel) rfl), (TT_in 704 (by decide +kernel) rfl), by decide, by decide +kernel, by decide⟩
set_option maxRecDepth 100000 in
theorem cw_X11_229_X0 : CV RX11 229 RX0 yX0_cutBy cX0_cutBy 5 none 3 := ⟨(TT_in 711 (by decide +kernel) rfl), (TT_in 712 (by decide +kernel) rfl), (TT_in 713 (by decide +kernel) rfl), (TT_in 91 (by decide +kernel) rfl), (TT_in 714 (by decide +kernel) rfl), by decide, by decide +kernel, by decide⟩
set_option maxRecDepth 100000 in
theorem cw_X11_428_X5 : CV RX11 428 RX5 yX5_roll cX5_roll 4 none 3 := ⟨(TT_in 729 (by decide +kernel) rfl), (TT_in 730 (by decide +kernel) rfl), (TT_in 731 (by decide +kernel) rfl), (TT_in 98 (by decide +kernel) rfl), (TT_in 732 (by decide +kernel) rfl), by decide, by decide +kernel, by decide⟩
set_option maxRecDepth 100000 in
theorem wc_X11_233 : Cond.constant RX11 233 (J (-1000000001)) ∈ TT := (TT_in 724 (by decide +kernel) rfl)
set_option maxRecDepth 100000 in
theorem cw_X11_234_X11 : CV RX11 234 RX11 yX11_rollAsItIs cX11_rollAsItIs 2 none 1 := ⟨(TT_in 725 (by decide +kernel) rfl), (TT_in 727 (by decide +kernel) rfl), (TT_in 13 (by decide +kernel) rfl), (TT_in 89 (by decide +kernel) rfl), (TT_in 728 (by decide +kernel) rfl), by decide, by decide +kernel, by decide⟩
set_option maxRecDepth 100000 in
theorem fl_X11_238_4 : FL RX11 238 4 3 (.array (.int)) true := ⟨RX5, "GearTeeth$Rolling", TX5, 4, tyX5, rfl, by decide, inT_X5, (TT_in 328 (by decide +kernel) rfl), Or.inl rfl, tyX5_ok, nmX5, by decide +kernel, rfl, fun _ q => absurd q (by decide)⟩
set_option maxRecDepth 100000 in
theorem cw_X11_241_X5 : CV RX11 241 RX5 yX5_touchAt cX5_touchAt 6 (some .int) 1 := ⟨(TT_in 752 (by decide +kernel) rfl), (TT_in 738 (by decide +kernel) rfl), (TT_in 739 (by decide +kernel) rfl), (TT_in 98 (by decide +kernel) rfl), (TT_in 740 (by decide +kernel) rfl), by decide, by decide +kernel, by decide⟩
set_option maxRecDepth 100000 in
theorem cw_X11_245_X5 : CV RX11 245 RX5 yX5_firstJam cX5_firstJam 2 (some .int) 0 := ⟨(TT_in 757 (by decide +kernel) rfl), (TT_in 758 (by decide +kernel) rfl), (TT_in 759 (by decide +kernel) rfl), (TT_in 98 (by decide +kernel) rfl), (TT_in 760 (by decide +kernel) rfl), by decide, by decide +kernel, by decide⟩
set_option maxRecDepth 100000 in
theorem cw_X11_248_X5 : CV RX11 248 RX5 yX5_leastOff cX5_leastOff 3 (some .int) 0 := ⟨(TT_in 765 (by decide +kernel) rfl), (TT_in 766 (by decide +kernel) rfl), (TT_in 767 (by decide +kernel) rfl), (TT_in 98 (by decide +kernel) rfl), (TT_in 768 (by decide +kernel) rfl), by decide, by decide +kernel, by decide⟩
set_option maxRecDepth 100000 in
theorem cw_X11_251_X5 : CV RX11 251 RX5 yX5_spread cX5_spread 3 (some .int) 0 := ⟨(TT_in 774 (by decide +kernel) rfl), (TT_in 775 (by decide +kernel) rfl), (TT_in 776 (by decide +kernel) rfl), (TT_in 98 (by decide +kernel) rfl), (TT_in 777 (by decide +kernel) rfl), by decide, by decide +kernel, by decide⟩
set_option maxRecDepth 100000 in
theorem cw_X11_254 : CS RX11 254 yX11_isWearLoad cX11_isWearLoad 1 (some .boolean) 1 := ⟨(TT_in 788 (by decide +kernel) rfl), (TT_in 789 (by decide +kernel) rfl), (TT_in 89 (by decide +kernel) rfl), (TT_in 790 (by decide +kernel) rfl), by decide, by decide +kernel, by decide⟩
set_option maxRecDepth 100000 in
theorem cw_X11_257_X5 : CV RX11 257 RX5 yX5_wearRound cX5_wearRound 6 none 1 := ⟨(TT_in 791 (by decide +kernel) rfl), (TT_in 792 (by decide +kernel) rfl), (TT_in 793 (by decide +kernel) rfl), (TT_in 98 (by decide +kernel) rfl), (TT_in 794 (by decide +kernel) rfl), by decide, by decide +kernel, by decide⟩
set_option maxRecDepth 100000 in
theorem cw_X11_260_X5 : CV RX11 260 RX5 yX5_measure cX5_measure 2 none 0 := ⟨(TT_in 800 (by decide +kernel) rfl), (TT_in 734 (by decide +kernel) rfl), (TT_in 735 (by decide +kernel) rfl), (TT_in 98 (by decide +kernel) rfl), (TT_in 736 (by decide +kernel) rfl), by decide, by decide +kernel, by decide⟩
set_option maxRecDepth 100000 in
theorem cw_X11_432_X0 : CV RX11 432 RX0 yX0_takeFrom cX0_takeFrom 2 none 1 := ⟨(TT_in 809 (by decide +kernel) rfl), (TT_in 530 (by decide +kernel) rfl), (TT_in 531 (by decide +kernel) rfl), (TT_in 91 (by decide +kernel) rfl), (TT_in 532 (by decide +kernel) rfl), by decide, by decide +kernel, by decide⟩
set_option maxRecDepth 100000 in
theorem cw_X11_263_X11 : CV RX11 263 RX11 yX11_rollSpares cX11_rollSpares 2 none 1 := ⟨(TT_in 805 (by decide +kernel) rfl), (TT_in 807 (by decide +kernel) rfl), (TT_in 15 (by decide +kernel) rfl), (TT_in 89 (by decide +kernel) rfl), (TT_in 808 (by decide +kernel) rfl), by decide, by decide +kernel, by decide⟩
set_option maxRecDepth 100000 in
theorem wc_X11_266 : Cond.constantLong RX11 266 (K (-1)) ∈ TT := (TT_in 814 (by decide +kernel) rfl)
set_option maxRecDepth 100000 in
theorem cw_X11_268_X5 : CV RX11 268 RX5 yX5_loudness cX5_loudness 8 (some .long) 1 := ⟨(TT_in 815 (by decide +kernel) rfl), (TT_in 816 (by decide +kernel) rfl), (TT_in 817 (by decide +kernel) rfl), (TT_in 98 (by decide +kernel) rfl), (TT_in 818 (by decide +kernel) rfl), by decide, by decide +kernel, by decide⟩
set_option maxRecDepth 100000 in
theorem cw_X11_271_X5 : CV RX11 271 RX5 yX5_loudestTone cX5_loudestTone 3 (some .int) 0 := ⟨(TT_in 826 (by decide +kernel) rfl), (TT_in 827 (by decide +kernel) rfl), (TT_in 828 (by decide +kernel) rfl), (TT_in 98 (by decide +kernel) rfl), (TT_in 829 (by decide +kernel) rfl), by decide, by decide +kernel, by decide⟩
set_option maxRecDepth 100000 in
theorem fl_X11_274_2 : FL RX11 274 2 2 (.int) false := ⟨RX2, "GearTeeth$Loads", TX2, 3, tyX2, rfl, by decide, inT_X2, (TT_in 197 (by decide +kernel) rfl), Or.inl rfl, tyX2_ok, nmX2, by decide +kernel, rfl, fun q => nomatch q⟩
set_option maxRecDepth 100000 in
theorem cw_X11_275_X2 : CV RX11 275 RX2 yX2_addPair cX2_addPair 3 none 2 := ⟨(TT_in 835 (by decide +kernel) rfl), (TT_in 836 (by decide +kernel) rfl), (TT_in 837 (by decide +kernel) rfl), (TT_in 92 (by decide +kernel) rfl), (TT_in 838 (by decide +kernel) rfl), by decide, by decide +kernel, by decide⟩
set_option maxRecDepth 100000 in
theorem cw_X11_279 : CS RX11 279 yX11_isLoad cX11_isLoad 1 (some .boolean) 1 := ⟨(TT_in 847 (by decide +kernel) rfl), (TT_in 848 (by decide +kernel) rfl), (TT_in 89 (by decide +kernel) rfl), (TT_in 849 (by decide +kernel) rfl), by decide, by decide +kernel, by decide⟩
set_option maxRecDepth 100000 in
theorem cw_X11_282_X2 : CV RX11 282 RX2 yX2_leastPush cX2_leastPush 6 (some .int) 1 := ⟨(TT_in 850 (by decide +kernel) rfl), (TT_in 851 (by decide +kernel) rfl), (TT_in 852 (by decide +kernel) rfl), (TT_in 92 (by decide +kernel) rfl), (TT_in 853 (by decide +kernel) rfl), by decide, by decide +kernel, by decide⟩
set_option maxRecDepth 100000 in
theorem cw_X11_285_X2 : CV RX11 285 RX2 yX2_shareAt cX2_shareAt 3 (some .int) 2 := ⟨(TT_in 867 (by decide +kernel) rfl), (TT_in 859 (by decide +kernel) rfl), (TT_in 860 (by decide +kernel) rfl), (TT_in 92 (by decide +kernel) rfl), (TT_in 861 (by decide +kernel) rfl), by decide, by decide +kernel, by decide⟩
set_option maxRecDepth 100000 in
theorem cw_X11_289_X2 : CV RX11 289 RX2 yX2_bearersAt cX2_bearersAt 4 (some .int) 1 := ⟨(TT_in 872 (by decide +kernel) rfl), (TT_in 873 (by decide +kernel) rfl), (TT_in 874 (by decide +kernel) rfl), (TT_in 92 (by decide +kernel) rfl), (TT_in 875 (by decide +kernel) rfl), by decide, by decide +kernel, by decide⟩
set_option maxRecDepth 100000 in
theorem cw_X11_292_X7 : CV RX11 292 RX7 yX7_readAll cX7_readAll 4 (some .boolean) 2 := ⟨(TT_in 880 (by decide +kernel) rfl), (TT_in 881 (by decide +kernel) rfl), (TT_in 882 (by decide +kernel) rfl), (TT_in 96 (by decide +kernel) rfl), (TT_in 883 (by decide +kernel) rfl), by decide, by decide +kernel, by decide⟩
set_option maxRecDepth 100000 in
theorem cw_X11_296_X7 : CV RX11 296 RX7 yX7_faultPlace cX7_faultPlace 1 (some .int) 0 := ⟨(TT_in 921 (by decide +kernel) rfl), (TT_in 922 (by decide +kernel) rfl), (TT_in 923 (by decide +kernel) rfl), (TT_in 96 (by decide +kernel) rfl), (TT_in 924 (by decide +kernel) rfl), by decide, by decide +kernel, by decide⟩
set_option maxRecDepth 100000 in
theorem fl_X11_299_5 : FL RX11 299 5 2 (.int) false := ⟨RX6, "GearTeeth$RuleBook", TX6, 3, tyX6, rfl, by decide, inT_X6, (TT_in 218 (by decide +kernel) rfl), Or.inl rfl, tyX6_ok, nmX6, by decide +kernel, rfl, fun q => nomatch q⟩
set_option maxRecDepth 100000 in
theorem cw_X11_300_X6 : CV RX11 300 RX6 yX6_addRule cX6_addRule 3 none 2 := ⟨(TT_in 929 (by decide +kernel) rfl), (TT_in 930 (by decide +kernel) rfl), (TT_in 931 (by decide +kernel) rfl), (TT_in 93 (by decide +kernel) rfl), (TT_in 932 (by decide +kernel) rfl), by decide, by decide +kernel, by decide⟩
set_option maxRecDepth 100000 in
theorem cw_X11_303_X11 : CV RX11 303 RX11 yX11_isRule cX11_isRule 2 (some .boolean) 1 := ⟨(TT_in 938 (by decide +kernel) rfl), (TT_in 940 (by decide +kernel) rfl), (TT_in 21 (by decide +kernel) rfl), (TT_in 89 (by decide +kernel) rfl), (TT_in 941 (by decide +kernel) rfl), by decide, by decide +kernel, by decide⟩
set_option maxRecDepth 100000 in
theorem fl_X11_306_6 : FL RX11 306 6 4 (.array (.int)) true := ⟨RX7, "GearTeeth$RuleReader", TX7, 5, tyX7, rfl, by decide, inT_X7, (TT_in 279 (by decide +kernel) rfl), Or.inl rfl, tyX7_ok, nmX7, by decide +kernel, rfl, fun _ q => absurd q (by decide)⟩
set_option maxRecDepth 100000 in
theorem cw_X11_309_X5 : CV RX11 309 RX5 yX5_tellFields cX5_tellFields 4 none 2 := ⟨(TT_in 942 (by decide +kernel) rfl), (TT_in 943 (by decide +kernel) rfl), (TT_in 944 (by decide +kernel) rfl), (TT_in 98 (by decide +kernel) rfl), (TT_in 945 (by decide +kernel) rfl), by decide, by decide +kernel, by decide⟩
set_option maxRecDepth 100000 in
theorem fl_X11_312_5 : FL RX11 312 5 0 (.array (.array (.int))) true := ⟨RX6, "GearTeeth$RuleBook", TX6, 3, tyX6, rfl, by decide, inT_X6, (TT_in 214 (by decide +kernel) rfl), Or.inl rfl, tyX6_ok, nmX6, by decide +kernel, rfl, fun _ q => absurd q (by decide)⟩
set_option maxRecDepth 100000 in
theorem fl_X11_316_5 : FL RX11 316 5 1 (.array (.int)) true := ⟨RX6, "GearTeeth$RuleBook", TX6, 3, tyX6, rfl, by decide, inT_X6, (TT_in 216 (by decide +kernel) rfl), Or.inl rfl, tyX6_ok, nmX6, by decide +kernel, rfl, fun _ q => absurd q (by decide)⟩
set_option maxRecDepth 100000 in
theorem cw_X11_319_X8 : CV RX11 319 RX8 yX8_earRefusal cX8_earRefusal 2 (some .int) 0 := ⟨(TT_in 961 (by decide +kernel) rfl), (TT_in 962 (by decide +kernel) rfl), (TT_in 963 (by decide +kernel) rfl), (TT_in 100 (by decide +kernel) rfl), (TT_in 964 (by decide +kernel) rfl), by decide, by decide +kernel, by decide⟩
set_option maxRecDepth 100000 in
theorem cw_X11_322_X1 : CV RX11 322 RX1 yX1_listen cX1_listen 6 none 3 := ⟨(TT_in 965 (by decide +kernel) rfl), (TT_in 966 (by decide +kernel) rfl), (TT_in 967 (by decide +kernel) rfl), (TT_in 99 (by decide +kernel) rfl), (TT_in 968 (by decide +kernel) rfl), by decide, by decide +kernel, by decide⟩
set_option maxRecDepth 100000 in
theorem fl_X11_326_1 : FL RX11 326 1 8 (.int) false := ⟨RX1, "GearTeeth$Listener", TX1, 9, tyX1, rfl, by decide, inT_X1, (TT_in 354 (by decide +kernel) rfl), Or.inl rfl, tyX1_ok, nmX1, by decide +kernel, rfl, fun q => nomatch q⟩
set_option maxRecDepth 100000 in
theorem cw_X11_329_X1 : CV RX11 329 RX1 yX1_blamed cX1_blamed 3 (some .int) 0 := ⟨(TT_in 1007 (by decide +kernel) rfl), (TT_in 1008 (by decide +kernel) rfl), (TT_in 1009 (by decide +kernel) rfl), (TT_in 99 (by decide +kernel) rfl), (TT_in 1010 (by decide +kernel) rfl), by decide, by decide +kernel, by decide⟩
set_option maxRecDepth 100000 in
theorem cw_X11_332_X1 : CV RX11 332 RX1 yX1_maybe cX1_maybe 3 (some .int) 0 := ⟨(TT_in 1011 (by decide +kernel) rfl), (TT_in 1012 (by decide +kernel) rfl), (TT_in 1013 (by decide +kernel) rfl), (TT_in 99 (by decide +kernel) rfl), (TT_in 1014 (by decide +kernel) rfl), by decide, by decide +kernel, by decide⟩
set_option maxRecDepth 100000 in
theorem wc_X11_335 : Cond.constant RX11 335 (J (-1000000000)) ∈ TT := (TT_in 1019 (by decide +kernel) rfl)
set_option maxRecDepth 100000 in
theorem cw_X11_336_X0 : CV RX11 336 RX0 yX0_hasFlankOf cX0_hasFlankOf 3 (some .boolean) 1 := ⟨(TT_in 1024 (by decide +kernel) rfl), (TT_in 1025 (by decide +kernel) rfl), (TT_in 1026 (by decide +kernel) rfl), (TT_in 91 (by decide +kernel) rfl), (TT_in 1027 (by decide +kernel) rfl), by decide, by decide +kernel, by decide⟩
set_option maxRecDepth 100000 in
theorem cw_X11_340_X2 : CV RX11 340 RX2 yX2_takeFrom cX2_takeFrom 2 none 1 := ⟨(TT_in 1032 (by decide +kernel) rfl), (TT_in 1033 (by decide +kernel) rfl), (TT_in 1034 (by decide +kernel) rfl), (TT_in 92 (by decide +kernel) rfl), (TT_in 1035 (by decide +kernel) rfl), by decide, by decide +kernel, by decide⟩
set_option maxRecDepth 100000 in
theorem cw_X11_343_X6 : CV RX11 343 RX6 yX6_takeFrom cX6_takeFrom 3 none 1 := ⟨(TT_in 1037 (by decide +kernel) rfl), (TT_in 1038 (by decide +kernel) rfl), (TT_in 1039 (by decide +kernel) rfl), (TT_in 93 (by decide +kernel) rfl), (TT_in 1040 (by decide +kernel) rfl), by decide, by decide +kernel, by decide⟩
set_option maxRecDepth 100000 in
theorem fl_X11_346_10 : FL RX11 346 10 7 (.boolean) false := ⟨RX11, "GearTeeth", TX11, 16, tyX11, rfl, by decide, inT_X11, (TT_in 408 (by decide +kernel) rfl), Or.inl rfl, tyX11_ok, nmX11, by decide +kernel, rfl, fun q => nomatch q⟩
set_option maxRecDepth 100000 in
theorem cw_X11_355_X3 : CV RX11 355 RX3 yX3_allTeeth cX3_allTeeth 3 (some .int) 0 := ⟨(TT_in 1050 (by decide +kernel) rfl), (TT_in 1051 (by decide +kernel) rfl), (TT_in 1052 (by decide +kernel) rfl), (TT_in 90 (by decide +kernel) rfl), (TT_in 1053 (by decide +kernel) rfl), by decide, by decide +kernel, by decide⟩
set_option maxRecDepth 100000 in
theorem cw_X11_358_X3 : CV RX11 358 RX3 yX3_allWidths cX3_allWidths 3 (some .int) 0 := ⟨(TT_in 1054 (by decide +kernel) rfl), (TT_in 1055 (by decide +kernel) rfl), (TT_in 1056 (by decide +kernel) rfl), (TT_in 90 (by decide +kernel) rfl), (TT_in 1057 (by decide +kernel) rfl), by decide, by decide +kernel, by decide⟩
set_option maxRecDepth 100000 in
theorem cw_X11_361_X10 : CV RX11 361 RX10 yX10_countTurned cX10_countTurned 3 (some .int) 0 := ⟨(TT_in 1062 (by decide +kernel) rfl), (TT_in 1063 (by decide +kernel) rfl), (TT_in 1064 (by decide +kernel) rfl), (TT_in 97 (by decide +kernel) rfl), (TT_in 1065 (by decide +kernel) rfl), by decide, by decide +kernel, by decide⟩
set_option maxRecDepth 100000 in
theorem cw_X11_367_X8 : CV RX11 367 RX8 yX8_holdGear cX8_holdGear 2 none 1 := ⟨(TT_in 1076 (by decide +kernel) rfl), (TT_in 1077 (by decide +kernel) rfl), (TT_in 1078 (by decide +kernel) rfl), (TT_in 100 (by decide +kernel) rfl), (TT_in 1079 (by decide +kernel) rfl), by decide, by decide +kernel, by decide⟩
set_option maxRecDepth 100000 in
theorem cw_X11_364_X8 : CV RX11 364 RX8 yX8_holdNothing cX8_holdNothing 1 none 0 := ⟨(TT_in 1072 (by decide +kernel) rfl), (TT_in 1073 (by decide +kernel) rfl), (TT_in 1074 (by decide +kernel) rfl), (TT_in 100 (by decide +kernel) rfl), (TT_in 1075 (by decide +kernel) rfl), by decide, by decide +kernel, by decide⟩
set_option maxRecDepth 100000 in
theorem cw_X11_371_X8 : CV RX11 371 RX8 yX8_holdRow cX8_holdRow 3 none 2 := ⟨(TT_in 1085 (by decide +kernel) rfl), (TT_in 1086 (by decide +kernel) rfl), (TT_in 1087 (by decide +kernel) rfl), (TT_in 100 (by decide +kernel) rfl), (TT_in 1088 (by decide +kernel) rfl), by decide, by decide +kernel, by decide⟩
set_option maxRecDepth 100000 in
theorem cw_X11_374_X8 : CV RX11 374 RX8 yX8_rowRefusal cX8_rowRefusal 1 (some .int) 0 := ⟨(TT_in 1094 (by decide +kernel) rfl), (TT_in 1095 (by decide +kernel) rfl), (TT_in 1096 (by decide +kernel) rfl), (TT_in 100 (by decide +kernel) rfl), (TT_in 1097 (by decide +kernel) rfl), by decide, by decide +kernel, by decide⟩
set_option maxRecDepth 100000 in
theorem cw_X11_377_X8 : CV RX11 377 RX8 yX8_hasPlace cX8_hasPlace 2 (some .boolean) 1 := ⟨(TT_in 1098 (by decide +kernel) rfl), (TT_in 1099 (by decide +kernel) rfl), (TT_in 1100 (by decide +kernel) rfl), (TT_in 100 (by decide +kernel) rfl), (TT_in 1101 (by decide +kernel) rfl), by decide, by decide +kernel, by decide⟩
set_option maxRecDepth 100000 in
theorem cw_X11_380_X8 : CV RX11 380 RX8 yX8_setElement cX8_setElement 3 none 2 := ⟨(TT_in 1102 (by decide +kernel) rfl), (TT_in 1103 (by decide +kernel) rfl), (TT_in 1104 (by decide +kernel) rfl), (TT_in 100 (by decide +kernel) rfl), (TT_in 1105 (by decide +kernel) rfl), by decide, by decide +kernel, by decide⟩
set_option maxRecDepth 100000 in
theorem cw_X11_398_X8 : CV RX11 398 RX8 yX8_holdsNothing cX8_holdsNothing 1 (some .boolean) 0 := ⟨(TT_in 1110 (by decide +kernel) rfl), (TT_in 473 (by decide +kernel) rfl), (TT_in 474 (by decide +kernel) rfl), (TT_in 100 (by decide +kernel) rfl), (TT_in 475 (by decide +kernel) rfl), by decide, by decide +kernel, by decide⟩
set_option maxRecDepth 100000 in
theorem cw_X11_390_X8 : CV RX11 390 RX8 yX8_holdsRow cX8_holdsRow 1 (some .boolean) 0 := ⟨(TT_in 1111 (by decide +kernel) rfl), (TT_in 465 (by decide +kernel) rfl), (TT_in 466 (by decide +kernel) rfl), (TT_in 100 (by decide +kernel) rfl), (TT_in 467 (by decide +kernel) rfl), by decide, by decide +kernel, by decide⟩
set_option maxRecDepth 100000 in
theorem fl_X11_401_7 : FL RX11 401 7 2 (.int) false := ⟨RX8, "GearTeeth$Shelf", TX8, 5, tyX8, rfl, by decide, inT_X8, (TT_in 385 (by decide +kernel) rfl), Or.inl rfl, tyX8_ok, nmX8, by decide +kernel, rfl, fun q => nomatch q⟩
set_option maxRecDepth 100000 in
theorem cw_X11_404_X8 : CV RX11 404 RX8 yX8_hasPlaces cX8_hasPlaces 3 (some .boolean) 2 := ⟨(TT_in 1112 (by decide +kernel) rfl), (TT_in 1113 (by decide +kernel) rfl), (TT_in 1114 (by decide +kernel) rfl), (TT_in 100 (by decide +kernel) rfl), (TT_in 1115 (by decide +kernel) rfl), by decide, by decide +kernel, by decide⟩
set_option maxRecDepth 100000 in
theorem wC_X11_407 : WC RX11 407 := ⟨(TT_in 1116 (by decide +kernel) rfl), (TT_in 535 (by decide +kernel) rfl), (TT_in 534 (by decide +kernel) rfl), (TT_in 103 (by decide +kernel) rfl)⟩
set_option maxRecDepth 100000 in
theorem cw_X11_413_X8 : CV RX11 413 RX8 yX8_gearRefusal cX8_gearRefusal 1 (some .int) 0 := ⟨(TT_in 1121 (by decide +kernel) rfl), (TT_in 1122 (by decide +kernel) rfl), (TT_in 1123 (by decide +kernel) rfl), (TT_in 100 (by decide +kernel) rfl), (TT_in 1124 (by decide +kernel) rfl), by decide, by decide +kernel, by decide⟩
set_option maxRecDepth 100000 in
theorem fl_X11_416_7 : FL RX11 416 7 1 (.object "GearTeeth$Gear") true := ⟨RX8, "GearTeeth$Shelf", TX8, 5, tyX8, rfl, by decide, inT_X8, (TT_in 383 (by decide +kernel) rfl), Or.inl rfl, tyX8_ok, nmX8, by decide +kernel, rfl, fun _ q => absurd q (by decide)⟩
set_option maxRecDepth 100000 in
theorem cw_X11_419_X0 : CV RX11 419 RX0 yX0_heaviness cX0_heaviness 2 (some .int) 0 := ⟨(TT_in 1125 (by decide +kernel) rfl), (TT_in 1126 (by decide +kernel) rfl), (TT_in 1127 (by decide +kernel) rfl), (TT_in 91 (by decide +kernel) rfl), (TT_in 1128 (by decide +kernel) rfl), by decide, by decide +kernel, by decide⟩
set_option maxRecDepth 100000 in
theorem wi_X12_1 : Cond.methodLink RX12 1 objectInit ∈ TT := (TT_in 1244 (by decide +kernel) rfl)
set_option maxRecDepth 100000 in
theorem inT_X12 : ∀ w ∈ u_ws RX12 TX12 30, w ∈ TT := mem_all (by decide +kernel)
set_option maxRecDepth 100000 in
theorem fl_X12_7_11 : FL RX12 7 11 0 (.array (.int)) true := ⟨RX12, "GearTeethModel", TX12, 30, tyX12, rfl, by decide, inT_X12, (TT_in 1245 (by decide +kernel) rfl), Or.inl rfl, tyX12_ok, nmX12, by decide +kernel, rfl, fun _ _ => rfl⟩
set_option maxRecDepth 100000 in
theorem fl_X12_13_11 : FL RX12 13 11 1 (.array (.int)) true := ⟨RX12, "GearTeethModel", TX12, 30, tyX12, rfl, by decide, inT_X12, (TT_in 1246 (by decide +kernel) rfl), Or.inl rfl, tyX12_ok, nmX12, by decide +kernel, rfl, fun _ _ => rfl⟩
set_option maxRecDepth 100000 in
theorem fl_X12_16_11 : FL RX12 16 11 2 (.array (.int)) true := ⟨RX12, "GearTeethModel", TX12, 30, tyX12, rfl, by decide, inT_X12, (TT_in 1247 (by decide +kernel) rfl), Or.inl rfl, tyX12_ok, nmX12, by decide +kernel, rfl, fun _ _ => rfl⟩
set_option maxRecDepth 100000 in
theorem fl_X12_19_11 : FL RX12 19 11 3 (.array (.int)) true := ⟨RX12, "GearTeethModel", TX12, 30, tyX12, rfl, by decide, inT_X12, (TT_in 1248 (by decide +kernel) rfl), Or.inl rfl, tyX12_ok, nmX12, by decide +kernel, rfl, fun _ _ => rfl⟩
set_option maxRecDepth 100000 in
theorem fl_X12_22_11 : FL RX12 22 11 4 (.array (.int)) true := ⟨RX12, "GearTeethModel", TX12, 30, tyX12, rfl, by decide, inT_X12, (TT_in 1249 (by decide +kernel) rfl), Or.inl rfl, tyX12_ok, nmX12, by decide +kernel, rfl, fun _ _ => rfl⟩
set_option maxRecDepth 100000 in
theorem fl_X12_25_11 : FL RX12 25 11 5 (.array (.int)) true := ⟨RX12, "GearTeethModel", TX12, 30, tyX12, rfl, by decide, inT_X12, (TT_in 1250 (by decide +kernel) rfl), Or.inl rfl, tyX12_ok, nmX12, by decide +kernel, rfl, fun _ _ => rfl⟩
set_option maxRecDepth 100000 in
theorem fl_X12_28_11 : FL RX12 28 11 6 (.array (.int)) true := ⟨RX12, "GearTeethModel", TX12, 30, tyX12, rfl, by decide, inT_X12, (TT_in 1251 (by decide +kernel) rfl), Or.inl rfl, tyX12_ok, nmX12, by decide +kernel, rfl, fun _ _ => rfl⟩
set_option maxRecDepth 100000 in
theorem fl_X12_31_11 : FL RX12 31 11 7 (.array (.int)) true := ⟨RX12, "GearTeethModel", TX12, 30, tyX12, rfl, by decide, inT_X12, (TT_in 1252 (by decide +kernel) rfl), Or.inl rfl, tyX12_ok, nmX12, by decide +kernel, rfl, fun _ _ => rfl⟩
set_option maxRecDepth 100000 in
theorem fl_X12_34_11 : FL RX12 34 11 8 (.array (.int)) true := ⟨RX12, "GearTeethModel", TX12, 30, tyX12, rfl, by decide, inT_X12, (TT_in 1253 (by decide +kernel) rfl), Or.inl rfl, tyX12_ok, nmX12, by decide +kernel, rfl, fun _ _ => rfl⟩
set_option maxRecDepth 100000 in
theorem fl_X12_37_11 : FL RX12 37 11 9 (.array (.int)) true := ⟨RX12, "GearTeethModel", TX12, 30, tyX12, rfl, by decide, inT_X12, (TT_in 1254 (by decide +kernel) rfl), Or.inl rfl, tyX12_ok, nmX12, by decide +kernel, rfl, fun _ _ => rfl⟩
set_option maxRecDepth 100000 in
theorem fl_X12_40_11 : FL RX12 40 11 16 (.array (.int)) false := ⟨RX12, "GearTeethModel", TX12, 30, tyX12, rfl, by decide, inT_X12, (TT_in 1261 (by decide +kernel) rfl), Or.inl rfl, tyX12_ok, nmX12, by decide +kernel, rfl, fun q => nomatch q⟩
set_option maxRecDepth 100000 in
theorem fl_X12_43_11 : FL RX12 43 11 17 (.array (.int)) true := ⟨RX12, "GearTeethModel", TX12, 30, tyX12, rfl, by decide, inT_X12, (TT_in 1262 (by decide +kernel) rfl), Or.inl rfl, tyX12_ok, nmX12, by decide +kernel, rfl, fun _ _ => rfl⟩
set_option maxRecDepth 100000 in
theorem fl_X12_46_11 : FL RX12 46 11 18 (.array (.int)) true := ⟨RX12, "GearTeethModel", TX12, 30, tyX12, rfl, by decide, inT_X12, (TT_in 1263 (by decide +kernel) rfl), Or.inl rfl, tyX12_ok, nmX12, by decide +kernel, rfl, fun _ _ => rfl⟩
set_option maxRecDepth 100000 in
theorem fl_X12_49_11 : FL RX12 49 11 19 (.array (.long)) true := ⟨RX12, "GearTeethModel", TX12, 30, tyX12, rfl, by decide, inT_X12, (TT_in 1264 (by decide +kernel) rfl), Or.inl rfl, tyX12_ok, nmX12, by decide +kernel, rfl, fun _ _ => rfl⟩
set_option maxRecDepth 100000 in
theorem fl_X12_53_11 : FL RX12 53 11 20 (.array (.long)) true := ⟨RX12, "GearTeethModel", TX12, 30, tyX12, rfl, by decide, inT_X12, (TT_in 1265 (by decide +kernel) rfl), Or.inl rfl, tyX12_ok, nmX12, by decide +kernel, rfl, fun _ _ => rfl⟩
set_option maxRecDepth 100000 in
theorem fl_X12_56_11 : FL RX12 56 11 21 (.array (.boolean)) true := ⟨RX12, "GearTeethModel", TX12, 30, tyX12, rfl, by decide, inT_X12, (TT_in 1266 (by decide +kernel) rfl), Or.inl rfl, tyX12_ok, nmX12, by decide +kernel, rfl, fun _ _ => rfl⟩
set_option maxRecDepth 100000 in
theorem fl_X12_60_11 : FL RX12 60 11 24 (.array (.int)) true := ⟨RX12, "GearTeethModel", TX12, 30, tyX12, rfl, by decide, inT_X12, (TT_in 1269 (by decide +kernel) rfl), Or.inl rfl, tyX12_ok, nmX12, by decide +kernel, rfl, fun _ _ => rfl⟩
set_option maxRecDepth 100000 in
theorem fl_X12_63_11 : FL RX12 63 11 28 (.array (.long)) true := ⟨RX12, "GearTeethModel", TX12, 30, tyX12, rfl, by decide, inT_X12, (TT_in 1273 (by decide +kernel) rfl), Or.inl rfl, tyX12_ok, nmX12, by decide +kernel, rfl, fun _ _ => rfl⟩
set_option maxRecDepth 100000 in
theorem fl_X12_66_11 : FL RX12 66 11 29 (.array (.int)) true := ⟨RX12, "GearTeethModel", TX12, 30, tyX12, rfl, by decide, inT_X12, (TT_in 1274 (by decide +kernel) rfl), Or.inl rfl, tyX12_ok, nmX12, by decide +kernel, rfl, fun _ _ => rfl⟩
set_option maxRecDepth 100000 in
theorem fl_X12_69_11 : FL RX12 69 11 11 (.int) false := ⟨RX12, "GearTeethModel", TX12, 30, tyX12, rfl, by decide, inT_X12, (TT_in 1256 (by decide +kernel) rfl), Or.inl rfl, tyX12_ok, nmX12, by decide +kernel, rfl, fun q => nomatch q⟩
set_option maxRecDepth 100000 in
theorem cw_X12_73 : CS RX12 73 yX12_isIn cX12_isIn 6 (some .boolean) 3 := ⟨(TT_in 1352 (by decide +kernel) rfl), (TT_in 1353 (by decide +kernel) rfl), (TT_in 101 (by decide +kernel) rfl), (TT_in 1354 (by decide +kernel) rfl), by decide, by decide +kernel, by decide⟩
set_option maxRecDepth 100000 in
theorem wc_X12_77 : Cond.constantLong RX12 77 (K 7) ∈ TT := (TT_in 1351 (by decide +kernel) rfl)
set_option maxRecDepth 100000 in
theorem cw_X12_79_X12 : CV RX12 79 RX12 yX12_kind cX12_kind 2 (some .int) 1 := ⟨(TT_in 1389 (by decide +kernel) rfl), (TT_in 1391 (by decide +kernel) rfl), (TT_in 40 (by decide +kernel) rfl), (TT_in 101 (by decide +kernel) rfl), (TT_in 1392 (by decide +kernel) rfl), by decide, by decide +kernel, by decide⟩
set_option maxRecDepth 100000 in
theorem cw_X12_83_X12 : CV RX12 83 RX12 yX12_teeth cX12_teeth 2 (some .int) 1 := ⟨(TT_in 1413 (by decide +kernel) rfl), (TT_in 1415 (by decide +kernel) rfl), (TT_in 45 (by decide +kernel) rfl), (TT_in 101 (by decide +kernel) rfl), (TT_in 1416 (by decide +kernel) rfl), by decide, by decide +kernel, by decide⟩
set_option maxRecDepth 100000 in
theorem cw_X12_86_X12 : CV RX12 86 RX12 yX12_widthOf cX12_widthOf 3 (some .int) 2 := ⟨(TT_in 1425 (by decide +kernel) rfl), (TT_in 1427 (by decide +kernel) rfl), (TT_in 48 (by decide +kernel) rfl), (TT_in 101 (by decide +kernel) rfl), (TT_in 1428 (by decide +kernel) rfl), by decide, by decide +kernel, by decide⟩
set_option maxRecDepth 100000 in
theorem fl_X12_90_11 : FL RX12 90 11 12 (.int) false := ⟨RX12, "GearTeethModel", TX12, 30, tyX12, rfl, by decide, inT_X12, (TT_in 1257 (by decide +kernel) rfl), Or.inl rfl, tyX12_ok, nmX12, by decide +kernel, rfl, fun q => nomatch q⟩
set_option maxRecDepth 100000 in
theorem fl_X12_93_11 : FL RX12 93 11 14 (.int) false := ⟨RX12, "GearTeethModel", TX12, 30, tyX12, rfl, by decide, inT_X12, (TT_in 1259 (by decide +kernel) rfl), Or.inl rfl, tyX12_ok, nmX12, by decide +kernel, rfl, fun q => nomatch q⟩
set_option maxRecDepth 100000 in
theorem fl_X12_96_11 : FL RX12 96 11 13 (.int) false := ⟨RX12, "GearTeethModel", TX12, 30, tyX12, rfl, by decide, inT_X12, (TT_in 1258 (by decide +kernel) rfl), Or.inl rfl, tyX12_ok, nmX12, by decide +kernel, rfl, fun q => nomatch q⟩
set_option maxRecDepth 100000 in
theorem cw_X12_99_X12 : CV RX12 99 RX12 yX12_sign cX12_sign 1 (some .int) 0 := ⟨(TT_in 1363 (by decide +kernel) rfl), (TT_in 1365 (by decide +kernel) rfl), (TT_in 34 (by decide +kernel) rfl), (TT_in 101 (by decide +kernel) rfl), (TT_in 1366 (by decide +kernel) rfl), by decide, by decide +kernel, by decide⟩
set_option maxRecDepth 100000 in
theorem wc_X12_103 : Cond.constantLong RX12 103 (K 48) ∈ TT := (TT_in 1375 (by decide +kernel) rfl)
set_option maxRecDepth 100000 in
theorem wc_X12_105 : Cond.constantLong RX12 105 (K 57) ∈ TT := (TT_in 1376 (by decide +kernel) rfl)
set_option maxRecDepth 100000 in
theorem fl_X12_107_11 : FL RX12 107 11 15 (.int) false := ⟨RX12, "GearTeethModel", TX12, 30, tyX12, rfl, by decide, inT_X12, (TT_in 1260 (by decide +kernel) rfl), Or.inl rfl, tyX12_ok, nmX12, by decide +kernel, rfl, fun q => nomatch q⟩
set_option maxRecDepth 100000 in
theorem cw_X12_114_X12 : CV RX12 114 RX12 yX12_readsNumber cX12_readsNumber 1 (some .boolean) 0 := ⟨(TT_in 1371 (by decide +kernel) rfl), (TT_in 1373 (by decide +kernel) rfl), (TT_in 36 (by decide +kernel) rfl), (TT_in 101 (by decide +kernel) rfl), (TT_in 1374 (by decide +kernel) rfl), by decide, by decide +kernel, by decide⟩
set_option maxRecDepth 100000 in
theorem cw_X12_110_X12 : CV RX12 110 RX12 yX12_takes cX12_takes 2 (some .boolean) 1 := ⟨(TT_in 1367 (by decide +kernel) rfl), (TT_in 1369 (by decide +kernel) rfl), (TT_in 35 (by decide +kernel) rfl), (TT_in 101 (by decide +kernel) rfl), (TT_in 1370 (by decide +kernel) rfl), by decide, by decide +kernel, by decide⟩
set_option maxRecDepth 100000 in
theorem cw_X12_118_X12 : CV RX12 118 RX12 yX12_meshOf cX12_meshOf 3 (some .int) 2 := ⟨(TT_in 1397 (by decide +kernel) rfl), (TT_in 1399 (by decide +kernel) rfl), (TT_in 42 (by decide +kernel) rfl), (TT_in 101 (by decide +kernel) rfl), (TT_in 1400 (by decide +kernel) rfl), by decide, by decide +kernel, by decide⟩
set_option maxRecDepth 100000 in
theorem cw_X12_121_X12 : CV RX12 121 RX12 yX12_isGear cX12_isGear 2 (some .boolean) 1 := ⟨(TT_in 1385 (by decide +kernel) rfl), (TT_in 1387 (by decide +kernel) rfl), (TT_in 39 (by decide +kernel) rfl), (TT_in 101 (by decide +kernel) rfl), (TT_in 1388 (by decide +kernel) rfl), by decide, by decide +kernel, by decide⟩
set_option maxRecDepth 100000 in
theorem cw_X12_124_X12 : CV RX12 124 RX12 yX12_between cX12_between 4 (some .int) 2 := ⟨(TT_in 1393 (by decide +kernel) rfl), (TT_in 1395 (by decide +kernel) rfl), (TT_in 41 (by decide +kernel) rfl), (TT_in 101 (by decide +kernel) rfl), (TT_in 1396 (by decide +kernel) rfl), by decide, by decide +kernel, by decide⟩
set_option maxRecDepth 100000 in
theorem cw_X12_127 : CS RX12 127 yX12_isShelf cX12_isShelf 1 (some .boolean) 1 := ⟨(TT_in 1348 (by decide +kernel) rfl), (TT_in 1349 (by decide +kernel) rfl), (TT_in 101 (by decide +kernel) rfl), (TT_in 1350 (by decide +kernel) rfl), by decide, by decide +kernel, by decide⟩
set_option maxRecDepth 100000 in
theorem cw_X12_130_X12 : CV RX12 130 RX12 yX12_wrongRow cX12_wrongRow 3 (some .int) 2 := ⟨(TT_in 1344 (by decide +kernel) rfl), (TT_in 1346 (by decide +kernel) rfl), (TT_in 31 (by decide +kernel) rfl), (TT_in 101 (by decide +kernel) rfl), (TT_in 1347 (by decide +kernel) rfl), by decide, by decide +kernel, by decide⟩
set_option maxRecDepth 100000 in
theorem cw_X12_133_X12 : CV RX12 133 RX12 yX12_opens cX12_opens 2 none 1 := ⟨(TT_in 1355 (by decide +kernel) rfl), (TT_in 1357 (by decide +kernel) rfl), (TT_in 32 (by decide +kernel) rfl), (TT_in 101 (by decide +kernel) rfl), (TT_in 1358 (by decide +kernel) rfl), by decide, by decide +kernel, by decide⟩
set_option maxRecDepth 100000 in
theorem cw_X12_137_X12 : CV RX12 137 RX12 yX12_readsStatement cX12_readsStatement 4 (some .boolean) 0 := ⟨(TT_in 1359 (by decide +kernel) rfl), (TT_in 1361 (by decide +kernel) rfl), (TT_in 33 (by decide +kernel) rfl), (TT_in 101 (by decide +kernel) rfl), (TT_in 1362 (by decide +kernel) rfl), by decide, by decide +kernel, by decide⟩
set_option maxRecDepth 100000 in
theorem cw_X12_146_X12 : CV RX12 146 RX12 yX12_makesRoom cX12_makesRoom 2 (some .boolean) 0 := ⟨(TT_in 1401 (by decide +kernel) rfl), (TT_in 1403 (by decide +kernel) rfl), (TT_in 43 (by decide +kernel) rfl), (TT_in 101 (by decide +kernel) rfl), (TT_in 1404 (by decide +kernel) rfl), by decide, by decide +kernel, by decide⟩
set_option maxRecDepth 100000 in
theorem cw_X12_143_X12 : CV RX12 143 RX12 yX12_makesMesh cX12_makesMesh 4 (some .boolean) 0 := ⟨(TT_in 1381 (by decide +kernel) rfl), (TT_in 1383 (by decide +kernel) rfl), (TT_in 38 (by decide +kernel) rfl), (TT_in 101 (by decide +kernel) rfl), (TT_in 1384 (by decide +kernel) rfl), by decide, by decide +kernel, by decide⟩
set_option maxRecDepth 100000 in
theorem cw_X12_140_X12 : CV RX12 140 RX12 yX12_makesGear cX12_makesGear 3 (some .boolean) 0 := ⟨(TT_in 1377 (by decide +kernel) rfl), (TT_in 1379 (by decide +kernel) rfl), (TT_in 37 (by decide +kernel) rfl), (TT_in 101 (by decide +kernel) rfl), (TT_in 1380 (by decide +kernel) rfl), by decide, by decide +kernel, by decide⟩
set_option maxRecDepth 100000 in
theorem cw_X12_149_X12 : CV RX12 149 RX12 yX12_hard cX12_hard 2 (some .int) 1 := ⟨(TT_in 1409 (by decide +kernel) rfl), (TT_in 1411 (by decide +kernel) rfl), (TT_in 44 (by decide +kernel) rfl), (TT_in 101 (by decide +kernel) rfl), (TT_in 1412 (by decide +kernel) rfl), by decide, by decide +kernel, by decide⟩
set_option maxRecDepth 100000 in
theorem cw_X12_152_X12 : CV RX12 152 RX12 yX12_stiff cX12_stiff 2 (some .int) 1 := ⟨(TT_in 1417 (by decide +kernel) rfl), (TT_in 1419 (by decide +kernel) rfl), (TT_in 46 (by decide +kernel) rfl), (TT_in 101 (by decide +kernel) rfl), (TT_in 1420 (by decide +kernel) rfl), by decide, by decide +kernel, by decide⟩
set_option maxRecDepth 100000 in
theorem cw_X12_155_X12 : CV RX12 155 RX12 yX12_thin cX12_thin 4 (some .int) 1 := ⟨(TT_in 1421 (by decide +kernel) rfl), (TT_in 1423 (by decide +kernel) rfl), (TT_in 47 (by decide +kernel) rfl), (TT_in 101 (by decide +kernel) rfl), (TT_in 1424 (by decide +kernel) rfl), by decide, by decide +kernel, by decide⟩
set_option maxRecDepth 100000 in
theorem cw_X12_158_X12 : CV RX12 158 RX12 yX12_undercut cX12_undercut 5 (some .int) 1 := ⟨(TT_in 1429 (by decide +kernel) rfl), (TT_in 1431 (by decide +kernel) rfl), (TT_in 49 (by decide +kernel) rfl), (TT_in 101 (by decide +kernel) rfl), (TT_in 1432 (by decide +kernel) rfl), by decide, by decide +kernel, by decide⟩
set_option maxRecDepth 100000 in
theorem wc_X12_161 : Cond.constantLong RX12 161 (K 15) ∈ TT := (TT_in 1437 (by decide +kernel) rfl)
set_option maxRecDepth 100000 in
theorem cw_X12_163_X12 : CV RX12 163 RX12 yX12_isMesh cX12_isMesh 2 (some .boolean) 1 := ⟨(TT_in 1442 (by decide +kernel) rfl), (TT_in 1444 (by decide +kernel) rfl), (TT_in 50 (by decide +kernel) rfl), (TT_in 101 (by decide +kernel) rfl), (TT_in 1445 (by decide +kernel) rfl), by decide, by decide +kernel, by decide⟩
set_option maxRecDepth 100000 in
theorem wc_X12_166 : Cond.constantLong RX12 166 (K 2) ∈ TT := (TT_in 1446 (by decide +kernel) rfl)
set_option maxRecDepth 100000 in
theorem wc_X12_168 : Cond.constantLong RX12 168 (K (-1)) ∈ TT := (TT_in 1467 (by decide +kernel) rfl)
set_option maxRecDepth 100000 in
theorem cw_X12_170 : CS RX12 170 yX12_common cX12_common 10 (some .long) 2 := ⟨(TT_in 1468 (by decide +kernel) rfl), (TT_in 1469 (by decide +kernel) rfl), (TT_in 101 (by decide +kernel) rfl), (TT_in 1470 (by decide +kernel) rfl), by decide, by decide +kernel, by decide⟩
set_option maxRecDepth 100000 in
theorem fl_X12_174_11 : FL RX12 174 11 22 (.long) false := ⟨RX12, "GearTeethModel", TX12, 30, tyX12, rfl, by decide, inT_X12, (TT_in 1267 (by decide +kernel) rfl), Or.inl rfl, tyX12_ok, nmX12, by decide +kernel, rfl, fun q => nomatch q⟩
set_option maxRecDepth 100000 in
theorem fl_X12_178_11 : FL RX12 178 11 23 (.long) false := ⟨RX12, "GearTeethModel", TX12, 30, tyX12, rfl, by decide, inT_X12, (TT_in 1268 (by decide +kernel) rfl), Or.inl rfl, tyX12_ok, nmX12, by decide +kernel, rfl, fun q => nomatch q⟩
set_option maxRecDepth 100000 in
theorem cw_X12_181_X12 : CV RX12 181 RX12 yX12_shaft cX12_shaft 2 (some .int) 1 := ⟨(TT_in 1459 (by decide +kernel) rfl), (TT_in 1461 (by decide +kernel) rfl), (TT_in 53 (by decide +kernel) rfl), (TT_in 101 (by decide +kernel) rfl), (TT_in 1462 (by decide +kernel) rfl), by decide, by decide +kernel, by decide⟩
set_option maxRecDepth 100000 in
theorem cw_X12_184_X12 : CV RX12 184 RX12 yX12_follows cX12_follows 12 none 3 := ⟨(TT_in 1463 (by decide +kernel) rfl), (TT_in 1465 (by decide +kernel) rfl), (TT_in 54 (by decide +kernel) rfl), (TT_in 101 (by decide +kernel) rfl), (TT_in 1466 (by decide +kernel) rfl), by decide, by decide +kernel, by decide⟩
set_option maxRecDepth 100000 in
theorem cw_X12_188_X12 : CV RX12 188 RX12 yX12_goes cX12_goes 8 none 1 := ⟨(TT_in 1455 (by decide +kernel) rfl), (TT_in 1457 (by decide +kernel) rfl), (TT_in 52 (by decide +kernel) rfl), (TT_in 101 (by decide +kernel) rfl), (TT_in 1458 (by decide +kernel) rfl), by decide, by decide +kernel, by decide⟩
set_option maxRecDepth 100000 in
theorem cw_X12_191_X12 : CV RX12 191 RX12 yX12_turns cX12_turns 2 none 0 := ⟨(TT_in 1451 (by decide +kernel) rfl), (TT_in 1453 (by decide +kernel) rfl), (TT_in 51 (by decide +kernel) rfl), (TT_in 101 (by decide +kernel) rfl), (TT_in 1454 (by decide +kernel) rfl), by decide, by decide +kernel, by decide⟩
set_option maxRecDepth 100000 in
theorem wc_X12_194 : Cond.constantLong RX12 194 (K (-1000000001)) ∈ TT := (TT_in 1475 (by decide +kernel) rfl)
set_option maxRecDepth 100000 in
theorem wc_X12_198 : Cond.constantLong RX12 198 (K (-1000000004)) ∈ TT := (TT_in 1477 (by decide +kernel) rfl)
set_option maxRecDepth 100000 in
theorem wc_X12_196 : Cond.constantLong RX12 196 (K (-1000000003)) ∈ TT := (TT_in 1476 (by decide +kernel) rfl)
set_option maxRecDepth 100000 in
theorem wc_X12_200 : Cond.constantLong RX12 200 (K 4) ∈ TT := (TT_in 1486 (by decide +kernel) rfl)
set_option maxRecDepth 100000 in
theorem wc_X12_202 : Cond.constantLong RX12 202 (K 99) ∈ TT := (TT_in 1487 (by decide +kernel) rfl)
set_option maxRecDepth 100000 in
theorem wc_X12_204 : Cond.constantLong RX12 204 (K 12) ∈ TT := (TT_in 1488 (by decide +kernel) rfl)
set_option maxRecDepth 100000 in
theorem cw_X12_206 : CS RX12 206 yX12_mayBuild cX12_mayBuild 4 (some .boolean) 3 := ⟨(TT_in 1489 (by decide +kernel) rfl), (TT_in 1490 (by decide +kernel) rfl), (TT_in 101 (by decide +kernel) rfl), (TT_in 1491 (by decide +kernel) rfl), by decide, by decide +kernel, by decide⟩
set_option maxRecDepth 100000 in
theorem wc_X12_210 : Cond.constantLong RX12 210 (K 31) ∈ TT := (TT_in 1505 (by decide +kernel) rfl)
set_option maxRecDepth 100000 in
theorem wc_X12_212 : Cond.constantLong RX12 212 (K 32) ∈ TT := (TT_in 1500 (by decide +kernel) rfl)
set_option maxRecDepth 100000 in
theorem cw_X12_214_X12 : CV RX12 214 RX12 yX12_wrongCutter cX12_wrongCutter 4 (some .int) 1 := ⟨(TT_in 1501 (by decide +kernel) rfl), (TT_in 1503 (by decide +kernel) rfl), (TT_in 55 (by decide +kernel) rfl), (TT_in 101 (by decide +kernel) rfl), (TT_in 1504 (by decide +kernel) rfl), by decide, by decide +kernel, by decide⟩
set_option maxRecDepth 100000 in
theorem cw_X12_217_X12 : CV RX12 217 RX12 yX12_cuts cX12_cuts 8 none 3 := ⟨(TT_in 1506 (by decide +kernel) rfl), (TT_in 1508 (by decide +kernel) rfl), (TT_in 56 (by decide +kernel) rfl), (TT_in 101 (by decide +kernel) rfl), (TT_in 1509 (by decide +kernel) rfl), by decide, by decide +kernel, by decide⟩
set_option maxRecDepth 100000 in
theorem cw_X12_220_X12 : CV RX12 220 RX12 yX12_puts cX12_puts 3 none 1 := ⟨(TT_in 1510 (by decide +kernel) rfl), (TT_in 1512 (by decide +kernel) rfl), (TT_in 57 (by decide +kernel) rfl), (TT_in 101 (by decide +kernel) rfl), (TT_in 1513 (by decide +kernel) rfl), by decide, by decide +kernel, by decide⟩
set_option maxRecDepth 100000 in
theorem cw_X12_223_X12 : CV RX12 223 RX12 yX12_together cX12_together 4 (some .int) 3 := ⟨(TT_in 1530 (by decide +kernel) rfl), (TT_in 1532 (by decide +kernel) rfl), (TT_in 61 (by decide +kernel) rfl), (TT_in 101 (by decide +kernel) rfl), (TT_in 1533 (by decide +kernel) rfl), by decide, by decide +kernel, by decide⟩
set_option maxRecDepth 100000 in
theorem cw_X12_227_X12 : CV RX12 227 RX12 yX12_touchOf cX12_touchOf 5 (some .int) 2 := ⟨(TT_in 1526 (by decide +kernel) rfl), (TT_in 1528 (by decide +kernel) rfl), (TT_in 60 (by decide +kernel) rfl), (TT_in 101 (by decide +kernel) rfl), (TT_in 1529 (by decide +kernel) rfl), by decide, by decide +kernel, by decide⟩
set_option maxRecDepth 100000 in
theorem wc_X12_236 : Cond.constant RX12 236 (J (-1000000001)) ∈ TT := (TT_in 1534 (by decide +kernel) rfl)
set_option maxRecDepth 100000 in
theorem cw_X12_230_X12 : CV RX12 230 RX12 yX12_isTurn cX12_isTurn 2 (some .boolean) 1 := ⟨(TT_in 1518 (by decide +kernel) rfl), (TT_in 1520 (by decide +kernel) rfl), (TT_in 58 (by decide +kernel) rfl), (TT_in 101 (by decide +kernel) rfl), (TT_in 1521 (by decide +kernel) rfl), by decide, by decide +kernel, by decide⟩
set_option maxRecDepth 100000 in
theorem cw_X12_233_X12 : CV RX12 233 RX12 yX12_offOf cX12_offOf 3 (some .int) 2 := ⟨(TT_in 1522 (by decide +kernel) rfl), (TT_in 1524 (by decide +kernel) rfl), (TT_in 59 (by decide +kernel) rfl), (TT_in 101 (by decide +kernel) rfl), (TT_in 1525 (by decide +kernel) rfl), by decide, by decide +kernel, by decide⟩
set_option maxRecDepth 100000 in
theorem cw_X12_237_X12 : CV RX12 237 RX12 yX12_jamOf cX12_jamOf 3 (some .int) 1 := ⟨(TT_in 1543 (by decide +kernel) rfl), (TT_in 1545 (by decide +kernel) rfl), (TT_in 62 (by decide +kernel) rfl), (TT_in 101 (by decide +kernel) rfl), (TT_in 1546 (by decide +kernel) rfl), by decide, by decide +kernel, by decide⟩
set_option maxRecDepth 100000 in
theorem cw_X12_240_X12 : CV RX12 240 RX12 yX12_gapOf cX12_gapOf 4 (some .int) 1 := ⟨(TT_in 1551 (by decide +kernel) rfl), (TT_in 1553 (by decide +kernel) rfl), (TT_in 63 (by decide +kernel) rfl), (TT_in 101 (by decide +kernel) rfl), (TT_in 1554 (by decide +kernel) rfl), by decide, by decide +kernel, by decide⟩
set_option maxRecDepth 100000 in
theorem cw_X12_243_X12 : CV RX12 243 RX12 yX12_evenOf cX12_evenOf 4 (some .int) 1 := ⟨(TT_in 1559 (by decide +kernel) rfl), (TT_in 1561 (by decide +kernel) rfl), (TT_in 64 (by decide +kernel) rfl), (TT_in 101 (by decide +kernel) rfl), (TT_in 1562 (by decide +kernel) rfl), by decide, by decide +kernel, by decide⟩
set_option maxRecDepth 100000 in
theorem wc_X12_246 : Cond.constantLong RX12 246 (K 62) ∈ TT := (TT_in 1567 (by decide +kernel) rfl)
set_option maxRecDepth 100000 in
theorem cw_X12_248_X12 : CV RX12 248 RX12 yX12_lessens cX12_lessens 5 none 3 := ⟨(TT_in 1578 (by decide +kernel) rfl), (TT_in 1580 (by decide +kernel) rfl), (TT_in 66 (by decide +kernel) rfl), (TT_in 101 (by decide +kernel) rfl), (TT_in 1581 (by decide +kernel) rfl), by decide, by decide +kernel, by decide⟩
set_option maxRecDepth 100000 in
theorem wc_X12_251 : Cond.constantLong RX12 251 (K 999) ∈ TT := (TT_in 1572 (by decide +kernel) rfl)
set_option maxRecDepth 100000 in
theorem wc_X12_253 : Cond.constantLong RX12 253 (K 100) ∈ TT := (TT_in 1573 (by decide +kernel) rfl)
set_option maxRecDepth 100000 in
theorem cw_X12_255_X12 : CV RX12 255 RX12 yX12_wears cX12_wears 5 none 2 := ⟨(TT_in 1574 (by decide +kernel) rfl), (TT_in 1576 (by decide +kernel) rfl), (TT_in 65 (by decide +kernel) rfl), (TT_in 101 (by decide +kernel) rfl), (TT_in 1577 (by decide +kernel) rfl), by decide, by decide +kernel, by decide⟩
set_option maxRecDepth 100000 in
theorem cw_X12_259_X12 : CV RX12 259 RX12 yX12_saves cX12_saves 2 none 0 := ⟨(TT_in 1586 (by decide +kernel) rfl), (TT_in 1588 (by decide +kernel) rfl), (TT_in 67 (by decide +kernel) rfl), (TT_in 101 (by decide +kernel) rfl), (TT_in 1589 (by decide +kernel) rfl), by decide, by decide +kernel, by decide⟩
set_option maxRecDepth 100000 in
theorem cw_X12_262_X12 : CV RX12 262 RX12 yX12_back cX12_back 2 none 0 := ⟨(TT_in 1590 (by decide +kernel) rfl), (TT_in 1592 (by decide +kernel) rfl), (TT_in 68 (by decide +kernel) rfl), (TT_in 101 (by decide +kernel) rfl), (TT_in 1593 (by decide +kernel) rfl), by decide, by decide +kernel, by decide⟩
set_option maxRecDepth 100000 in
theorem wc_X12_265 : Cond.constantLong RX12 265 (K 1000000) ∈ TT := (TT_in 1603 (by decide +kernel) rfl)
set_option maxRecDepth 100000 in
theorem wc_X12_267 : Cond.constantLong RX12 267 (K 8) ∈ TT := (TT_in 1598 (by decide +kernel) rfl)
set_option maxRecDepth 100000 in
theorem cw_X12_269_X12 : CV RX12 269 RX12 yX12_loudOf cX12_loudOf 10 (some .long) 2 := ⟨(TT_in 1599 (by decide +kernel) rfl), (TT_in 1601 (by decide +kernel) rfl), (TT_in 69 (by decide +kernel) rfl), (TT_in 101 (by decide +kernel) rfl), (TT_in 1602 (by decide +kernel) rfl), by decide, by decide +kernel, by decide⟩
set_option maxRecDepth 100000 in
theorem cw_X12_273_X12 : CV RX12 273 RX12 yX12_whineOf cX12_whineOf 4 (some .int) 1 := ⟨(TT_in 1608 (by decide +kernel) rfl), (TT_in 1610 (by decide +kernel) rfl), (TT_in 70 (by decide +kernel) rfl), (TT_in 101 (by decide +kernel) rfl), (TT_in 1611 (by decide +kernel) rfl), by decide, by decide +kernel, by decide⟩
set_option maxRecDepth 100000 in
theorem cw_X12_276_X12 : CV RX12 276 RX12 yX12_shareAt cX12_shareAt 3 (some .int) 2 := ⟨(TT_in 1632 (by decide +kernel) rfl), (TT_in 1634 (by decide +kernel) rfl), (TT_in 72 (by decide +kernel) rfl), (TT_in 101 (by decide +kernel) rfl), (TT_in 1635 (by decide +kernel) rfl), by decide, by decide +kernel, by decide⟩
set_option maxRecDepth 100000 in
theorem wc_X12_279 : Cond.constantLong RX12 279 (K 9999) ∈ TT := (TT_in 1627 (by decide +kernel) rfl)
set_option maxRecDepth 100000 in
theorem cw_X12_281 : CS RX12 281 yX12_isLoad cX12_isLoad 1 (some .boolean) 1 := ⟨(TT_in 1624 (by decide +kernel) rfl), (TT_in 1625 (by decide +kernel) rfl), (TT_in 101 (by decide +kernel) rfl), (TT_in 1626 (by decide +kernel) rfl), by decide, by decide +kernel, by decide⟩
set_option maxRecDepth 100000 in
theorem cw_X12_284_X12 : CV RX12 284 RX12 yX12_pushedOf cX12_pushedOf 5 (some .int) 1 := ⟨(TT_in 1628 (by decide +kernel) rfl), (TT_in 1630 (by decide +kernel) rfl), (TT_in 71 (by decide +kernel) rfl), (TT_in 101 (by decide +kernel) rfl), (TT_in 1631 (by decide +kernel) rfl), by decide, by decide +kernel, by decide⟩
set_option maxRecDepth 100000 in
theorem cw_X12_305 : CS RX12 305 yX12_isField cX12_isField 1 (some .boolean) 1 := ⟨(TT_in 1672 (by decide +kernel) rfl), (TT_in 1673 (by decide +kernel) rfl), (TT_in 101 (by decide +kernel) rfl), (TT_in 1674 (by decide +kernel) rfl), by decide, by decide +kernel, by decide⟩
set_option maxRecDepth 100000 in
theorem cw_X12_308 : CS RX12 308 yX12_isDigit cX12_isDigit 1 (some .boolean) 1 := ⟨(TT_in 1675 (by decide +kernel) rfl), (TT_in 1676 (by decide +kernel) rfl), (TT_in 101 (by decide +kernel) rfl), (TT_in 1677 (by decide +kernel) rfl), by decide, by decide +kernel, by decide⟩
set_option maxRecDepth 100000 in
theorem cw_X12_302_X12 : CV RX12 302 RX12 yX12_readsAtom cX12_readsAtom 3 (some .boolean) 0 := ⟨(TT_in 1668 (by decide +kernel) rfl), (TT_in 1670 (by decide +kernel) rfl), (TT_in 78 (by decide +kernel) rfl), (TT_in 101 (by decide +kernel) rfl), (TT_in 1671 (by decide +kernel) rfl), by decide, by decide +kernel, by decide⟩
set_option maxRecDepth 100000 in
theorem cw_X12_299_X12 : CV RX12 299 RX12 yX12_readsSum cX12_readsSum 1 (some .boolean) 0 := ⟨(TT_in 1664 (by decide +kernel) rfl), (TT_in 1666 (by decide +kernel) rfl), (TT_in 77 (by decide +kernel) rfl), (TT_in 101 (by decide +kernel) rfl), (TT_in 1667 (by decide +kernel) rfl), by decide, by decide +kernel, by decide⟩
set_option maxRecDepth 100000 in
theorem fl_X12_293_11 : FL RX12 293 11 25 (.int) false := ⟨RX12, "GearTeethModel", TX12, 30, tyX12, rfl, by decide, inT_X12, (TT_in 1270 (by decide +kernel) rfl), Or.inl rfl, tyX12_ok, nmX12, by decide +kernel, rfl, fun q => nomatch q⟩
set_option maxRecDepth 100000 in
theorem cw_X12_296_X12 : CV RX12 296 RX12 yX12_readsOr cX12_readsOr 1 (some .boolean) 0 := ⟨(TT_in 1652 (by decide +kernel) rfl), (TT_in 1654 (by decide +kernel) rfl), (TT_in 74 (by decide +kernel) rfl), (TT_in 101 (by decide +kernel) rfl), (TT_in 1655 (by decide +kernel) rfl), by decide, by decide +kernel, by decide⟩
set_option maxRecDepth 100000 in
theorem cw_X12_290_X12 : CV RX12 290 RX12 yX12_readsTest cX12_readsTest 1 (some .boolean) 0 := ⟨(TT_in 1660 (by decide +kernel) rfl), (TT_in 1662 (by decide +kernel) rfl), (TT_in 76 (by decide +kernel) rfl), (TT_in 101 (by decide +kernel) rfl), (TT_in 1663 (by decide +kernel) rfl), by decide, by decide +kernel, by decide⟩
set_option maxRecDepth 100000 in
theorem cw_X12_287_X12 : CV RX12 287 RX12 yX12_readsAnd cX12_readsAnd 1 (some .boolean) 0 := ⟨(TT_in 1656 (by decide +kernel) rfl), (TT_in 1658 (by decide +kernel) rfl), (TT_in 75 (by decide +kernel) rfl), (TT_in 101 (by decide +kernel) rfl), (TT_in 1659 (by decide +kernel) rfl), by decide, by decide +kernel, by decide⟩
set_option maxRecDepth 100000 in
theorem cw_X12_311_X12 : CV RX12 311 RX12 yX12_faultOf cX12_faultOf 3 (some .int) 1 := ⟨(TT_in 1648 (by decide +kernel) rfl), (TT_in 1650 (by decide +kernel) rfl), (TT_in 73 (by decide +kernel) rfl), (TT_in 101 (by decide +kernel) rfl), (TT_in 1651 (by decide +kernel) rfl), by decide, by decide +kernel, by decide⟩
set_option maxRecDepth 100000 in
theorem fl_X12_332_11 : FL RX12 332 11 26 (.int) false := ⟨RX12, "GearTeethModel", TX12, 30, tyX12, rfl, by decide, inT_X12, (TT_in 1271 (by decide +kernel) rfl), Or.inl rfl, tyX12_ok, nmX12, by decide +kernel, rfl, fun q => nomatch q⟩
set_option maxRecDepth 100000 in
theorem fl_X12_335_11 : FL RX12 335 11 27 (.int) false := ⟨RX12, "GearTeethModel", TX12, 30, tyX12, rfl, by decide, inT_X12, (TT_in 1272 (by decide +kernel) rfl), Or.inl rfl, tyX12_ok, nmX12, by decide +kernel, rfl, fun q => nomatch q⟩
set_option maxRecDepth 100000 in
theorem cw_X12_329_X12 : CV RX12 329 RX12 yX12_fieldOf cX12_fieldOf 4 (some .int) 1 := ⟨(TT_in 1714 (by decide +kernel) rfl), (TT_in 1716 (by decide +kernel) rfl), (TT_in 86 (by decide +kernel) rfl), (TT_in 101 (by decide +kernel) rfl), (TT_in 1717 (by decide +kernel) rfl), by decide, by decide +kernel, by decide⟩
set_option maxRecDepth 100000 in
theorem cw_X12_326_X12 : CV RX12 326 RX12 yX12_atom cX12_atom 3 (some .int) 0 := ⟨(TT_in 1710 (by decide +kernel) rfl), (TT_in 1712 (by decide +kernel) rfl), (TT_in 85 (by decide +kernel) rfl), (TT_in 101 (by decide +kernel) rfl), (TT_in 1713 (by decide +kernel) rfl), by decide, by decide +kernel, by decide⟩
set_option maxRecDepth 100000 in
theorem cw_X12_323_X12 : CV RX12 323 RX12 yX12_sum cX12_sum 4 (some .int) 0 := ⟨(TT_in 1706 (by decide +kernel) rfl), (TT_in 1708 (by decide +kernel) rfl), (TT_in 84 (by decide +kernel) rfl), (TT_in 101 (by decide +kernel) rfl), (TT_in 1709 (by decide +kernel) rfl), by decide, by decide +kernel, by decide⟩
set_option maxRecDepth 100000 in
theorem cw_X12_320_X12 : CV RX12 320 RX12 yX12_or cX12_or 3 (some .boolean) 0 := ⟨(TT_in 1694 (by decide +kernel) rfl), (TT_in 1696 (by decide +kernel) rfl), (TT_in 81 (by decide +kernel) rfl), (TT_in 101 (by decide +kernel) rfl), (TT_in 1697 (by decide +kernel) rfl), by decide, by decide +kernel, by decide⟩
set_option maxRecDepth 100000 in
theorem cw_X12_317_X12 : CV RX12 317 RX12 yX12_test cX12_test 4 (some .boolean) 0 := ⟨(TT_in 1702 (by decide +kernel) rfl), (TT_in 1704 (by decide +kernel) rfl), (TT_in 83 (by decide +kernel) rfl), (TT_in 101 (by decide +kernel) rfl), (TT_in 1705 (by decide +kernel) rfl), by decide, by decide +kernel, by decide⟩
set_option maxRecDepth 100000 in
theorem cw_X12_314_X12 : CV RX12 314 RX12 yX12_and cX12_and 3 (some .boolean) 0 := ⟨(TT_in 1698 (by decide +kernel) rfl), (TT_in 1700 (by decide +kernel) rfl), (TT_in 82 (by decide +kernel) rfl), (TT_in 101 (by decide +kernel) rfl), (TT_in 1701 (by decide +kernel) rfl), by decide, by decide +kernel, by decide⟩
set_option maxRecDepth 100000 in
theorem cw_X12_338_X12 : CV RX12 338 RX12 yX12_isRule cX12_isRule 2 (some .boolean) 1 := ⟨(TT_in 1686 (by decide +kernel) rfl), (TT_in 1688 (by decide +kernel) rfl), (TT_in 79 (by decide +kernel) rfl), (TT_in 101 (by decide +kernel) rfl), (TT_in 1689 (by decide +kernel) rfl), by decide, by decide +kernel, by decide⟩
set_option maxRecDepth 100000 in
theorem cw_X12_341_X12 : CV RX12 341 RX12 yX12_holdsFor cX12_holdsFor 4 (some .boolean) 3 := ⟨(TT_in 1690 (by decide +kernel) rfl), (TT_in 1692 (by decide +kernel) rfl), (TT_in 80 (by decide +kernel) rfl), (TT_in 101 (by decide +kernel) rfl), (TT_in 1693 (by decide +kernel) rfl), by decide, by decide +kernel, by decide⟩
set_option maxRecDepth 100000 in
theorem wc_X12_344 : Cond.constant RX12 344 (J (-1000000000)) ∈ TT := (TT_in 1730 (by decide +kernel) rfl)
set_option maxRecDepth 100000 in
theorem fl_X12_345_11 : FL RX12 345 11 10 (.boolean) false := ⟨RX12, "GearTeethModel", TX12, 30, tyX12, rfl, by decide, inT_X12, (TT_in 1255 (by decide +kernel) rfl), Or.inl rfl, tyX12_ok, nmX12, by decide +kernel, rfl, fun q => nomatch q⟩
set_option maxRecDepth 100000 in
theorem cw_X12_349_X12 : CV RX12 349 RX12 yX12_wrongKept cX12_wrongKept 2 (some .int) 1 := ⟨(TT_in 1771 (by decide +kernel) rfl), (TT_in 1773 (by decide +kernel) rfl), (TT_in 87 (by decide +kernel) rfl), (TT_in 101 (by decide +kernel) rfl), (TT_in 1774 (by decide +kernel) rfl), by decide, by decide +kernel, by decide⟩
