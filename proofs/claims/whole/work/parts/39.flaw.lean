set_option maxRecDepth 100000 in
theorem wn_L_8 : WN RL 8 10 [.null, .null, .null, .null, .null, .null, .null, .int 0, .null, .null, .null, .null, .null, .null, .null, .null] := ⟨RX11, TX11, 16, tyX11, rfl, inT_X11, tyX11_ok, (TT_in 110 (by decide +kernel) rfl), (TT_in 111 (by decide +kernel) rfl), (TT_in 89 (by decide +kernel) rfl), by decide +kernel, by decide, by decide⟩
set_option maxRecDepth 100000 in
theorem cw_L_17 : CI RL 17 yX11_init cX11_init 2 0 := ⟨(TT_in 112 (by decide +kernel) rfl), (TT_in 113 (by decide +kernel) rfl), (TT_in 89 (by decide +kernel) rfl), (TT_in 114 (by decide +kernel) rfl), by decide, by decide +kernel, by decide, rfl⟩
set_option maxRecDepth 100000 in
theorem wn_L_18 : WN RL 18 11 [.null, .null, .null, .null, .null, .null, .null, .null, .null, .null, .int 0, .int 0, .int 0, .int 0, .int 0, .int 0, .null, .null, .null, .null, .null, .null, .long 0, .long 0, .null, .int 0, .int 0, .int 0, .null, .null] := ⟨RX12, TX12, 30, tyX12, rfl, inT_X12, tyX12_ok, (TT_in 1239 (by decide +kernel) rfl), (TT_in 1240 (by decide +kernel) rfl), (TT_in 101 (by decide +kernel) rfl), by decide +kernel, by decide, by decide⟩
set_option maxRecDepth 100000 in
theorem cw_L_20 : CI RL 20 yX12_init cX12_init 1 0 := ⟨(TT_in 1241 (by decide +kernel) rfl), (TT_in 1242 (by decide +kernel) rfl), (TT_in 101 (by decide +kernel) rfl), (TT_in 1243 (by decide +kernel) rfl), by decide, by decide +kernel, by decide, rfl⟩
set_option maxRecDepth 100000 in
theorem cw_L_21_X11 : CV RL 21 RX11 yX11_text cX11_text 6 (some .int) 1 := ⟨(TT_in 450 (by decide +kernel) rfl), (TT_in 451 (by decide +kernel) rfl), (TT_in 452 (by decide +kernel) rfl), (TT_in 89 (by decide +kernel) rfl), (TT_in 453 (by decide +kernel) rfl), by decide, by decide +kernel, by decide⟩
set_option maxRecDepth 100000 in
theorem cw_L_25_X12 : CV RL 25 RX12 yX12_text cX12_text 8 (some .int) 1 := ⟨(TT_in 1340 (by decide +kernel) rfl), (TT_in 1341 (by decide +kernel) rfl), (TT_in 1342 (by decide +kernel) rfl), (TT_in 101 (by decide +kernel) rfl), (TT_in 1343 (by decide +kernel) rfl), by decide, by decide +kernel, by decide⟩
set_option maxRecDepth 100000 in
theorem cw_L_26_X11 : CV RL 26 RX11 yX11_gear cX11_gear 4 (some .int) 2 := ⟨(TT_in 571 (by decide +kernel) rfl), (TT_in 572 (by decide +kernel) rfl), (TT_in 573 (by decide +kernel) rfl), (TT_in 89 (by decide +kernel) rfl), (TT_in 574 (by decide +kernel) rfl), by decide, by decide +kernel, by decide⟩
set_option maxRecDepth 100000 in
theorem cw_L_30_X12 : CV RL 30 RX12 yX12_gear cX12_gear 3 (some .int) 2 := ⟨(TT_in 1405 (by decide +kernel) rfl), (TT_in 1406 (by decide +kernel) rfl), (TT_in 1407 (by decide +kernel) rfl), (TT_in 101 (by decide +kernel) rfl), (TT_in 1408 (by decide +kernel) rfl), by decide, by decide +kernel, by decide⟩
set_option maxRecDepth 100000 in
theorem cw_L_31_X11 : CV RL 31 RX11 yX11_width cX11_width 3 (some .int) 2 := ⟨(TT_in 608 (by decide +kernel) rfl), (TT_in 609 (by decide +kernel) rfl), (TT_in 610 (by decide +kernel) rfl), (TT_in 89 (by decide +kernel) rfl), (TT_in 611 (by decide +kernel) rfl), by decide, by decide +kernel, by decide⟩
set_option maxRecDepth 100000 in
theorem cw_L_34_X12 : CV RL 34 RX12 yX12_width cX12_width 3 (some .int) 2 := ⟨(TT_in 1433 (by decide +kernel) rfl), (TT_in 1434 (by decide +kernel) rfl), (TT_in 1435 (by decide +kernel) rfl), (TT_in 101 (by decide +kernel) rfl), (TT_in 1436 (by decide +kernel) rfl), by decide, by decide +kernel, by decide⟩
set_option maxRecDepth 100000 in
theorem cw_L_35_X11 : CV RL 35 RX11 yX11_mesh cX11_mesh 3 (some .int) 2 := ⟨(TT_in 612 (by decide +kernel) rfl), (TT_in 613 (by decide +kernel) rfl), (TT_in 614 (by decide +kernel) rfl), (TT_in 89 (by decide +kernel) rfl), (TT_in 615 (by decide +kernel) rfl), by decide, by decide +kernel, by decide⟩
set_option maxRecDepth 100000 in
theorem cw_L_38_X12 : CV RL 38 RX12 yX12_mesh cX12_mesh 3 (some .int) 2 := ⟨(TT_in 1438 (by decide +kernel) rfl), (TT_in 1439 (by decide +kernel) rfl), (TT_in 1440 (by decide +kernel) rfl), (TT_in 101 (by decide +kernel) rfl), (TT_in 1441 (by decide +kernel) rfl), by decide, by decide +kernel, by decide⟩
set_option maxRecDepth 100000 in
theorem cw_L_39_X11 : CV RL 39 RX11 yX11_locked cX11_locked 1 (some .int) 0 := ⟨(TT_in 620 (by decide +kernel) rfl), (TT_in 621 (by decide +kernel) rfl), (TT_in 622 (by decide +kernel) rfl), (TT_in 89 (by decide +kernel) rfl), (TT_in 623 (by decide +kernel) rfl), by decide, by decide +kernel, by decide⟩
set_option maxRecDepth 100000 in
theorem cw_L_43_X12 : CV RL 43 RX12 yX12_locked cX12_locked 1 (some .int) 0 := ⟨(TT_in 1447 (by decide +kernel) rfl), (TT_in 1448 (by decide +kernel) rfl), (TT_in 1449 (by decide +kernel) rfl), (TT_in 101 (by decide +kernel) rfl), (TT_in 1450 (by decide +kernel) rfl), by decide, by decide +kernel, by decide⟩
set_option maxRecDepth 100000 in
theorem cw_L_44_X11 : CV RL 44 RX11 yX11_speed cX11_speed 3 (some .long) 2 := ⟨(TT_in 656 (by decide +kernel) rfl), (TT_in 657 (by decide +kernel) rfl), (TT_in 658 (by decide +kernel) rfl), (TT_in 89 (by decide +kernel) rfl), (TT_in 659 (by decide +kernel) rfl), by decide, by decide +kernel, by decide⟩
set_option maxRecDepth 100000 in
theorem cw_L_47_X12 : CV RL 47 RX12 yX12_speed cX12_speed 3 (some .long) 2 := ⟨(TT_in 1471 (by decide +kernel) rfl), (TT_in 1472 (by decide +kernel) rfl), (TT_in 1473 (by decide +kernel) rfl), (TT_in 101 (by decide +kernel) rfl), (TT_in 1474 (by decide +kernel) rfl), by decide, by decide +kernel, by decide⟩
set_option maxRecDepth 100000 in
theorem cw_L_48_X11 : CV RL 48 RX11 yX11_hunt cX11_hunt 8 (some .int) 3 := ⟨(TT_in 675 (by decide +kernel) rfl), (TT_in 676 (by decide +kernel) rfl), (TT_in 677 (by decide +kernel) rfl), (TT_in 89 (by decide +kernel) rfl), (TT_in 678 (by decide +kernel) rfl), by decide, by decide +kernel, by decide⟩
set_option maxRecDepth 100000 in
theorem cw_L_52_X12 : CV RL 52 RX12 yX12_hunt cX12_hunt 5 (some .int) 3 := ⟨(TT_in 1478 (by decide +kernel) rfl), (TT_in 1479 (by decide +kernel) rfl), (TT_in 1480 (by decide +kernel) rfl), (TT_in 101 (by decide +kernel) rfl), (TT_in 1481 (by decide +kernel) rfl), by decide, by decide +kernel, by decide⟩
set_option maxRecDepth 100000 in
theorem cw_L_53_X11 : CV RL 53 RX11 yX11_planets cX11_planets 4 (some .int) 3 := ⟨(TT_in 680 (by decide +kernel) rfl), (TT_in 681 (by decide +kernel) rfl), (TT_in 682 (by decide +kernel) rfl), (TT_in 89 (by decide +kernel) rfl), (TT_in 683 (by decide +kernel) rfl), by decide, by decide +kernel, by decide⟩
set_option maxRecDepth 100000 in
theorem cw_L_56_X12 : CV RL 56 RX12 yX12_planets cX12_planets 4 (some .int) 3 := ⟨(TT_in 1482 (by decide +kernel) rfl), (TT_in 1483 (by decide +kernel) rfl), (TT_in 1484 (by decide +kernel) rfl), (TT_in 101 (by decide +kernel) rfl), (TT_in 1485 (by decide +kernel) rfl), by decide, by decide +kernel, by decide⟩
set_option maxRecDepth 100000 in
theorem cw_L_57_X11 : CV RL 57 RX11 yX11_most cX11_most 4 (some .int) 2 := ⟨(TT_in 690 (by decide +kernel) rfl), (TT_in 691 (by decide +kernel) rfl), (TT_in 692 (by decide +kernel) rfl), (TT_in 89 (by decide +kernel) rfl), (TT_in 693 (by decide +kernel) rfl), by decide, by decide +kernel, by decide⟩
set_option maxRecDepth 100000 in
theorem cw_L_60_X12 : CV RL 60 RX12 yX12_most cX12_most 4 (some .int) 2 := ⟨(TT_in 1492 (by decide +kernel) rfl), (TT_in 1493 (by decide +kernel) rfl), (TT_in 1494 (by decide +kernel) rfl), (TT_in 101 (by decide +kernel) rfl), (TT_in 1495 (by decide +kernel) rfl), by decide, by decide +kernel, by decide⟩
set_option maxRecDepth 100000 in
theorem cw_L_61_X11 : CV RL 61 RX11 yX11_cut cX11_cut 7 (some .int) 3 := ⟨(TT_in 694 (by decide +kernel) rfl), (TT_in 695 (by decide +kernel) rfl), (TT_in 696 (by decide +kernel) rfl), (TT_in 89 (by decide +kernel) rfl), (TT_in 697 (by decide +kernel) rfl), by decide, by decide +kernel, by decide⟩
set_option maxRecDepth 100000 in
theorem cw_L_64_X12 : CV RL 64 RX12 yX12_cut cX12_cut 7 (some .int) 3 := ⟨(TT_in 1496 (by decide +kernel) rfl), (TT_in 1497 (by decide +kernel) rfl), (TT_in 1498 (by decide +kernel) rfl), (TT_in 101 (by decide +kernel) rfl), (TT_in 1499 (by decide +kernel) rfl), by decide, by decide +kernel, by decide⟩
set_option maxRecDepth 100000 in
theorem cw_L_65_X11 : CV RL 65 RX11 yX11_off cX11_off 3 (some .int) 2 := ⟨(TT_in 720 (by decide +kernel) rfl), (TT_in 721 (by decide +kernel) rfl), (TT_in 722 (by decide +kernel) rfl), (TT_in 89 (by decide +kernel) rfl), (TT_in 723 (by decide +kernel) rfl), by decide, by decide +kernel, by decide⟩
set_option maxRecDepth 100000 in
theorem cw_L_68_X12 : CV RL 68 RX12 yX12_off cX12_off 3 (some .int) 2 := ⟨(TT_in 1514 (by decide +kernel) rfl), (TT_in 1515 (by decide +kernel) rfl), (TT_in 1516 (by decide +kernel) rfl), (TT_in 101 (by decide +kernel) rfl), (TT_in 1517 (by decide +kernel) rfl), by decide, by decide +kernel, by decide⟩
set_option maxRecDepth 100000 in
theorem cw_L_69_X11 : CV RL 69 RX11 yX11_touch cX11_touch 3 (some .int) 2 := ⟨(TT_in 748 (by decide +kernel) rfl), (TT_in 749 (by decide +kernel) rfl), (TT_in 750 (by decide +kernel) rfl), (TT_in 89 (by decide +kernel) rfl), (TT_in 751 (by decide +kernel) rfl), by decide, by decide +kernel, by decide⟩
set_option maxRecDepth 100000 in
theorem cw_L_72_X12 : CV RL 72 RX12 yX12_touch cX12_touch 3 (some .int) 2 := ⟨(TT_in 1535 (by decide +kernel) rfl), (TT_in 1536 (by decide +kernel) rfl), (TT_in 1537 (by decide +kernel) rfl), (TT_in 101 (by decide +kernel) rfl), (TT_in 1538 (by decide +kernel) rfl), by decide, by decide +kernel, by decide⟩
set_option maxRecDepth 100000 in
theorem cw_L_73_X11 : CV RL 73 RX11 yX11_jam cX11_jam 2 (some .int) 1 := ⟨(TT_in 753 (by decide +kernel) rfl), (TT_in 754 (by decide +kernel) rfl), (TT_in 755 (by decide +kernel) rfl), (TT_in 89 (by decide +kernel) rfl), (TT_in 756 (by decide +kernel) rfl), by decide, by decide +kernel, by decide⟩
set_option maxRecDepth 100000 in
theorem cw_L_76_X12 : CV RL 76 RX12 yX12_jam cX12_jam 2 (some .int) 1 := ⟨(TT_in 1539 (by decide +kernel) rfl), (TT_in 1540 (by decide +kernel) rfl), (TT_in 1541 (by decide +kernel) rfl), (TT_in 101 (by decide +kernel) rfl), (TT_in 1542 (by decide +kernel) rfl), by decide, by decide +kernel, by decide⟩
set_option maxRecDepth 100000 in
theorem cw_L_77_X11 : CV RL 77 RX11 yX11_gap cX11_gap 2 (some .int) 1 := ⟨(TT_in 761 (by decide +kernel) rfl), (TT_in 762 (by decide +kernel) rfl), (TT_in 763 (by decide +kernel) rfl), (TT_in 89 (by decide +kernel) rfl), (TT_in 764 (by decide +kernel) rfl), by decide, by decide +kernel, by decide⟩
set_option maxRecDepth 100000 in
theorem cw_L_80_X12 : CV RL 80 RX12 yX12_gap cX12_gap 2 (some .int) 1 := ⟨(TT_in 1547 (by decide +kernel) rfl), (TT_in 1548 (by decide +kernel) rfl), (TT_in 1549 (by decide +kernel) rfl), (TT_in 101 (by decide +kernel) rfl), (TT_in 1550 (by decide +kernel) rfl), by decide, by decide +kernel, by decide⟩
set_option maxRecDepth 100000 in
theorem cw_L_81_X11 : CV RL 81 RX11 yX11_even cX11_even 2 (some .int) 1 := ⟨(TT_in 770 (by decide +kernel) rfl), (TT_in 771 (by decide +kernel) rfl), (TT_in 772 (by decide +kernel) rfl), (TT_in 89 (by decide +kernel) rfl), (TT_in 773 (by decide +kernel) rfl), by decide, by decide +kernel, by decide⟩
set_option maxRecDepth 100000 in
theorem cw_L_84_X12 : CV RL 84 RX12 yX12_even cX12_even 2 (some .int) 1 := ⟨(TT_in 1555 (by decide +kernel) rfl), (TT_in 1556 (by decide +kernel) rfl), (TT_in 1557 (by decide +kernel) rfl), (TT_in 101 (by decide +kernel) rfl), (TT_in 1558 (by decide +kernel) rfl), by decide, by decide +kernel, by decide⟩
set_option maxRecDepth 100000 in
theorem cw_L_85_X11 : CV RL 85 RX11 yX11_room cX11_room 4 (some .int) 2 := ⟨(TT_in 780 (by decide +kernel) rfl), (TT_in 781 (by decide +kernel) rfl), (TT_in 782 (by decide +kernel) rfl), (TT_in 89 (by decide +kernel) rfl), (TT_in 783 (by decide +kernel) rfl), by decide, by decide +kernel, by decide⟩
set_option maxRecDepth 100000 in
theorem cw_L_88_X12 : CV RL 88 RX12 yX12_room cX12_room 4 (some .int) 2 := ⟨(TT_in 1563 (by decide +kernel) rfl), (TT_in 1564 (by decide +kernel) rfl), (TT_in 1565 (by decide +kernel) rfl), (TT_in 101 (by decide +kernel) rfl), (TT_in 1566 (by decide +kernel) rfl), by decide, by decide +kernel, by decide⟩
set_option maxRecDepth 100000 in
theorem cw_L_89_X11 : CV RL 89 RX11 yX11_wear cX11_wear 5 (some .int) 3 := ⟨(TT_in 784 (by decide +kernel) rfl), (TT_in 785 (by decide +kernel) rfl), (TT_in 786 (by decide +kernel) rfl), (TT_in 89 (by decide +kernel) rfl), (TT_in 787 (by decide +kernel) rfl), by decide, by decide +kernel, by decide⟩
set_option maxRecDepth 100000 in
theorem cw_L_92_X12 : CV RL 92 RX12 yX12_wear cX12_wear 5 (some .int) 3 := ⟨(TT_in 1568 (by decide +kernel) rfl), (TT_in 1569 (by decide +kernel) rfl), (TT_in 1570 (by decide +kernel) rfl), (TT_in 101 (by decide +kernel) rfl), (TT_in 1571 (by decide +kernel) rfl), by decide, by decide +kernel, by decide⟩
set_option maxRecDepth 100000 in
theorem cw_L_93_X11 : CV RL 93 RX11 yX11_until cX11_until 5 (some .int) 3 := ⟨(TT_in 801 (by decide +kernel) rfl), (TT_in 802 (by decide +kernel) rfl), (TT_in 803 (by decide +kernel) rfl), (TT_in 89 (by decide +kernel) rfl), (TT_in 804 (by decide +kernel) rfl), by decide, by decide +kernel, by decide⟩
set_option maxRecDepth 100000 in
theorem cw_L_96_X12 : CV RL 96 RX12 yX12_until cX12_until 6 (some .int) 3 := ⟨(TT_in 1582 (by decide +kernel) rfl), (TT_in 1583 (by decide +kernel) rfl), (TT_in 1584 (by decide +kernel) rfl), (TT_in 101 (by decide +kernel) rfl), (TT_in 1585 (by decide +kernel) rfl), by decide, by decide +kernel, by decide⟩
set_option maxRecDepth 100000 in
theorem cw_L_97_X11 : CV RL 97 RX11 yX11_loud cX11_loud 3 (some .long) 2 := ⟨(TT_in 810 (by decide +kernel) rfl), (TT_in 811 (by decide +kernel) rfl), (TT_in 812 (by decide +kernel) rfl), (TT_in 89 (by decide +kernel) rfl), (TT_in 813 (by decide +kernel) rfl), by decide, by decide +kernel, by decide⟩
set_option maxRecDepth 100000 in
theorem cw_L_100_X12 : CV RL 100 RX12 yX12_loud cX12_loud 3 (some .long) 2 := ⟨(TT_in 1594 (by decide +kernel) rfl), (TT_in 1595 (by decide +kernel) rfl), (TT_in 1596 (by decide +kernel) rfl), (TT_in 101 (by decide +kernel) rfl), (TT_in 1597 (by decide +kernel) rfl), by decide, by decide +kernel, by decide⟩
set_option maxRecDepth 100000 in
theorem cw_L_101_X11 : CV RL 101 RX11 yX11_whine cX11_whine 2 (some .int) 1 := ⟨(TT_in 822 (by decide +kernel) rfl), (TT_in 823 (by decide +kernel) rfl), (TT_in 824 (by decide +kernel) rfl), (TT_in 89 (by decide +kernel) rfl), (TT_in 825 (by decide +kernel) rfl), by decide, by decide +kernel, by decide⟩
set_option maxRecDepth 100000 in
theorem cw_L_104_X12 : CV RL 104 RX12 yX12_whine cX12_whine 2 (some .int) 1 := ⟨(TT_in 1604 (by decide +kernel) rfl), (TT_in 1605 (by decide +kernel) rfl), (TT_in 1606 (by decide +kernel) rfl), (TT_in 101 (by decide +kernel) rfl), (TT_in 1607 (by decide +kernel) rfl), by decide, by decide +kernel, by decide⟩
set_option maxRecDepth 100000 in
theorem cw_L_105_X11 : CV RL 105 RX11 yX11_pair cX11_pair 3 (some .int) 2 := ⟨(TT_in 831 (by decide +kernel) rfl), (TT_in 832 (by decide +kernel) rfl), (TT_in 833 (by decide +kernel) rfl), (TT_in 89 (by decide +kernel) rfl), (TT_in 834 (by decide +kernel) rfl), by decide, by decide +kernel, by decide⟩
set_option maxRecDepth 100000 in
theorem cw_L_108_X12 : CV RL 108 RX12 yX12_pair cX12_pair 3 (some .int) 2 := ⟨(TT_in 1612 (by decide +kernel) rfl), (TT_in 1613 (by decide +kernel) rfl), (TT_in 1614 (by decide +kernel) rfl), (TT_in 101 (by decide +kernel) rfl), (TT_in 1615 (by decide +kernel) rfl), by decide, by decide +kernel, by decide⟩
set_option maxRecDepth 100000 in
theorem cw_L_109_X11 : CV RL 109 RX11 yX11_clear cX11_clear 2 (some .int) 0 := ⟨(TT_in 839 (by decide +kernel) rfl), (TT_in 840 (by decide +kernel) rfl), (TT_in 841 (by decide +kernel) rfl), (TT_in 89 (by decide +kernel) rfl), (TT_in 842 (by decide +kernel) rfl), by decide, by decide +kernel, by decide⟩
set_option maxRecDepth 100000 in
theorem cw_L_112_X12 : CV RL 112 RX12 yX12_clear cX12_clear 2 (some .int) 0 := ⟨(TT_in 1616 (by decide +kernel) rfl), (TT_in 1617 (by decide +kernel) rfl), (TT_in 1618 (by decide +kernel) rfl), (TT_in 101 (by decide +kernel) rfl), (TT_in 1619 (by decide +kernel) rfl), by decide, by decide +kernel, by decide⟩
set_option maxRecDepth 100000 in
theorem cw_L_113_X11 : CV RL 113 RX11 yX11_pushed cX11_pushed 2 (some .int) 1 := ⟨(TT_in 843 (by decide +kernel) rfl), (TT_in 844 (by decide +kernel) rfl), (TT_in 845 (by decide +kernel) rfl), (TT_in 89 (by decide +kernel) rfl), (TT_in 846 (by decide +kernel) rfl), by decide, by decide +kernel, by decide⟩
set_option maxRecDepth 100000 in
theorem cw_L_116_X12 : CV RL 116 RX12 yX12_pushed cX12_pushed 2 (some .int) 1 := ⟨(TT_in 1620 (by decide +kernel) rfl), (TT_in 1621 (by decide +kernel) rfl), (TT_in 1622 (by decide +kernel) rfl), (TT_in 101 (by decide +kernel) rfl), (TT_in 1623 (by decide +kernel) rfl), by decide, by decide +kernel, by decide⟩
set_option maxRecDepth 100000 in
theorem cw_L_117_X11 : CV RL 117 RX11 yX11_share cX11_share 4 (some .int) 2 := ⟨(TT_in 863 (by decide +kernel) rfl), (TT_in 864 (by decide +kernel) rfl), (TT_in 865 (by decide +kernel) rfl), (TT_in 89 (by decide +kernel) rfl), (TT_in 866 (by decide +kernel) rfl), by decide, by decide +kernel, by decide⟩
set_option maxRecDepth 100000 in
theorem cw_L_120_X12 : CV RL 120 RX12 yX12_share cX12_share 4 (some .int) 2 := ⟨(TT_in 1636 (by decide +kernel) rfl), (TT_in 1637 (by decide +kernel) rfl), (TT_in 1638 (by decide +kernel) rfl), (TT_in 101 (by decide +kernel) rfl), (TT_in 1639 (by decide +kernel) rfl), by decide, by decide +kernel, by decide⟩
set_option maxRecDepth 100000 in
theorem cw_L_121_X11 : CV RL 121 RX11 yX11_bearing cX11_bearing 3 (some .int) 1 := ⟨(TT_in 868 (by decide +kernel) rfl), (TT_in 869 (by decide +kernel) rfl), (TT_in 870 (by decide +kernel) rfl), (TT_in 89 (by decide +kernel) rfl), (TT_in 871 (by decide +kernel) rfl), by decide, by decide +kernel, by decide⟩
set_option maxRecDepth 100000 in
theorem cw_L_124_X12 : CV RL 124 RX12 yX12_bearing cX12_bearing 5 (some .int) 1 := ⟨(TT_in 1640 (by decide +kernel) rfl), (TT_in 1641 (by decide +kernel) rfl), (TT_in 1642 (by decide +kernel) rfl), (TT_in 101 (by decide +kernel) rfl), (TT_in 1643 (by decide +kernel) rfl), by decide, by decide +kernel, by decide⟩
set_option maxRecDepth 100000 in
theorem cw_L_125_X11 : CV RL 125 RX11 yX11_fault cX11_fault 3 (some .int) 1 := ⟨(TT_in 876 (by decide +kernel) rfl), (TT_in 877 (by decide +kernel) rfl), (TT_in 878 (by decide +kernel) rfl), (TT_in 89 (by decide +kernel) rfl), (TT_in 879 (by decide +kernel) rfl), by decide, by decide +kernel, by decide⟩
set_option maxRecDepth 100000 in
theorem cw_L_128_X12 : CV RL 128 RX12 yX12_fault cX12_fault 3 (some .int) 1 := ⟨(TT_in 1644 (by decide +kernel) rfl), (TT_in 1645 (by decide +kernel) rfl), (TT_in 1646 (by decide +kernel) rfl), (TT_in 101 (by decide +kernel) rfl), (TT_in 1647 (by decide +kernel) rfl), by decide, by decide +kernel, by decide⟩
set_option maxRecDepth 100000 in
theorem cw_L_129_X11 : CV RL 129 RX11 yX11_rule cX11_rule 4 (some .int) 1 := ⟨(TT_in 925 (by decide +kernel) rfl), (TT_in 926 (by decide +kernel) rfl), (TT_in 927 (by decide +kernel) rfl), (TT_in 89 (by decide +kernel) rfl), (TT_in 928 (by decide +kernel) rfl), by decide, by decide +kernel, by decide⟩
set_option maxRecDepth 100000 in
theorem cw_L_132_X12 : CV RL 132 RX12 yX12_rule cX12_rule 6 (some .int) 1 := ⟨(TT_in 1678 (by decide +kernel) rfl), (TT_in 1679 (by decide +kernel) rfl), (TT_in 1680 (by decide +kernel) rfl), (TT_in 101 (by decide +kernel) rfl), (TT_in 1681 (by decide +kernel) rfl), by decide, by decide +kernel, by decide⟩
set_option maxRecDepth 100000 in
theorem cw_L_133_X11 : CV RL 133 RX11 yX11_holds cX11_holds 3 (some .int) 2 := ⟨(TT_in 934 (by decide +kernel) rfl), (TT_in 935 (by decide +kernel) rfl), (TT_in 936 (by decide +kernel) rfl), (TT_in 89 (by decide +kernel) rfl), (TT_in 937 (by decide +kernel) rfl), by decide, by decide +kernel, by decide⟩
set_option maxRecDepth 100000 in
theorem cw_L_136_X12 : CV RL 136 RX12 yX12_holds cX12_holds 3 (some .int) 2 := ⟨(TT_in 1682 (by decide +kernel) rfl), (TT_in 1683 (by decide +kernel) rfl), (TT_in 1684 (by decide +kernel) rfl), (TT_in 101 (by decide +kernel) rfl), (TT_in 1685 (by decide +kernel) rfl), by decide, by decide +kernel, by decide⟩
set_option maxRecDepth 100000 in
theorem cw_L_137_X11 : CV RL 137 RX11 yX11_watch cX11_watch 5 (some .int) 3 := ⟨(TT_in 953 (by decide +kernel) rfl), (TT_in 954 (by decide +kernel) rfl), (TT_in 955 (by decide +kernel) rfl), (TT_in 89 (by decide +kernel) rfl), (TT_in 956 (by decide +kernel) rfl), by decide, by decide +kernel, by decide⟩
set_option maxRecDepth 100000 in
theorem cw_L_140_X12 : CV RL 140 RX12 yX12_watch cX12_watch 6 (some .int) 3 := ⟨(TT_in 1718 (by decide +kernel) rfl), (TT_in 1719 (by decide +kernel) rfl), (TT_in 1720 (by decide +kernel) rfl), (TT_in 101 (by decide +kernel) rfl), (TT_in 1721 (by decide +kernel) rfl), by decide, by decide +kernel, by decide⟩
set_option maxRecDepth 100000 in
theorem cw_L_141_X11 : CV RL 141 RX11 yX11_ear cX11_ear 5 (some .int) 2 := ⟨(TT_in 957 (by decide +kernel) rfl), (TT_in 958 (by decide +kernel) rfl), (TT_in 959 (by decide +kernel) rfl), (TT_in 89 (by decide +kernel) rfl), (TT_in 960 (by decide +kernel) rfl), by decide, by decide +kernel, by decide⟩
set_option maxRecDepth 100000 in
theorem cw_L_144_X12 : CV RL 144 RX12 yX12_ear cX12_ear 13 (some .int) 2 := ⟨(TT_in 1722 (by decide +kernel) rfl), (TT_in 1723 (by decide +kernel) rfl), (TT_in 1724 (by decide +kernel) rfl), (TT_in 101 (by decide +kernel) rfl), (TT_in 1725 (by decide +kernel) rfl), by decide, by decide +kernel, by decide⟩
set_option maxRecDepth 100000 in
theorem cw_L_145_X11 : CV RL 145 RX11 yX11_bestShift cX11_bestShift 9 (some .int) 3 := ⟨(TT_in 1015 (by decide +kernel) rfl), (TT_in 1016 (by decide +kernel) rfl), (TT_in 1017 (by decide +kernel) rfl), (TT_in 89 (by decide +kernel) rfl), (TT_in 1018 (by decide +kernel) rfl), by decide, by decide +kernel, by decide⟩
set_option maxRecDepth 100000 in
theorem cw_L_148_X12 : CV RL 148 RX12 yX12_bestShift cX12_bestShift 9 (some .int) 3 := ⟨(TT_in 1726 (by decide +kernel) rfl), (TT_in 1727 (by decide +kernel) rfl), (TT_in 1728 (by decide +kernel) rfl), (TT_in 101 (by decide +kernel) rfl), (TT_in 1729 (by decide +kernel) rfl), by decide, by decide +kernel, by decide⟩
set_option maxRecDepth 100000 in
theorem cw_L_149_X11 : CV RL 149 RX11 yX11_readBack cX11_readBack 8 (some .int) 4 := ⟨(TT_in 1020 (by decide +kernel) rfl), (TT_in 1021 (by decide +kernel) rfl), (TT_in 1022 (by decide +kernel) rfl), (TT_in 89 (by decide +kernel) rfl), (TT_in 1023 (by decide +kernel) rfl), by decide, by decide +kernel, by decide⟩
set_option maxRecDepth 100000 in
theorem cw_L_153_X12 : CV RL 153 RX12 yX12_readBack cX12_readBack 10 (some .int) 4 := ⟨(TT_in 1731 (by decide +kernel) rfl), (TT_in 1732 (by decide +kernel) rfl), (TT_in 1733 (by decide +kernel) rfl), (TT_in 101 (by decide +kernel) rfl), (TT_in 1734 (by decide +kernel) rfl), by decide, by decide +kernel, by decide⟩
set_option maxRecDepth 100000 in
theorem cw_L_154_X11 : CV RL 154 RX11 yX11_image cX11_image 1 (some .int) 0 := ⟨(TT_in 1028 (by decide +kernel) rfl), (TT_in 1029 (by decide +kernel) rfl), (TT_in 1030 (by decide +kernel) rfl), (TT_in 89 (by decide +kernel) rfl), (TT_in 1031 (by decide +kernel) rfl), by decide, by decide +kernel, by decide⟩
set_option maxRecDepth 100000 in
theorem cw_L_157_X12 : CV RL 157 RX12 yX12_image cX12_image 2 (some .int) 0 := ⟨(TT_in 1735 (by decide +kernel) rfl), (TT_in 1736 (by decide +kernel) rfl), (TT_in 1737 (by decide +kernel) rfl), (TT_in 101 (by decide +kernel) rfl), (TT_in 1738 (by decide +kernel) rfl), by decide, by decide +kernel, by decide⟩
set_option maxRecDepth 100000 in
theorem cw_L_158_X11 : CV RL 158 RX11 yX11_restore cX11_restore 1 (some .int) 0 := ⟨(TT_in 1042 (by decide +kernel) rfl), (TT_in 1043 (by decide +kernel) rfl), (TT_in 1044 (by decide +kernel) rfl), (TT_in 89 (by decide +kernel) rfl), (TT_in 1045 (by decide +kernel) rfl), by decide, by decide +kernel, by decide⟩
set_option maxRecDepth 100000 in
theorem cw_L_161_X12 : CV RL 161 RX12 yX12_restore cX12_restore 2 (some .int) 0 := ⟨(TT_in 1739 (by decide +kernel) rfl), (TT_in 1740 (by decide +kernel) rfl), (TT_in 1741 (by decide +kernel) rfl), (TT_in 101 (by decide +kernel) rfl), (TT_in 1742 (by decide +kernel) rfl), by decide, by decide +kernel, by decide⟩
set_option maxRecDepth 100000 in
theorem cw_L_162_X11 : CV RL 162 RX11 yX11_count cX11_count 2 (some .int) 1 := ⟨(TT_in 1046 (by decide +kernel) rfl), (TT_in 1047 (by decide +kernel) rfl), (TT_in 1048 (by decide +kernel) rfl), (TT_in 89 (by decide +kernel) rfl), (TT_in 1049 (by decide +kernel) rfl), by decide, by decide +kernel, by decide⟩
set_option maxRecDepth 100000 in
theorem cw_L_165_X12 : CV RL 165 RX12 yX12_count cX12_count 5 (some .int) 1 := ⟨(TT_in 1743 (by decide +kernel) rfl), (TT_in 1744 (by decide +kernel) rfl), (TT_in 1745 (by decide +kernel) rfl), (TT_in 101 (by decide +kernel) rfl), (TT_in 1746 (by decide +kernel) rfl), by decide, by decide +kernel, by decide⟩
set_option maxRecDepth 100000 in
theorem cw_L_166_X11 : CV RL 166 RX11 yX11_keep cX11_keep 4 (some .int) 3 := ⟨(TT_in 1068 (by decide +kernel) rfl), (TT_in 1069 (by decide +kernel) rfl), (TT_in 1070 (by decide +kernel) rfl), (TT_in 89 (by decide +kernel) rfl), (TT_in 1071 (by decide +kernel) rfl), by decide, by decide +kernel, by decide⟩
set_option maxRecDepth 100000 in
theorem cw_L_169_X12 : CV RL 169 RX12 yX12_keep cX12_keep 6 (some .int) 3 := ⟨(TT_in 1747 (by decide +kernel) rfl), (TT_in 1748 (by decide +kernel) rfl), (TT_in 1749 (by decide +kernel) rfl), (TT_in 101 (by decide +kernel) rfl), (TT_in 1750 (by decide +kernel) rfl), by decide, by decide +kernel, by decide⟩
set_option maxRecDepth 100000 in
theorem cw_L_170_X11 : CV RL 170 RX11 yX11_row cX11_row 4 (some .int) 3 := ⟨(TT_in 1081 (by decide +kernel) rfl), (TT_in 1082 (by decide +kernel) rfl), (TT_in 1083 (by decide +kernel) rfl), (TT_in 89 (by decide +kernel) rfl), (TT_in 1084 (by decide +kernel) rfl), by decide, by decide +kernel, by decide⟩
set_option maxRecDepth 100000 in
theorem cw_L_173_X12 : CV RL 173 RX12 yX12_row cX12_row 5 (some .int) 3 := ⟨(TT_in 1751 (by decide +kernel) rfl), (TT_in 1752 (by decide +kernel) rfl), (TT_in 1753 (by decide +kernel) rfl), (TT_in 101 (by decide +kernel) rfl), (TT_in 1754 (by decide +kernel) rfl), by decide, by decide +kernel, by decide⟩
set_option maxRecDepth 100000 in
theorem cw_L_174_X11 : CV RL 174 RX11 yX11_put cX11_put 6 (some .int) 3 := ⟨(TT_in 1090 (by decide +kernel) rfl), (TT_in 1091 (by decide +kernel) rfl), (TT_in 1092 (by decide +kernel) rfl), (TT_in 89 (by decide +kernel) rfl), (TT_in 1093 (by decide +kernel) rfl), by decide, by decide +kernel, by decide⟩
set_option maxRecDepth 100000 in
theorem cw_L_177_X12 : CV RL 177 RX12 yX12_put cX12_put 5 (some .int) 3 := ⟨(TT_in 1755 (by decide +kernel) rfl), (TT_in 1756 (by decide +kernel) rfl), (TT_in 1757 (by decide +kernel) rfl), (TT_in 101 (by decide +kernel) rfl), (TT_in 1758 (by decide +kernel) rfl), by decide, by decide +kernel, by decide⟩
set_option maxRecDepth 100000 in
theorem cw_L_178 : CSY RL 178 yL_element cL_element 5 (some .int) [(0, 9, 12, 13), (0, 9, 16, 15)] 4 := ⟨(TT_in 1212 (by decide +kernel) rfl), (TT_in 1213 (by decide +kernel) rfl), (TT_in 88 (by decide +kernel) rfl), (TT_in 1214 (by decide +kernel) rfl), by decide, by decide +kernel, by decide⟩
set_option maxRecDepth 100000 in
theorem cw_L_183_X12 : CV RL 183 RX12 yX12_element cX12_element 3 (some .long) 2 := ⟨(TT_in 1759 (by decide +kernel) rfl), (TT_in 1760 (by decide +kernel) rfl), (TT_in 1761 (by decide +kernel) rfl), (TT_in 101 (by decide +kernel) rfl), (TT_in 1762 (by decide +kernel) rfl), by decide, by decide +kernel, by decide⟩
set_option maxRecDepth 100000 in
theorem cw_L_184_X12 : CV RL 184 RX12 yX12_thrown cX12_thrown 1 (some .int) 0 := ⟨(TT_in 1336 (by decide +kernel) rfl), (TT_in 1337 (by decide +kernel) rfl), (TT_in 1338 (by decide +kernel) rfl), (TT_in 101 (by decide +kernel) rfl), (TT_in 1339 (by decide +kernel) rfl), by decide, by decide +kernel, by decide⟩
set_option maxRecDepth 100000 in
theorem cw_L_187_X11 : CV RL 187 RX11 yX11_copy cX11_copy 8 (some .int) 5 := ⟨(TT_in 1106 (by decide +kernel) rfl), (TT_in 1107 (by decide +kernel) rfl), (TT_in 1108 (by decide +kernel) rfl), (TT_in 89 (by decide +kernel) rfl), (TT_in 1109 (by decide +kernel) rfl), by decide, by decide +kernel, by decide⟩
set_option maxRecDepth 100000 in
theorem cw_L_191_X12 : CV RL 191 RX12 yX12_copy cX12_copy 8 (some .int) 5 := ⟨(TT_in 1763 (by decide +kernel) rfl), (TT_in 1764 (by decide +kernel) rfl), (TT_in 1765 (by decide +kernel) rfl), (TT_in 101 (by decide +kernel) rfl), (TT_in 1766 (by decide +kernel) rfl), by decide, by decide +kernel, by decide⟩
set_option maxRecDepth 100000 in
theorem cw_L_192_X11 : CV RL 192 RX11 yX11_weight cX11_weight 3 (some .int) 1 := ⟨(TT_in 1117 (by decide +kernel) rfl), (TT_in 1118 (by decide +kernel) rfl), (TT_in 1119 (by decide +kernel) rfl), (TT_in 89 (by decide +kernel) rfl), (TT_in 1120 (by decide +kernel) rfl), by decide, by decide +kernel, by decide⟩
set_option maxRecDepth 100000 in
theorem cw_L_195_X12 : CV RL 195 RX12 yX12_weight cX12_weight 3 (some .int) 1 := ⟨(TT_in 1767 (by decide +kernel) rfl), (TT_in 1768 (by decide +kernel) rfl), (TT_in 1769 (by decide +kernel) rfl), (TT_in 101 (by decide +kernel) rfl), (TT_in 1770 (by decide +kernel) rfl), by decide, by decide +kernel, by decide⟩
set_option maxRecDepth 100000 in
theorem cw_L_196_X11 : CVY RL 196 RX11 yX11_toss cX11_toss 4 (some .int) [(25, 37, 40, 393)] 1 := ⟨(TT_in 1132 (by decide +kernel) rfl), (TT_in 1133 (by decide +kernel) rfl), (TT_in 1134 (by decide +kernel) rfl), (TT_in 89 (by decide +kernel) rfl), (TT_in 1135 (by decide +kernel) rfl), by decide, by decide +kernel, by decide⟩
set_option maxRecDepth 100000 in
theorem cw_L_199_X12 : CV RL 199 RX12 yX12_toss cX12_toss 3 (some .int) 1 := ⟨(TT_in 1775 (by decide +kernel) rfl), (TT_in 1776 (by decide +kernel) rfl), (TT_in 1777 (by decide +kernel) rfl), (TT_in 101 (by decide +kernel) rfl), (TT_in 1778 (by decide +kernel) rfl), by decide, by decide +kernel, by decide⟩
theorem law_x {L : Nat} {xs : Nat → Int32} {i v : Int32} {x : Nat} (hL : L ≤ 3072) (h : aX L xs i = some v) (hx : 6 * (x : Int) ≤ i.toInt) : x + 1 ≤ 512 := by
  unfold aX at h
  split at h
  · rename_i q
    omega
  · cases h
theorem law_s1 {L : Nat} {xs : Nat → Int32} {i v k : Int32} {x : Nat} (hL : L ≤ 3072) (h : aX L xs i = some v) (e : some (i + J 6) = some k) (hx : 6 * (x : Int) ≤ i.toInt) : 6 * ((x + 1 : Nat) : Int) ≤ k.toInt := by
  unfold aX at h
  split at h
  · rename_i q
    have e := Option.some.inj e
    have h6 : (J 6).toInt = 6 := by decide
    have hk : k.toInt = i.toInt + 6 := by
      rw [← e, Int32.toInt_add, h6, Int.bmod_eq_of_le (by omega) (by omega)]
    omega
  · cases h
theorem law_s0 {L : Nat} {xs : Nat → Int32} {i v k : Int32} {x : Nat} (hL : L ≤ 3072) (h : aX L xs i = some v) (e : some (i + J 6) = some k) (hx : 6 * (x : Int) ≤ i.toInt) : 6 * (x : Int) ≤ k.toInt := by
  have := law_s1 hL h e hx
  omega
def FLaw (b : Nat) : Zc → Prop
  | (_, _, _, Rm, s, _, args, below, meth, c, _, _, _, _, _, z0, F) => Rm = room_1 ∧ args = #[Value.ref b] ∧ F = lw_Z below #[Value.ref b] s ∧ meth.sig.returnType = ret ∧ z0 = s.heap.size ∧ c.code = code
theorem r_lawret {Z : Zc} {nL d : Nat} (hZ : Fx cL_law RL nL d 512 Z) {b pc n x : Nat} {ls : List (Nat × Value)} {h : Hp} (hF : FLaw b Z) (hd : decode cL_law pc = .ok (.ireturn, 1)) (hx : x ≤ 512) : R Z pc ls [.int (J 1)] n h x := by
  obtain ⟨p, l, e, Rm, s, m, args, below, meth, c, D, cA, ad0, n0, N1, z0, F⟩ := Z
  obtain ⟨hx, hb, hml, hown, hts, hK, hSt, hz, hlk, hN, hd1, hd2, hc1, hs1⟩ := hZ
  obtain ⟨rfl, rfl, rfl, hr, rfl, hcc⟩ := hF
  intro ad H locs la ha h1 h2 hl0 hs0 hR hS hl
  have hc2 : (N1 - n0) + 512 ≤ 601024 := hc1
  have hs2 : 1744 * (N1 - n0) + 8 * 512 ≤ 7293034 := hs1
  refine va_forget (fun q hq => hS.2.2 q hq) (W.widen (k := 601024) (n := 7293034) (by omega) (by omega) ?_)
  exact lw_ret hx hb hr hlk hd
def b_L_law (L : Nat) (xs : Nat → Int32) (p1 p2 p3 : Nat) (s : Int32 × Hp) : Option ((Int32 × Hp) ⊕ Hp) :=
  (if ((Int32.ofNat L) - (J 6)) < s.1 then
    some (.inr s.2)
  else
    (aX L xs s.1).bind fun x1 =>
    (some (x1 &&& (J 63))).bind fun x2 =>
    (if x2 = (J 0) then
      (aX L xs (s.1 + (J 1))).bind fun x3 =>
      (isO s.2 p1 10).bind fun u4 =>
      (f_X11_text s.2 p1 x3).bind fun r5 =>
      (aX L xs (s.1 + (J 1))).bind fun x6 =>
      (isO r5.2 p2 11).bind fun u7 =>
      (f_X12_text r5.2 p2 x6).bind fun r8 =>
      (if r5.1 = r8.1 then
        (some (s.1 + (J 6))).bind fun x9 =>
        some (.inl (x9, r8.2))
      else
        none)
    else
      (if x2 = (J 1) then
        (aX L xs (s.1 + (J 1))).bind fun x12 =>
        (aX L xs (s.1 + (J 2))).bind fun x13 =>
        (isO s.2 p1 10).bind fun u14 =>
        (f_X11_gear s.2 p1 x12 x13).bind fun r15 =>
        (aX L xs (s.1 + (J 1))).bind fun x16 =>
        (aX L xs (s.1 + (J 2))).bind fun x17 =>
        (isO s.2 p2 11).bind fun u18 =>
        (f_X12_gear s.2 p2 x16 x17).bind fun r19 =>
        (if r15 = r19 then
          (some (s.1 + (J 6))).bind fun x20 =>
          some (.inl (x20, s.2))
        else
          none)
      else
        (if x2 = (J 2) then
          (aX L xs (s.1 + (J 1))).bind fun x23 =>
          (aX L xs (s.1 + (J 2))).bind fun x24 =>
          (isO s.2 p1 10).bind fun u25 =>
          (f_X11_width s.2 p1 x23 x24).bind fun r26 =>
          (aX L xs (s.1 + (J 1))).bind fun x27 =>
          (aX L xs (s.1 + (J 2))).bind fun x28 =>
          (isO s.2 p2 11).bind fun u29 =>
          (f_X12_width s.2 p2 x27 x28).bind fun r30 =>
          (if r26 = r30 then
            (some (s.1 + (J 6))).bind fun x31 =>
            some (.inl (x31, s.2))
          else
            none)
        else
          (if x2 = (J 3) then
            (aX L xs (s.1 + (J 1))).bind fun x34 =>
            (aX L xs (s.1 + (J 2))).bind fun x35 =>
            (isO s.2 p1 10).bind fun u36 =>
            (f_X11_mesh s.2 p1 x34 x35).bind fun r37 =>
            (aX L xs (s.1 + (J 1))).bind fun x38 =>
            (aX L xs (s.1 + (J 2))).bind fun x39 =>
            (isO s.2 p2 11).bind fun u40 =>
            (f_X12_mesh s.2 p2 x38 x39).bind fun r41 =>
            (if r37 = r41 then
              (some (s.1 + (J 6))).bind fun x42 =>
              some (.inl (x42, s.2))
            else
              none)
          else
            (if x2 = (J 4) then
              (isO s.2 p1 10).bind fun u45 =>
              (f_X11_locked s.2 p1).bind fun r46 =>
              (isO r46.2 p2 11).bind fun u47 =>
              (f_X12_locked r46.2 p2).bind fun r48 =>
              (if r46.1 = r48.1 then
                (some (s.1 + (J 6))).bind fun x49 =>
                some (.inl (x49, r48.2))
              else
                none)
            else
              (if x2 = (J 5) then
                (aX L xs (s.1 + (J 1))).bind fun x52 =>
                (aX L xs (s.1 + (J 2))).bind fun x53 =>
                (isO s.2 p1 10).bind fun u54 =>
                (f_X11_speed s.2 p1 x52 x53).bind fun r55 =>
                (aX L xs (s.1 + (J 1))).bind fun x56 =>
                (aX L xs (s.1 + (J 2))).bind fun x57 =>
                (isO r55.2 p2 11).bind fun u58 =>
                (f_X12_speed r55.2 p2 x56 x57).bind fun r59 =>
                (if (lg_cmp r55.1 r59.1) = 0 then
                  (some (s.1 + (J 6))).bind fun x60 =>
                  some (.inl (x60, r59.2))
                else
                  none)
              else
                (if x2 = (J 6) then
                  (aX L xs (s.1 + (J 1))).bind fun x63 =>
                  (aX L xs (s.1 + (J 2))).bind fun x64 =>
                  (aX L xs (s.1 + (J 3))).bind fun x65 =>
                  (isO s.2 p1 10).bind fun u66 =>
                  (f_X11_hunt s.2 p1 x63 x64 x65).bind fun r67 =>
                  (aX L xs (s.1 + (J 1))).bind fun x68 =>
                  (aX L xs (s.1 + (J 2))).bind fun x69 =>
                  (aX L xs (s.1 + (J 3))).bind fun x70 =>
                  (isO s.2 p2 11).bind fun u71 =>
                  (f_X12_hunt s.2 p2 x68 x69 x70).bind fun r72 =>
                  (if r67 = r72 then
                    (some (s.1 + (J 6))).bind fun x73 =>
                    some (.inl (x73, s.2))
                  else
                    none)
                else
                  (if x2 = (J 7) then
                    (aX L xs (s.1 + (J 1))).bind fun x76 =>
                    (aX L xs (s.1 + (J 2))).bind fun x77 =>
                    (aX L xs (s.1 + (J 3))).bind fun x78 =>
                    (isO s.2 p1 10).bind fun u79 =>
                    (f_X11_planets p1 x76 x77 x78).bind fun r80 =>
                    (aX L xs (s.1 + (J 1))).bind fun x81 =>
                    (aX L xs (s.1 + (J 2))).bind fun x82 =>
                    (aX L xs (s.1 + (J 3))).bind fun x83 =>
                    (isO s.2 p2 11).bind fun u84 =>
                    (f_X12_planets p2 x81 x82 x83).bind fun r85 =>
                    (if r80 = r85 then
                      (some (s.1 + (J 6))).bind fun x86 =>
                      some (.inl (x86, s.2))
                    else
                      none)
                  else
                    (if x2 = (J 8) then
                      (aX L xs (s.1 + (J 1))).bind fun x89 =>
                      (aX L xs (s.1 + (J 2))).bind fun x90 =>
                      (isO s.2 p1 10).bind fun u91 =>
                      (f_X11_most p1 x89 x90).bind fun r92 =>
                      (aX L xs (s.1 + (J 1))).bind fun x93 =>
                      (aX L xs (s.1 + (J 2))).bind fun x94 =>
                      (isO s.2 p2 11).bind fun u95 =>
                      (f_X12_most p2 x93 x94).bind fun r96 =>
                      (if r92 = r96 then
                        (some (s.1 + (J 6))).bind fun x97 =>
                        some (.inl (x97, s.2))
                      else
                        none)
                    else
                      (if x2 = (J 9) then
                        (aX L xs (s.1 + (J 1))).bind fun x100 =>
                        (aX L xs (s.1 + (J 2))).bind fun x101 =>
                        (aX L xs (s.1 + (J 3))).bind fun x102 =>
                        (isO s.2 p1 10).bind fun u103 =>
                        (f_X11_cut s.2 p1 x100 x101 x102).bind fun r104 =>
                        (aX L xs (s.1 + (J 1))).bind fun x105 =>
                        (aX L xs (s.1 + (J 2))).bind fun x106 =>
                        (aX L xs (s.1 + (J 3))).bind fun x107 =>
                        (isO r104.2 p2 11).bind fun u108 =>
                        (f_X12_cut r104.2 p2 x105 x106 x107).bind fun r109 =>
                        (if r104.1 = r109.1 then
                          (some (s.1 + (J 6))).bind fun x110 =>
                          some (.inl (x110, r109.2))
                        else
                          none)
                      else
                        (if x2 = (J 10) then
                          (aX L xs (s.1 + (J 1))).bind fun x113 =>
                          (aX L xs (s.1 + (J 2))).bind fun x114 =>
                          (isO s.2 p1 10).bind fun u115 =>
                          (f_X11_off s.2 p1 x113 x114).bind fun r116 =>
                          (aX L xs (s.1 + (J 1))).bind fun x117 =>
                          (aX L xs (s.1 + (J 2))).bind fun x118 =>
                          (isO r116.2 p2 11).bind fun u119 =>
                          (f_X12_off r116.2 p2 x117 x118).bind fun r120 =>
                          (if r116.1 = r120 then
                            (some (s.1 + (J 6))).bind fun x121 =>
                            some (.inl (x121, r116.2))
                          else
                            none)
                        else
                          (if x2 = (J 11) then
                            (aX L xs (s.1 + (J 1))).bind fun x124 =>
                            (aX L xs (s.1 + (J 2))).bind fun x125 =>
                            (isO s.2 p1 10).bind fun u126 =>
                            (f_X11_touch s.2 p1 x124 x125).bind fun r127 =>
                            (aX L xs (s.1 + (J 1))).bind fun x128 =>
                            (aX L xs (s.1 + (J 2))).bind fun x129 =>
                            (isO r127.2 p2 11).bind fun u130 =>
                            (f_X12_touch r127.2 p2 x128 x129).bind fun r131 =>
                            (if r127.1 = r131 then
                              (some (s.1 + (J 6))).bind fun x132 =>
                              some (.inl (x132, r127.2))
                            else
                              none)
                          else
                            (if x2 = (J 12) then
                              (aX L xs (s.1 + (J 1))).bind fun x135 =>
                              (isO s.2 p1 10).bind fun u136 =>
                              (f_X11_jam s.2 p1 x135).bind fun r137 =>
                              (aX L xs (s.1 + (J 1))).bind fun x138 =>
                              (isO r137.2 p2 11).bind fun u139 =>
                              (f_X12_jam r137.2 p2 x138).bind fun r140 =>
                              (if r137.1 = r140 then
                                (some (s.1 + (J 6))).bind fun x141 =>
                                some (.inl (x141, r137.2))
                              else
                                none)
                            else
                              (if x2 = (J 13) then
                                (aX L xs (s.1 + (J 1))).bind fun x144 =>
                                (isO s.2 p1 10).bind fun u145 =>
                                (f_X11_gap s.2 p1 x144).bind fun r146 =>
                                (aX L xs (s.1 + (J 1))).bind fun x147 =>
                                (isO r146.2 p2 11).bind fun u148 =>
                                (f_X12_gap r146.2 p2 x147).bind fun r149 =>
                                (if r146.1 = r149 then
                                  (some (s.1 + (J 6))).bind fun x150 =>
                                  some (.inl (x150, r146.2))
                                else
                                  none)
                              else
                                (if x2 = (J 14) then
                                  (aX L xs (s.1 + (J 1))).bind fun x153 =>
                                  (isO s.2 p1 10).bind fun u154 =>
                                  (f_X11_even s.2 p1 x153).bind fun r155 =>
                                  (aX L xs (s.1 + (J 1))).bind fun x156 =>
                                  (isO r155.2 p2 11).bind fun u157 =>
                                  (f_X12_even r155.2 p2 x156).bind fun r158 =>
                                  (if r155.1 = r158 then
                                    (some (s.1 + (J 6))).bind fun x159 =>
                                    some (.inl (x159, r155.2))
                                  else
                                    none)
                                else
                                  (if x2 = (J 15) then
                                    (aX L xs (s.1 + (J 1))).bind fun x162 =>
                                    (aX L xs (s.1 + (J 2))).bind fun x163 =>
                                    (isO s.2 p1 10).bind fun u164 =>
                                    (f_X11_room s.2 p1 x162 x163).bind fun r165 =>
                                    (aX L xs (s.1 + (J 1))).bind fun x166 =>
                                    (aX L xs (s.1 + (J 2))).bind fun x167 =>
                                    (isO r165.2 p2 11).bind fun u168 =>
                                    (f_X12_room r165.2 p2 x166 x167).bind fun r169 =>
                                    (if r165.1 = r169.1 then
                                      (some (s.1 + (J 6))).bind fun x170 =>
                                      some (.inl (x170, r169.2))
                                    else
                                      none)
                                  else
                                    (if x2 = (J 16) then
                                      (aX L xs (s.1 + (J 1))).bind fun x173 =>
                                      (aX L xs (s.1 + (J 2))).bind fun x174 =>
                                      (aX L xs (s.1 + (J 3))).bind fun x175 =>
                                      (isO s.2 p1 10).bind fun u176 =>
                                      (f_X11_wear s.2 p1 x173 x174 x175).bind fun r177 =>
                                      (aX L xs (s.1 + (J 1))).bind fun x178 =>
                                      (aX L xs (s.1 + (J 2))).bind fun x179 =>
                                      (aX L xs (s.1 + (J 3))).bind fun x180 =>
                                      (isO r177.2 p2 11).bind fun u181 =>
                                      (f_X12_wear r177.2 p2 x178 x179 x180).bind fun r182 =>
                                      (if r177.1 = r182.1 then
                                        (some (s.1 + (J 6))).bind fun x183 =>
                                        some (.inl (x183, r182.2))
                                      else
                                        none)
                                    else
                                      (if x2 = (J 17) then
                                        (aX L xs (s.1 + (J 1))).bind fun x186 =>
                                        (aX L xs (s.1 + (J 2))).bind fun x187 =>
                                        (aX L xs (s.1 + (J 3))).bind fun x188 =>
                                        (isO s.2 p1 10).bind fun u189 =>
                                        (f_X11_until s.2 p1 x186 x187 x188).bind fun r190 =>
                                        (aX L xs (s.1 + (J 1))).bind fun x191 =>
                                        (aX L xs (s.1 + (J 2))).bind fun x192 =>
                                        (aX L xs (s.1 + (J 3))).bind fun x193 =>
                                        (isO r190.2 p2 11).bind fun u194 =>
                                        (f_X12_until r190.2 p2 x191 x192 x193).bind fun r195 =>
                                        (if r190.1 = r195.1 then
                                          (some (s.1 + (J 6))).bind fun x196 =>
                                          some (.inl (x196, r195.2))
                                        else
                                          none)
                                      else
                                        (if x2 = (J 18) then
                                          (aX L xs (s.1 + (J 1))).bind fun x199 =>
                                          (aX L xs (s.1 + (J 2))).bind fun x200 =>
                                          (isO s.2 p1 10).bind fun u201 =>
                                          (f_X11_loud s.2 p1 x199 x200).bind fun r202 =>
                                          (aX L xs (s.1 + (J 1))).bind fun x203 =>
                                          (aX L xs (s.1 + (J 2))).bind fun x204 =>
                                          (isO r202.2 p2 11).bind fun u205 =>
                                          (f_X12_loud r202.2 p2 x203 x204).bind fun r206 =>
                                          (if (lg_cmp r202.1 r206) = 0 then
                                            (some (s.1 + (J 6))).bind fun x207 =>
                                            some (.inl (x207, r202.2))
                                          else
                                            none)
                                        else
                                          (if x2 = (J 19) then
                                            (aX L xs (s.1 + (J 1))).bind fun x210 =>
                                            (isO s.2 p1 10).bind fun u211 =>
                                            (f_X11_whine s.2 p1 x210).bind fun r212 =>
                                            (aX L xs (s.1 + (J 1))).bind fun x213 =>
                                            (isO r212.2 p2 11).bind fun u214 =>
                                            (f_X12_whine r212.2 p2 x213).bind fun r215 =>
                                            (if r212.1 = r215 then
                                              (some (s.1 + (J 6))).bind fun x216 =>
                                              some (.inl (x216, r212.2))
                                            else
                                              none)
                                          else
                                            (if x2 = (J 20) then
                                              (aX L xs (s.1 + (J 1))).bind fun x219 =>
                                              (aX L xs (s.1 + (J 2))).bind fun x220 =>
                                              (isO s.2 p1 10).bind fun u221 =>
                                              (f_X11_pair s.2 p1 x219 x220).bind fun r222 =>
                                              (aX L xs (s.1 + (J 1))).bind fun x223 =>
                                              (aX L xs (s.1 + (J 2))).bind fun x224 =>
                                              (isO r222.2 p2 11).bind fun u225 =>
                                              (f_X12_pair r222.2 p2 x223 x224).bind fun r226 =>
                                              (if r222.1 = r226.1 then
                                                (some (s.1 + (J 6))).bind fun x227 =>
                                                some (.inl (x227, r226.2))
                                              else
                                                none)
                                            else
                                              (if x2 = (J 21) then
                                                (isO s.2 p1 10).bind fun u230 =>
                                                (f_X11_clear s.2 p1).bind fun r231 =>
                                                (isO r231.2 p2 11).bind fun u232 =>
                                                (f_X12_clear r231.2 p2).bind fun r233 =>
                                                (if r231.1 = r233.1 then
                                                  (some (s.1 + (J 6))).bind fun x234 =>
                                                  some (.inl (x234, r233.2))
                                                else
                                                  none)
                                              else
                                                (if x2 = (J 22) then
                                                  (aX L xs (s.1 + (J 1))).bind fun x237 =>
                                                  (isO s.2 p1 10).bind fun u238 =>
                                                  (f_X11_pushed s.2 p1 x237).bind fun r239 =>
                                                  (aX L xs (s.1 + (J 1))).bind fun x240 =>
                                                  (isO s.2 p2 11).bind fun u241 =>
                                                  (f_X12_pushed s.2 p2 x240).bind fun r242 =>
                                                  (if r239 = r242 then
                                                    (some (s.1 + (J 6))).bind fun x243 =>
                                                    some (.inl (x243, s.2))
                                                  else
                                                    none)
                                                else
                                                  (if x2 = (J 23) then
                                                    (aX L xs (s.1 + (J 1))).bind fun x246 =>
                                                    (aX L xs (s.1 + (J 2))).bind fun x247 =>
                                                    (isO s.2 p1 10).bind fun u248 =>
                                                    (f_X11_share s.2 p1 x246 x247).bind fun r249 =>
                                                    (aX L xs (s.1 + (J 1))).bind fun x250 =>
                                                    (aX L xs (s.1 + (J 2))).bind fun x251 =>
                                                    (isO s.2 p2 11).bind fun u252 =>
                                                    (f_X12_share s.2 p2 x250 x251).bind fun r253 =>
                                                    (if r249 = r253 then
                                                      (some (s.1 + (J 6))).bind fun x254 =>
                                                      some (.inl (x254, s.2))
                                                    else
                                                      none)
                                                  else
                                                    (if x2 = (J 24) then
                                                      (aX L xs (s.1 + (J 1))).bind fun x257 =>
                                                      (isO s.2 p1 10).bind fun u258 =>
                                                      (f_X11_bearing s.2 p1 x257).bind fun r259 =>
                                                      (aX L xs (s.1 + (J 1))).bind fun x260 =>
                                                      (isO s.2 p2 11).bind fun u261 =>
                                                      (f_X12_bearing s.2 p2 x260).bind fun r262 =>
                                                      (if r259 = r262 then
                                                        (some (s.1 + (J 6))).bind fun x263 =>
                                                        some (.inl (x263, s.2))
                                                      else
                                                        none)
                                                    else
                                                      (if x2 = (J 25) then
                                                        (aX L xs (s.1 + (J 1))).bind fun x266 =>
                                                        (isO s.2 p1 10).bind fun u267 =>
                                                        (f_X11_fault s.2 p1 x266).bind fun r268 =>
                                                        (aX L xs (s.1 + (J 1))).bind fun x269 =>
                                                        (isO r268.2 p2 11).bind fun u270 =>
                                                        (f_X12_fault r268.2 p2 x269).bind fun r271 =>
                                                        (if r268.1 = r271.1 then
                                                          (some (s.1 + (J 6))).bind fun x272 =>
                                                          some (.inl (x272, r271.2))
                                                        else
                                                          none)
                                                      else
                                                        (if x2 = (J 26) then
                                                          (aX L xs (s.1 + (J 1))).bind fun x275 =>
                                                          (isO s.2 p1 10).bind fun u276 =>
                                                          (f_X11_rule s.2 p1 x275).bind fun r277 =>
                                                          (aX L xs (s.1 + (J 1))).bind fun x278 =>
                                                          (isO r277.2 p2 11).bind fun u279 =>
                                                          (f_X12_rule r277.2 p2 x278).bind fun r280 =>
                                                          (if r277.1 = r280.1 then
                                                            (some (s.1 + (J 6))).bind fun x281 =>
                                                            some (.inl (x281, r280.2))
                                                          else
                                                            none)
                                                        else
                                                          (if x2 = (J 27) then
                                                            (aX L xs (s.1 + (J 1))).bind fun x284 =>
                                                            (aX L xs (s.1 + (J 2))).bind fun x285 =>
                                                            (isO s.2 p1 10).bind fun u286 =>
                                                            (f_X11_holds s.2 p1 x284 x285).bind fun r287 =>
                                                            (aX L xs (s.1 + (J 1))).bind fun x288 =>
                                                            (aX L xs (s.1 + (J 2))).bind fun x289 =>
                                                            (isO r287.2 p2 11).bind fun u290 =>
                                                            (f_X12_holds r287.2 p2 x288 x289).bind fun r291 =>
                                                            (if r287.1 = r291.1 then
                                                              (some (s.1 + (J 6))).bind fun x292 =>
                                                              some (.inl (x292, r291.2))
                                                            else
                                                              none)
                                                          else
                                                            (if x2 = (J 28) then
                                                              (aX L xs (s.1 + (J 1))).bind fun x295 =>
                                                              (aX L xs (s.1 + (J 2))).bind fun x296 =>
                                                              (aX L xs (s.1 + (J 3))).bind fun x297 =>
                                                              (isO s.2 p1 10).bind fun u298 =>
                                                              (f_X11_watch s.2 p1 x295 x296 x297).bind fun r299 =>
                                                              (aX L xs (s.1 + (J 1))).bind fun x300 =>
                                                              (aX L xs (s.1 + (J 2))).bind fun x301 =>
                                                              (aX L xs (s.1 + (J 3))).bind fun x302 =>
                                                              (isO r299.2 p2 11).bind fun u303 =>
                                                              (f_X12_watch r299.2 p2 x300 x301 x302).bind fun r304 =>
                                                              (if r299.1 = r304.1 then
                                                                (some (s.1 + (J 6))).bind fun x305 =>
                                                                some (.inl (x305, r304.2))
                                                              else
                                                                none)
                                                            else
                                                              (if x2 = (J 29) then
                                                                (aX L xs (s.1 + (J 1))).bind fun x308 =>
                                                                (aX L xs (s.1 + (J 2))).bind fun x309 =>
                                                                (isO s.2 p1 10).bind fun u310 =>
                                                                (f_X11_ear s.2 p1 x308 x309).bind fun r311 =>
                                                                (aX L xs (s.1 + (J 1))).bind fun x312 =>
                                                                (aX L xs (s.1 + (J 2))).bind fun x313 =>
                                                                (isO r311.2 p2 11).bind fun u314 =>
                                                                (f_X12_ear r311.2 p2 x312 x313).bind fun r315 =>
                                                                (if r311.1 = r315.1 then
                                                                  (some (s.1 + (J 6))).bind fun x316 =>
                                                                  some (.inl (x316, r315.2))
                                                                else
                                                                  none)
                                                              else
                                                                (if x2 = (J 30) then
                                                                  (aX L xs (s.1 + (J 1))).bind fun x319 =>
                                                                  (aX L xs (s.1 + (J 2))).bind fun x320 =>
                                                                  (aX L xs (s.1 + (J 3))).bind fun x321 =>
                                                                  (isO s.2 p1 10).bind fun u322 =>
                                                                  (f_X11_bestShift s.2 p1 x319 x320 x321).bind fun r323 =>
                                                                  (aX L xs (s.1 + (J 1))).bind fun x324 =>
                                                                  (aX L xs (s.1 + (J 2))).bind fun x325 =>
                                                                  (aX L xs (s.1 + (J 3))).bind fun x326 =>
                                                                  (isO r323.2 p2 11).bind fun u327 =>
                                                                  (f_X12_bestShift r323.2 p2 x324 x325 x326).bind fun r328 =>
                                                                  (if r323.1 = r328.1 then
                                                                    (some (s.1 + (J 6))).bind fun x329 =>
                                                                    some (.inl (x329, r328.2))
                                                                  else
                                                                    none)
                                                                else
                                                                  (if x2 = (J 31) then
                                                                    (aX L xs (s.1 + (J 1))).bind fun x332 =>
                                                                    (aX L xs (s.1 + (J 2))).bind fun x333 =>
                                                                    (aX L xs (s.1 + (J 3))).bind fun x334 =>
                                                                    (aX L xs (s.1 + (J 4))).bind fun x335 =>
                                                                    (isO s.2 p1 10).bind fun u336 =>
                                                                    (f_X11_readBack s.2 p1 x332 x333 x334 x335).bind fun r337 =>
                                                                    (aX L xs (s.1 + (J 1))).bind fun x338 =>
                                                                    (aX L xs (s.1 + (J 2))).bind fun x339 =>
                                                                    (aX L xs (s.1 + (J 3))).bind fun x340 =>
                                                                    (aX L xs (s.1 + (J 4))).bind fun x341 =>
                                                                    (isO r337.2 p2 11).bind fun u342 =>
                                                                    (f_X12_readBack r337.2 p2 x338 x339 x340 x341).bind fun r343 =>
                                                                    (if r337.1 = r343.1 then
                                                                      (some (s.1 + (J 6))).bind fun x344 =>
                                                                      some (.inl (x344, r343.2))
                                                                    else
                                                                      none)
                                                                  else
                                                                    (if x2 = (J 32) then
                                                                      (isO s.2 p1 10).bind fun u347 =>
                                                                      (f_X11_image s.2 p1).bind fun r348 =>
                                                                      (isO r348.2 p2 11).bind fun u349 =>
                                                                      (f_X12_image r348.2 p2).bind fun r350 =>
                                                                      (if r348.1 = r350.1 then
                                                                        (some (s.1 + (J 6))).bind fun x351 =>
                                                                        some (.inl (x351, r350.2))
                                                                      else
                                                                        none)
                                                                    else
                                                                      (if x2 = (J 33) then
                                                                        (isO s.2 p1 10).bind fun u354 =>
                                                                        (f_X11_restore s.2 p1).bind fun r355 =>
                                                                        (isO r355.2 p2 11).bind fun u356 =>
                                                                        (f_X12_restore r355.2 p2).bind fun r357 =>
                                                                        (if r355.1 = r357.1 then
                                                                          (some (s.1 + (J 6))).bind fun x358 =>
                                                                          some (.inl (x358, r357.2))
                                                                        else
                                                                          none)
                                                                      else
                                                                        (if x2 = (J 34) then
                                                                          (aX L xs (s.1 + (J 1))).bind fun x361 =>
                                                                          (isO s.2 p1 10).bind fun u362 =>
                                                                          (f_X11_count s.2 p1 x361).bind fun r363 =>
                                                                          (aX L xs (s.1 + (J 1))).bind fun x364 =>
                                                                          (isO r363.2 p2 11).bind fun u365 =>
                                                                          (f_X12_count r363.2 p2 x364).bind fun r366 =>
                                                                          (if r363.1 = r366.1 then
                                                                            (some (s.1 + (J 6))).bind fun x367 =>
                                                                            some (.inl (x367, r366.2))
                                                                          else
                                                                            none)
                                                                        else
                                                                          (if x2 = (J 35) then
                                                                            (aX L xs (s.1 + (J 1))).bind fun x370 =>
                                                                            (aX L xs (s.1 + (J 2))).bind fun x371 =>
                                                                            (aX L xs (s.1 + (J 3))).bind fun x372 =>
                                                                            (isO s.2 p1 10).bind fun u373 =>
                                                                            (f_X11_keep s.2 p1 x370 x371 x372).bind fun r374 =>
                                                                            (aX L xs (s.1 + (J 1))).bind fun x375 =>
                                                                            (aX L xs (s.1 + (J 2))).bind fun x376 =>
                                                                            (aX L xs (s.1 + (J 3))).bind fun x377 =>
                                                                            (isO r374.2 p2 11).bind fun u378 =>
                                                                            (f_X12_keep r374.2 p2 x375 x376 x377).bind fun r379 =>
                                                                            (if r374.1 = r379.1 then
                                                                              (some (s.1 + (J 6))).bind fun x380 =>
                                                                              some (.inl (x380, r379.2))
                                                                            else
                                                                              none)
                                                                          else
                                                                            (if x2 = (J 36) then
                                                                              (aX L xs (s.1 + (J 1))).bind fun x383 =>
                                                                              (aX L xs (s.1 + (J 2))).bind fun x384 =>
                                                                              (aX L xs (s.1 + (J 3))).bind fun x385 =>
                                                                              (isO s.2 p1 10).bind fun u386 =>
                                                                              (f_X11_row s.2 p1 x383 x384 x385).bind fun r387 =>
                                                                              (aX L xs (s.1 + (J 1))).bind fun x388 =>
                                                                              (aX L xs (s.1 + (J 2))).bind fun x389 =>
                                                                              (aX L xs (s.1 + (J 3))).bind fun x390 =>
                                                                              (isO r387.2 p2 11).bind fun u391 =>
                                                                              (f_X12_row r387.2 p2 x388 x389 x390).bind fun r392 =>
                                                                              (if r387.1 = r392.1 then
                                                                                (some (s.1 + (J 6))).bind fun x393 =>
                                                                                some (.inl (x393, r392.2))
                                                                              else
                                                                                none)
                                                                            else
                                                                              (if x2 = (J 37) then
                                                                                (aX L xs (s.1 + (J 1))).bind fun x396 =>
                                                                                (aX L xs (s.1 + (J 2))).bind fun x397 =>
                                                                                (aX L xs (s.1 + (J 3))).bind fun x398 =>
                                                                                (isO s.2 p1 10).bind fun u399 =>
                                                                                (f_X11_put s.2 p1 x396 x397 x398).bind fun r400 =>
                                                                                (aX L xs (s.1 + (J 1))).bind fun x401 =>
                                                                                (aX L xs (s.1 + (J 2))).bind fun x402 =>
                                                                                (aX L xs (s.1 + (J 3))).bind fun x403 =>
                                                                                (isO r400.2 p2 11).bind fun u404 =>
                                                                                (f_X12_put r400.2 p2 x401 x402 x403).bind fun r405 =>
                                                                                (if r400.1 = r405.1 then
                                                                                  (some (s.1 + (J 6))).bind fun x406 =>
                                                                                  some (.inl (x406, r405.2))
                                                                                else
                                                                                  none)
                                                                              else
                                                                                (if x2 = (J 38) then
                                                                                  (aX L xs (s.1 + (J 1))).bind fun x409 =>
                                                                                  (aX L xs (s.1 + (J 2))).bind fun x410 =>
                                                                                  (f_L_element s.2 p1 x409 x410 p3).bind fun r412 =>
                                                                                  (aX L xs (s.1 + (J 1))).bind fun x413 =>
                                                                                  (aX L xs (s.1 + (J 2))).bind fun x414 =>
                                                                                  (isO r412.2 p2 11).bind fun u415 =>
                                                                                  (f_X12_element r412.2 p2 x413 x414).bind fun r416 =>
                                                                                  (isO r416.2 p2 11).bind fun u417 =>
                                                                                  (f_X12_thrown r416.2 p2).bind fun r418 =>
                                                                                  (if r418 = r412.1 then
                                                                                    (if r412.1 = 0 then
                                                                                      (aL r416.2 p3 (J 0)).bind fun x420 =>
                                                                                      (if (lg_cmp x420 r416.1) = 0 then
                                                                                        (some (s.1 + (J 6))).bind fun x421 =>
                                                                                        some (.inl (x421, r416.2))
                                                                                      else
                                                                                        none)
                                                                                    else
                                                                                      (some (s.1 + (J 6))).bind fun x419 =>
                                                                                      some (.inl (x419, r416.2)))
                                                                                  else
                                                                                    none)
                                                                                else
                                                                                  (if x2 = (J 39) then
                                                                                    (aX L xs (s.1 + (J 1))).bind fun x426 =>
                                                                                    (aX L xs (s.1 + (J 2))).bind fun x427 =>
                                                                                    (aX L xs (s.1 + (J 3))).bind fun x428 =>
                                                                                    (aX L xs (s.1 + (J 4))).bind fun x429 =>
                                                                                    (aX L xs (s.1 + (J 5))).bind fun x430 =>
                                                                                    (isO s.2 p1 10).bind fun u431 =>
                                                                                    (f_X11_copy s.2 p1 x426 x427 x428 x429 x430).bind fun r432 =>
                                                                                    (aX L xs (s.1 + (J 1))).bind fun x433 =>
                                                                                    (aX L xs (s.1 + (J 2))).bind fun x434 =>
                                                                                    (aX L xs (s.1 + (J 3))).bind fun x435 =>
                                                                                    (aX L xs (s.1 + (J 4))).bind fun x436 =>
                                                                                    (aX L xs (s.1 + (J 5))).bind fun x437 =>
                                                                                    (isO r432.2 p2 11).bind fun u438 =>
                                                                                    (f_X12_copy r432.2 p2 x433 x434 x435 x436 x437).bind fun r439 =>
                                                                                    (if r432.1 = r439.1 then
                                                                                      (some (s.1 + (J 6))).bind fun x440 =>
                                                                                      some (.inl (x440, r439.2))
                                                                                    else
                                                                                      none)
                                                                                  else
                                                                                    (if x2 = (J 40) then
                                                                                      (aX L xs (s.1 + (J 1))).bind fun x443 =>
                                                                                      (isO s.2 p1 10).bind fun u444 =>
                                                                                      (f_X11_weight s.2 p1 x443).bind fun r445 =>
                                                                                      (aX L xs (s.1 + (J 1))).bind fun x446 =>
                                                                                      (isO s.2 p2 11).bind fun u447 =>
                                                                                      (f_X12_weight s.2 p2 x446).bind fun r448 =>
                                                                                      (if r445 = r448 then
                                                                                        (some (s.1 + (J 6))).bind fun x449 =>
                                                                                        some (.inl (x449, s.2))
                                                                                      else
                                                                                        none)
                                                                                    else
                                                                                      (if x2 = (J 41) then
                                                                                        (aX L xs (s.1 + (J 1))).bind fun x452 =>
                                                                                        (isO s.2 p1 10).bind fun u453 =>
                                                                                        (f_X11_toss s.2 p1 x452).bind fun r454 =>
                                                                                        (aX L xs (s.1 + (J 1))).bind fun x455 =>
                                                                                        (isO s.2 p2 11).bind fun u456 =>
                                                                                        (f_X12_toss s.2 p2 x455).bind fun r457 =>
                                                                                        (if r454 = r457 then
                                                                                          (some (s.1 + (J 6))).bind fun x458 =>
                                                                                          some (.inl (x458, s.2))
                                                                                        else
                                                                                          none)
                                                                                      else
                                                                                        (some (s.1 + (J 6))).bind fun x461 =>
                                                                                        some (.inl (x461, s.2)))))))))))))))))))))))))))))))))))))))))))))
set_option maxRecDepth 100000 in
set_option maxHeartbeats 40000000 in
theorem l_L_law {Z : Zc} (hZ : Fx cL_law RL 8 406 512 Z) (hE : ExZ Z) {L : Nat} {xs : Nat → Int32} (hL : L ≤ 3072) (hSc : ScZ L xs Z) {n : Nat} {p1 p2 p3 : Nat} {P : Hp → Prop} (hx0 : ∀ (e : Hp) (x : Nat), x ≤ 512 → P e → R Z 1756 [] [] n e x) : ∀ (m : Nat) (s : Int32 × Hp) (x : Nat), (6 * (x : Int) ≤ s.1.toInt ∧ x ≤ 512) → Ok (iter (b_L_law L xs p1 p2 p3) m s) P → R Z 23 [(0, .ref (BB + 4)), (1, .ref p1), (2, .ref p2), (3, .ref p3), (4, .int s.1)] [] n s.2 x := by
  intro m
  induction m with
  | zero => exact fun s x hx H => ok_iter0 H
  | succ m ih =>
    intro s x hx H
    have H := ok_iter H
    unfold b_L_law at H
    refine r_iload hZ dL_law_23 rfl ?_
    refine r_aload_n hZ dL_law_25 rfl ?_
    refine r_nX hZ hSc dL_law_26 ?_
    refine r_bipush (v := (J 6)) hZ dL_law_27 (by decide) ?_
    refine r_isub hZ dL_law_29 ?_
    refine r_icmp_gt (tgt := 1756) hZ dL_law_30 (by decide) (fun c462 => ?_) (fun c462 => ?_)
    · have H := ok_t H c462
      exact r_pick [] (ls' := []) rfl (hx0 _ _ hx.2 (ki_r H))
    · have H := ok_f H c462
      refine r_aload_n hZ dL_law_33 rfl ?_
      refine r_iload hZ dL_law_34 rfl ?_
      obtain ⟨x1, ex1, H⟩ := ok_bind H
      have hx9 := ex1
      have hxi := law_x hL ex1 hx.1
      refine r_aX hZ hSc dL_law_36 ex1 ?_
      refine r_bipush (v := (J 63)) hZ dL_law_37 (by decide) ?_
      refine r_iand hZ dL_law_39 ?_
      obtain ⟨x2, ex2, H⟩ := ok_bind H
      refine r_topi ex2 ?_
      by_cases c11 : x2 = (J 0)
      · have hs : R Z 224 [(0, .ref (BB + 4)), (1, .ref p1), (2, .ref p2), (3, .ref p3), (4, .int s.1)] [] n s.2 x → R Z 40 [(0, .ref (BB + 4)), (1, .ref p1), (2, .ref p2), (3, .ref p3), (4, .int s.1)] [.int x2] n s.2 x := by
          exact fun k => r_tableIn hZ dL_law_40 (by rw [c11]; decide) (by rw [c11]; decide) (off := 184) (by rw [c11]; rfl) (by decide) k
        refine hs ?_
        clear hs
        have H := ok_t H c11
        refine r_aload_n hZ dL_law_224 rfl ?_
        refine r_aload_n hZ dL_law_225 rfl ?_
        refine r_iload hZ dL_law_226 rfl ?_
        refine r_iconst (v := (J 1)) hZ dL_law_228 (by decide) ?_
        refine r_iadd hZ dL_law_229 ?_
        obtain ⟨x3, ex3, H⟩ := ok_bind H
        refine r_aX hZ hSc dL_law_230 ex3 ?_
        obtain ⟨u4, eu4, H⟩ := ok_bind H
        obtain ⟨r5, er5, H⟩ := ok_bind H
        refine r_callV (As := [.int x3]) (rest := []) (st1 := [.int r5.1]) (N2 := 0) hZ dL_law_231 cw_L_21_X11 rfl eu4 (s_X11_text er5) rfl rfl (by decide) (Nat.le_of_ble_eq_true rfl) (by omega) (Nat.le_refl _) (Or.inl rfl) rfl ?_
        refine r_aload_n hZ dL_law_234 rfl ?_
        refine r_aload_n hZ dL_law_235 rfl ?_
        refine r_iload hZ dL_law_236 rfl ?_
        refine r_iconst (v := (J 1)) hZ dL_law_238 (by decide) ?_
        refine r_iadd hZ dL_law_239 ?_
        obtain ⟨x6, ex6, H⟩ := ok_bind H
        refine r_aX hZ hSc dL_law_240 ex6 ?_
        obtain ⟨u7, eu7, H⟩ := ok_bind H
        obtain ⟨r8, er8, H⟩ := ok_bind H
        refine r_callV (As := [.int x6]) (rest := [.int r5.1]) (st1 := [.int r8.1, .int r5.1]) (N2 := 0) hZ dL_law_241 cw_L_25_X12 rfl eu7 (s_X12_text er8) rfl rfl (by decide) (Nat.le_of_ble_eq_true rfl) (by omega) (Nat.le_refl _) (Or.inl rfl) rfl ?_
        refine r_icmp_eq (tgt := 1750) hZ dL_law_244 (by decide) (fun c10 => ?_) (fun c10 => ?_)
        · have H := ok_t H c10
          obtain ⟨x9, ex9, H⟩ := ok_bind H
          refine r_iincE (w := (J 6)) hZ dL_law_1750 (by decide) rfl (by decide) ex9 (r_pick [0, 1, 2, 3, 4] (ls' := [(0, .ref (BB + 4)), (1, .ref p1), (2, .ref p2), (3, .ref p3), (4, .int x9)]) rfl ?_)
          refine r_goto (tgt := 23) hZ dL_law_1753 (by decide) ?_
          exact r_pick [0, 1, 2, 3, 4] (ls' := [(0, .ref (BB + 4)), (1, .ref p1), (2, .ref p2), (3, .ref p3), (4, .int x9)]) rfl (ih _ _ ⟨law_s0 hL hx9 ex9 hx.1, hx.2⟩ (ki_l H))
        · have H := ok_f H c10
          exact ok_none H
      · have H := ok_f H c11
        by_cases c22 : x2 = (J 1)
        · have hs : R Z 249 [(0, .ref (BB + 4)), (1, .ref p1), (2, .ref p2), (3, .ref p3), (4, .int s.1)] [] n s.2 x → R Z 40 [(0, .ref (BB + 4)), (1, .ref p1), (2, .ref p2), (3, .ref p3), (4, .int s.1)] [.int x2] n s.2 x := by
            exact fun k => r_tableIn hZ dL_law_40 (by rw [c22]; decide) (by rw [c22]; decide) (off := 209) (by rw [c22]; rfl) (by decide) k
          refine hs ?_
          clear hs
          have H := ok_t H c22
          refine r_aload_n hZ dL_law_249 rfl ?_
          refine r_aload_n hZ dL_law_250 rfl ?_
          refine r_iload hZ dL_law_251 rfl ?_
          refine r_iconst (v := (J 1)) hZ dL_law_253 (by decide) ?_
          refine r_iadd hZ dL_law_254 ?_
          obtain ⟨x12, ex12, H⟩ := ok_bind H
          refine r_aX hZ hSc dL_law_255 ex12 ?_
          refine r_aload_n hZ dL_law_256 rfl ?_
          refine r_iload hZ dL_law_257 rfl ?_
          refine r_iconst (v := (J 2)) hZ dL_law_259 (by decide) ?_
          refine r_iadd hZ dL_law_260 ?_
          obtain ⟨x13, ex13, H⟩ := ok_bind H
          refine r_aX hZ hSc dL_law_261 ex13 ?_
          obtain ⟨u14, eu14, H⟩ := ok_bind H
          obtain ⟨r15, er15, H⟩ := ok_bind H
          refine r_callV (As := [.int x12, .int x13]) (rest := []) (st1 := [.int r15]) (N2 := 0) hZ dL_law_262 cw_L_26_X11 rfl eu14 (s_X11_gear er15) rfl rfl (by decide) (Nat.le_of_ble_eq_true rfl) (by omega) (Nat.le_refl _) (Or.inl rfl) rfl ?_
          refine r_aload_n hZ dL_law_265 rfl ?_
          refine r_aload_n hZ dL_law_266 rfl ?_
          refine r_iload hZ dL_law_267 rfl ?_
          refine r_iconst (v := (J 1)) hZ dL_law_269 (by decide) ?_
          refine r_iadd hZ dL_law_270 ?_
          obtain ⟨x16, ex16, H⟩ := ok_bind H
          refine r_aX hZ hSc dL_law_271 ex16 ?_
          refine r_aload_n hZ dL_law_272 rfl ?_
          refine r_iload hZ dL_law_273 rfl ?_
          refine r_iconst (v := (J 2)) hZ dL_law_275 (by decide) ?_
          refine r_iadd hZ dL_law_276 ?_
          obtain ⟨x17, ex17, H⟩ := ok_bind H
          refine r_aX hZ hSc dL_law_277 ex17 ?_
          obtain ⟨u18, eu18, H⟩ := ok_bind H
          obtain ⟨r19, er19, H⟩ := ok_bind H
          refine r_callV (As := [.int x16, .int x17]) (rest := [.int r15]) (st1 := [.int r19, .int r15]) (N2 := 0) hZ dL_law_278 cw_L_30_X12 rfl eu18 (s_X12_gear er19) rfl rfl (by decide) (Nat.le_of_ble_eq_true rfl) (by omega) (Nat.le_refl _) (Or.inl rfl) rfl ?_
          refine r_icmp_eq (tgt := 1750) hZ dL_law_281 (by decide) (fun c21 => ?_) (fun c21 => ?_)
          · have H := ok_t H c21
            obtain ⟨x20, ex20, H⟩ := ok_bind H
            refine r_iincE (w := (J 6)) hZ dL_law_1750 (by decide) rfl (by decide) ex20 (r_pick [0, 1, 2, 3, 4] (ls' := [(0, .ref (BB + 4)), (1, .ref p1), (2, .ref p2), (3, .ref p3), (4, .int x20)]) rfl ?_)
            refine r_goto (tgt := 23) hZ dL_law_1753 (by decide) ?_
            exact r_pick [0, 1, 2, 3, 4] (ls' := [(0, .ref (BB + 4)), (1, .ref p1), (2, .ref p2), (3, .ref p3), (4, .int x20)]) rfl (ih _ _ ⟨law_s0 hL hx9 ex20 hx.1, hx.2⟩ (ki_l H))
          · have H := ok_f H c21
            exact ok_none H
        · have H := ok_f H c22
          by_cases c33 : x2 = (J 2)
          · have hs : R Z 286 [(0, .ref (BB + 4)), (1, .ref p1), (2, .ref p2), (3, .ref p3), (4, .int s.1)] [] n s.2 x → R Z 40 [(0, .ref (BB + 4)), (1, .ref p1), (2, .ref p2), (3, .ref p3), (4, .int s.1)] [.int x2] n s.2 x := by
              exact fun k => r_tableIn hZ dL_law_40 (by rw [c33]; decide) (by rw [c33]; decide) (off := 246) (by rw [c33]; rfl) (by decide) k
            refine hs ?_
            clear hs
            have H := ok_t H c33
            refine r_aload_n hZ dL_law_286 rfl ?_
            refine r_aload_n hZ dL_law_287 rfl ?_
            refine r_iload hZ dL_law_288 rfl ?_
            refine r_iconst (v := (J 1)) hZ dL_law_290 (by decide) ?_
            refine r_iadd hZ dL_law_291 ?_
            obtain ⟨x23, ex23, H⟩ := ok_bind H
            refine r_aX hZ hSc dL_law_292 ex23 ?_
            refine r_aload_n hZ dL_law_293 rfl ?_
            refine r_iload hZ dL_law_294 rfl ?_
            refine r_iconst (v := (J 2)) hZ dL_law_296 (by decide) ?_
            refine r_iadd hZ dL_law_297 ?_
            obtain ⟨x24, ex24, H⟩ := ok_bind H
            refine r_aX hZ hSc dL_law_298 ex24 ?_
            obtain ⟨u25, eu25, H⟩ := ok_bind H
            obtain ⟨r26, er26, H⟩ := ok_bind H
            refine r_callV (As := [.int x23, .int x24]) (rest := []) (st1 := [.int r26]) (N2 := 0) hZ dL_law_299 cw_L_31_X11 rfl eu25 (s_X11_width er26) rfl rfl (by decide) (Nat.le_of_ble_eq_true rfl) (by omega) (Nat.le_refl _) (Or.inl rfl) rfl ?_
            refine r_aload_n hZ dL_law_302 rfl ?_
            refine r_aload_n hZ dL_law_303 rfl ?_
            refine r_iload hZ dL_law_304 rfl ?_
            refine r_iconst (v := (J 1)) hZ dL_law_306 (by decide) ?_
            refine r_iadd hZ dL_law_307 ?_
            obtain ⟨x27, ex27, H⟩ := ok_bind H
            refine r_aX hZ hSc dL_law_308 ex27 ?_
            refine r_aload_n hZ dL_law_309 rfl ?_
            refine r_iload hZ dL_law_310 rfl ?_
            refine r_iconst (v := (J 2)) hZ dL_law_312 (by decide) ?_
            refine r_iadd hZ dL_law_313 ?_
            obtain ⟨x28, ex28, H⟩ := ok_bind H
            refine r_aX hZ hSc dL_law_314 ex28 ?_
            obtain ⟨u29, eu29, H⟩ := ok_bind H
            obtain ⟨r30, er30, H⟩ := ok_bind H
            refine r_callV (As := [.int x27, .int x28]) (rest := [.int r26]) (st1 := [.int r30, .int r26]) (N2 := 0) hZ dL_law_315 cw_L_34_X12 rfl eu29 (s_X12_width er30) rfl rfl (by decide) (Nat.le_of_ble_eq_true rfl) (by omega) (Nat.le_refl _) (Or.inl rfl) rfl ?_
            refine r_icmp_eq (tgt := 1750) hZ dL_law_318 (by decide) (fun c32 => ?_) (fun c32 => ?_)
            · have H := ok_t H c32
              obtain ⟨x31, ex31, H⟩ := ok_bind H
              refine r_iincE (w := (J 6)) hZ dL_law_1750 (by decide) rfl (by decide) ex31 (r_pick [0, 1, 2, 3, 4] (ls' := [(0, .ref (BB + 4)), (1, .ref p1), (2, .ref p2), (3, .ref p3), (4, .int x31)]) rfl ?_)
              refine r_goto (tgt := 23) hZ dL_law_1753 (by decide) ?_
              exact r_pick [0, 1, 2, 3, 4] (ls' := [(0, .ref (BB + 4)), (1, .ref p1), (2, .ref p2), (3, .ref p3), (4, .int x31)]) rfl (ih _ _ ⟨law_s0 hL hx9 ex31 hx.1, hx.2⟩ (ki_l H))
            · have H := ok_f H c32
              exact ok_none H
          · have H := ok_f H c33
            by_cases c44 : x2 = (J 3)
            · have hs : R Z 323 [(0, .ref (BB + 4)), (1, .ref p1), (2, .ref p2), (3, .ref p3), (4, .int s.1)] [] n s.2 x → R Z 40 [(0, .ref (BB + 4)), (1, .ref p1), (2, .ref p2), (3, .ref p3), (4, .int s.1)] [.int x2] n s.2 x := by
                exact fun k => r_tableIn hZ dL_law_40 (by rw [c44]; decide) (by rw [c44]; decide) (off := 283) (by rw [c44]; rfl) (by decide) k
              refine hs ?_
              clear hs
              have H := ok_t H c44
              refine r_aload_n hZ dL_law_323 rfl ?_
              refine r_aload_n hZ dL_law_324 rfl ?_
              refine r_iload hZ dL_law_325 rfl ?_
              refine r_iconst (v := (J 1)) hZ dL_law_327 (by decide) ?_
              refine r_iadd hZ dL_law_328 ?_
              obtain ⟨x34, ex34, H⟩ := ok_bind H
              refine r_aX hZ hSc dL_law_329 ex34 ?_
              refine r_aload_n hZ dL_law_330 rfl ?_
              refine r_iload hZ dL_law_331 rfl ?_
              refine r_iconst (v := (J 2)) hZ dL_law_333 (by decide) ?_
              refine r_iadd hZ dL_law_334 ?_
              obtain ⟨x35, ex35, H⟩ := ok_bind H
              refine r_aX hZ hSc dL_law_335 ex35 ?_
              obtain ⟨u36, eu36, H⟩ := ok_bind H
              obtain ⟨r37, er37, H⟩ := ok_bind H
              refine r_callV (As := [.int x34, .int x35]) (rest := []) (st1 := [.int r37]) (N2 := 0) hZ dL_law_336 cw_L_35_X11 rfl eu36 (s_X11_mesh er37) rfl rfl (by decide) (Nat.le_of_ble_eq_true rfl) (by omega) (Nat.le_refl _) (Or.inl rfl) rfl ?_
              refine r_aload_n hZ dL_law_339 rfl ?_
              refine r_aload_n hZ dL_law_340 rfl ?_
              refine r_iload hZ dL_law_341 rfl ?_
              refine r_iconst (v := (J 1)) hZ dL_law_343 (by decide) ?_
              refine r_iadd hZ dL_law_344 ?_
              obtain ⟨x38, ex38, H⟩ := ok_bind H
              refine r_aX hZ hSc dL_law_345 ex38 ?_
              refine r_aload_n hZ dL_law_346 rfl ?_
              refine r_iload hZ dL_law_347 rfl ?_
              refine r_iconst (v := (J 2)) hZ dL_law_349 (by decide) ?_
              refine r_iadd hZ dL_law_350 ?_
              obtain ⟨x39, ex39, H⟩ := ok_bind H
              refine r_aX hZ hSc dL_law_351 ex39 ?_
              obtain ⟨u40, eu40, H⟩ := ok_bind H
              obtain ⟨r41, er41, H⟩ := ok_bind H
              refine r_callV (As := [.int x38, .int x39]) (rest := [.int r37]) (st1 := [.int r41, .int r37]) (N2 := 0) hZ dL_law_352 cw_L_38_X12 rfl eu40 (s_X12_mesh er41) rfl rfl (by decide) (Nat.le_of_ble_eq_true rfl) (by omega) (Nat.le_refl _) (Or.inl rfl) rfl ?_
              refine r_icmp_eq (tgt := 1750) hZ dL_law_355 (by decide) (fun c43 => ?_) (fun c43 => ?_)
              · have H := ok_t H c43
                obtain ⟨x42, ex42, H⟩ := ok_bind H
                refine r_iincE (w := (J 6)) hZ dL_law_1750 (by decide) rfl (by decide) ex42 (r_pick [0, 1, 2, 3, 4] (ls' := [(0, .ref (BB + 4)), (1, .ref p1), (2, .ref p2), (3, .ref p3), (4, .int x42)]) rfl ?_)
                refine r_goto (tgt := 23) hZ dL_law_1753 (by decide) ?_
                exact r_pick [0, 1, 2, 3, 4] (ls' := [(0, .ref (BB + 4)), (1, .ref p1), (2, .ref p2), (3, .ref p3), (4, .int x42)]) rfl (ih _ _ ⟨law_s0 hL hx9 ex42 hx.1, hx.2⟩ (ki_l H))
              · have H := ok_f H c43
                exact ok_none H
            · have H := ok_f H c44
              by_cases c51 : x2 = (J 4)
              · have hs : R Z 360 [(0, .ref (BB + 4)), (1, .ref p1), (2, .ref p2), (3, .ref p3), (4, .int s.1)] [] n s.2 x → R Z 40 [(0, .ref (BB + 4)), (1, .ref p1), (2, .ref p2), (3, .ref p3), (4, .int s.1)] [.int x2] n s.2 x := by
                  exact fun k => r_tableIn hZ dL_law_40 (by rw [c51]; decide) (by rw [c51]; decide) (off := 320) (by rw [c51]; rfl) (by decide) k
                refine hs ?_
                clear hs
                have H := ok_t H c51
                refine r_aload_n hZ dL_law_360 rfl ?_
                obtain ⟨u45, eu45, H⟩ := ok_bind H
                obtain ⟨r46, er46, H⟩ := ok_bind H
                refine r_callV (As := []) (rest := []) (st1 := [.int r46.1]) (N2 := 0) hZ dL_law_361 cw_L_39_X11 rfl eu45 (s_X11_locked er46) rfl rfl (by decide) (Nat.le_of_ble_eq_true rfl) (by omega) (Nat.le_refl _) (Or.inl rfl) rfl ?_
                refine r_aload_n hZ dL_law_364 rfl ?_
                obtain ⟨u47, eu47, H⟩ := ok_bind H
                obtain ⟨r48, er48, H⟩ := ok_bind H
                refine r_callV (As := []) (rest := [.int r46.1]) (st1 := [.int r48.1, .int r46.1]) (N2 := 0) hZ dL_law_365 cw_L_43_X12 rfl eu47 (s_X12_locked er48) rfl rfl (by decide) (Nat.le_of_ble_eq_true rfl) (by omega) (Nat.le_refl _) (Or.inl rfl) rfl ?_
                refine r_icmp_eq (tgt := 1750) hZ dL_law_368 (by decide) (fun c50 => ?_) (fun c50 => ?_)
                · have H := ok_t H c50
                  obtain ⟨x49, ex49, H⟩ := ok_bind H
                  refine r_iincE (w := (J 6)) hZ dL_law_1750 (by decide) rfl (by decide) ex49 (r_pick [0, 1, 2, 3, 4] (ls' := [(0, .ref (BB + 4)), (1, .ref p1), (2, .ref p2), (3, .ref p3), (4, .int x49)]) rfl ?_)
                  refine r_goto (tgt := 23) hZ dL_law_1753 (by decide) ?_
                  exact r_pick [0, 1, 2, 3, 4] (ls' := [(0, .ref (BB + 4)), (1, .ref p1), (2, .ref p2), (3, .ref p3), (4, .int x49)]) rfl (ih _ _ ⟨law_s0 hL hx9 ex49 hx.1, hx.2⟩ (ki_l H))
                · have H := ok_f H c50
                  exact ok_none H
              · have H := ok_f H c51
                by_cases c62 : x2 = (J 5)
                · have hs : R Z 373 [(0, .ref (BB + 4)), (1, .ref p1), (2, .ref p2), (3, .ref p3), (4, .int s.1)] [] n s.2 x → R Z 40 [(0, .ref (BB + 4)), (1, .ref p1), (2, .ref p2), (3, .ref p3), (4, .int s.1)] [.int x2] n s.2 x := by
                    exact fun k => r_tableIn hZ dL_law_40 (by rw [c62]; decide) (by rw [c62]; decide) (off := 333) (by rw [c62]; rfl) (by decide) k
                  refine hs ?_
                  clear hs
                  have H := ok_t H c62
                  refine r_aload_n hZ dL_law_373 rfl ?_
                  refine r_aload_n hZ dL_law_374 rfl ?_
                  refine r_iload hZ dL_law_375 rfl ?_
                  refine r_iconst (v := (J 1)) hZ dL_law_377 (by decide) ?_
                  refine r_iadd hZ dL_law_378 ?_
                  obtain ⟨x52, ex52, H⟩ := ok_bind H
                  refine r_aX hZ hSc dL_law_379 ex52 ?_
                  refine r_aload_n hZ dL_law_380 rfl ?_
                  refine r_iload hZ dL_law_381 rfl ?_
                  refine r_iconst (v := (J 2)) hZ dL_law_383 (by decide) ?_
                  refine r_iadd hZ dL_law_384 ?_
                  obtain ⟨x53, ex53, H⟩ := ok_bind H
                  refine r_aX hZ hSc dL_law_385 ex53 ?_
                  obtain ⟨u54, eu54, H⟩ := ok_bind H
                  obtain ⟨r55, er55, H⟩ := ok_bind H
                  refine r_callV (As := [.int x52, .int x53]) (rest := []) (st1 := [.long r55.1]) (N2 := 0) hZ dL_law_386 cw_L_44_X11 rfl eu54 (s_X11_speed er55) rfl rfl (by decide) (Nat.le_of_ble_eq_true rfl) (by omega) (Nat.le_refl _) (Or.inl rfl) rfl ?_
                  refine r_aload_n hZ dL_law_389 rfl ?_
                  refine r_aload_n hZ dL_law_390 rfl ?_
                  refine r_iload hZ dL_law_391 rfl ?_
                  refine r_iconst (v := (J 1)) hZ dL_law_393 (by decide) ?_
                  refine r_iadd hZ dL_law_394 ?_
                  obtain ⟨x56, ex56, H⟩ := ok_bind H
                  refine r_aX hZ hSc dL_law_395 ex56 ?_
                  refine r_aload_n hZ dL_law_396 rfl ?_
                  refine r_iload hZ dL_law_397 rfl ?_
                  refine r_iconst (v := (J 2)) hZ dL_law_399 (by decide) ?_
                  refine r_iadd hZ dL_law_400 ?_
                  obtain ⟨x57, ex57, H⟩ := ok_bind H
                  refine r_aX hZ hSc dL_law_401 ex57 ?_
                  obtain ⟨u58, eu58, H⟩ := ok_bind H
                  obtain ⟨r59, er59, H⟩ := ok_bind H
                  refine r_callV (As := [.int x56, .int x57]) (rest := [.long r55.1]) (st1 := [.long r59.1, .long r55.1]) (N2 := 0) hZ dL_law_402 cw_L_47_X12 rfl eu58 (s_X12_speed er59) rfl rfl (by decide) (Nat.le_of_ble_eq_true rfl) (by omega) (Nat.le_refl _) (Or.inl rfl) rfl ?_
                  refine r_lcmp hZ dL_law_405 ?_
                  refine r_if_eq (tgt := 1750) hZ dL_law_406 (by decide) (fun c61 => ?_) (fun c61 => ?_)
                  · have H := ok_t H c61
                    obtain ⟨x60, ex60, H⟩ := ok_bind H
                    refine r_iincE (w := (J 6)) hZ dL_law_1750 (by decide) rfl (by decide) ex60 (r_pick [0, 1, 2, 3, 4] (ls' := [(0, .ref (BB + 4)), (1, .ref p1), (2, .ref p2), (3, .ref p3), (4, .int x60)]) rfl ?_)
                    refine r_goto (tgt := 23) hZ dL_law_1753 (by decide) ?_
                    exact r_pick [0, 1, 2, 3, 4] (ls' := [(0, .ref (BB + 4)), (1, .ref p1), (2, .ref p2), (3, .ref p3), (4, .int x60)]) rfl (ih _ _ ⟨law_s0 hL hx9 ex60 hx.1, hx.2⟩ (ki_l H))
                  · have H := ok_f H c61
                    exact ok_none H
                · have H := ok_f H c62
                  by_cases c75 : x2 = (J 6)
                  · have hs : R Z 411 [(0, .ref (BB + 4)), (1, .ref p1), (2, .ref p2), (3, .ref p3), (4, .int s.1)] [] n s.2 x → R Z 40 [(0, .ref (BB + 4)), (1, .ref p1), (2, .ref p2), (3, .ref p3), (4, .int s.1)] [.int x2] n s.2 x := by
                      exact fun k => r_tableIn hZ dL_law_40 (by rw [c75]; decide) (by rw [c75]; decide) (off := 371) (by rw [c75]; rfl) (by decide) k
                    refine hs ?_
                    clear hs
                    have H := ok_t H c75
                    refine r_aload_n hZ dL_law_411 rfl ?_
                    refine r_aload_n hZ dL_law_412 rfl ?_
                    refine r_iload hZ dL_law_413 rfl ?_
                    refine r_iconst (v := (J 1)) hZ dL_law_415 (by decide) ?_
                    refine r_iadd hZ dL_law_416 ?_
                    obtain ⟨x63, ex63, H⟩ := ok_bind H
                    refine r_aX hZ hSc dL_law_417 ex63 ?_
                    refine r_aload_n hZ dL_law_418 rfl ?_
                    refine r_iload hZ dL_law_419 rfl ?_
                    refine r_iconst (v := (J 2)) hZ dL_law_421 (by decide) ?_
                    refine r_iadd hZ dL_law_422 ?_
                    obtain ⟨x64, ex64, H⟩ := ok_bind H
                    refine r_aX hZ hSc dL_law_423 ex64 ?_
                    refine r_aload_n hZ dL_law_424 rfl ?_
                    refine r_iload hZ dL_law_425 rfl ?_
                    refine r_iconst (v := (J 3)) hZ dL_law_427 (by decide) ?_
                    refine r_iadd hZ dL_law_428 ?_
                    obtain ⟨x65, ex65, H⟩ := ok_bind H
                    refine r_aX hZ hSc dL_law_429 ex65 ?_
                    obtain ⟨u66, eu66, H⟩ := ok_bind H
                    obtain ⟨r67, er67, H⟩ := ok_bind H
                    refine r_callV (As := [.int x63, .int x64, .int x65]) (rest := []) (st1 := [.int r67]) (N2 := 0) hZ dL_law_430 cw_L_48_X11 rfl eu66 (s_X11_hunt er67) rfl rfl (by decide) (Nat.le_of_ble_eq_true rfl) (by omega) (Nat.le_refl _) (Or.inl rfl) rfl ?_
                    refine r_aload_n hZ dL_law_433 rfl ?_
                    refine r_aload_n hZ dL_law_434 rfl ?_
                    refine r_iload hZ dL_law_435 rfl ?_
                    refine r_iconst (v := (J 1)) hZ dL_law_437 (by decide) ?_
                    refine r_iadd hZ dL_law_438 ?_
                    obtain ⟨x68, ex68, H⟩ := ok_bind H
                    refine r_aX hZ hSc dL_law_439 ex68 ?_
                    refine r_aload_n hZ dL_law_440 rfl ?_
                    refine r_iload hZ dL_law_441 rfl ?_
                    refine r_iconst (v := (J 2)) hZ dL_law_443 (by decide) ?_
                    refine r_iadd hZ dL_law_444 ?_
                    obtain ⟨x69, ex69, H⟩ := ok_bind H
                    refine r_aX hZ hSc dL_law_445 ex69 ?_
                    refine r_aload_n hZ dL_law_446 rfl ?_
                    refine r_iload hZ dL_law_447 rfl ?_
                    refine r_iconst (v := (J 3)) hZ dL_law_449 (by decide) ?_
                    refine r_iadd hZ dL_law_450 ?_
                    obtain ⟨x70, ex70, H⟩ := ok_bind H
                    refine r_aX hZ hSc dL_law_451 ex70 ?_
                    obtain ⟨u71, eu71, H⟩ := ok_bind H
                    obtain ⟨r72, er72, H⟩ := ok_bind H
                    refine r_callV (As := [.int x68, .int x69, .int x70]) (rest := [.int r67]) (st1 := [.int r72, .int r67]) (N2 := 0) hZ dL_law_452 cw_L_52_X12 rfl eu71 (s_X12_hunt er72) rfl rfl (by decide) (Nat.le_of_ble_eq_true rfl) (by omega) (Nat.le_refl _) (Or.inl rfl) rfl ?_
                    refine r_icmp_eq (tgt := 1750) hZ dL_law_455 (by decide) (fun c74 => ?_) (fun c74 => ?_)
                    · have H := ok_t H c74
                      obtain ⟨x73, ex73, H⟩ := ok_bind H
                      refine r_iincE (w := (J 6)) hZ dL_law_1750 (by decide) rfl (by decide) ex73 (r_pick [0, 1, 2, 3, 4] (ls' := [(0, .ref (BB + 4)), (1, .ref p1), (2, .ref p2), (3, .ref p3), (4, .int x73)]) rfl ?_)
                      refine r_goto (tgt := 23) hZ dL_law_1753 (by decide) ?_
                      exact r_pick [0, 1, 2, 3, 4] (ls' := [(0, .ref (BB + 4)), (1, .ref p1), (2, .ref p2), (3, .ref p3), (4, .int x73)]) rfl (ih _ _ ⟨law_s0 hL hx9 ex73 hx.1, hx.2⟩ (ki_l H))
                    · have H := ok_f H c74
                      exact ok_none H
                  · have H := ok_f H c75
                    by_cases c88 : x2 = (J 7)
                    · have hs : R Z 460 [(0, .ref (BB + 4)), (1, .ref p1), (2, .ref p2), (3, .ref p3), (4, .int s.1)] [] n s.2 x → R Z 40 [(0, .ref (BB + 4)), (1, .ref p1), (2, .ref p2), (3, .ref p3), (4, .int s.1)] [.int x2] n s.2 x := by
                        exact fun k => r_tableIn hZ dL_law_40 (by rw [c88]; decide) (by rw [c88]; decide) (off := 420) (by rw [c88]; rfl) (by decide) k
                      refine hs ?_
                      clear hs
                      have H := ok_t H c88
                      refine r_aload_n hZ dL_law_460 rfl ?_
                      refine r_aload_n hZ dL_law_461 rfl ?_
                      refine r_iload hZ dL_law_462 rfl ?_
                      refine r_iconst (v := (J 1)) hZ dL_law_464 (by decide) ?_
                      refine r_iadd hZ dL_law_465 ?_
                      obtain ⟨x76, ex76, H⟩ := ok_bind H
                      refine r_aX hZ hSc dL_law_466 ex76 ?_
                      refine r_aload_n hZ dL_law_467 rfl ?_
                      refine r_iload hZ dL_law_468 rfl ?_
                      refine r_iconst (v := (J 2)) hZ dL_law_470 (by decide) ?_
                      refine r_iadd hZ dL_law_471 ?_
                      obtain ⟨x77, ex77, H⟩ := ok_bind H
                      refine r_aX hZ hSc dL_law_472 ex77 ?_
                      refine r_aload_n hZ dL_law_473 rfl ?_
                      refine r_iload hZ dL_law_474 rfl ?_
                      refine r_iconst (v := (J 3)) hZ dL_law_476 (by decide) ?_
                      refine r_iadd hZ dL_law_477 ?_
                      obtain ⟨x78, ex78, H⟩ := ok_bind H
                      refine r_aX hZ hSc dL_law_478 ex78 ?_
                      obtain ⟨u79, eu79, H⟩ := ok_bind H
                      obtain ⟨r80, er80, H⟩ := ok_bind H
                      refine r_callV (As := [.int x76, .int x77, .int x78]) (rest := []) (st1 := [.int r80]) (N2 := 0) hZ dL_law_479 cw_L_53_X11 rfl eu79 (s_X11_planets er80) rfl rfl (by decide) (Nat.le_of_ble_eq_true rfl) (by omega) (Nat.le_refl _) (Or.inl rfl) rfl ?_
                      refine r_aload_n hZ dL_law_482 rfl ?_
                      refine r_aload_n hZ dL_law_483 rfl ?_
                      refine r_iload hZ dL_law_484 rfl ?_
                      refine r_iconst (v := (J 1)) hZ dL_law_486 (by decide) ?_
                      refine r_iadd hZ dL_law_487 ?_
                      obtain ⟨x81, ex81, H⟩ := ok_bind H
                      refine r_aX hZ hSc dL_law_488 ex81 ?_
                      refine r_aload_n hZ dL_law_489 rfl ?_
                      refine r_iload hZ dL_law_490 rfl ?_
                      refine r_iconst (v := (J 2)) hZ dL_law_492 (by decide) ?_
                      refine r_iadd hZ dL_law_493 ?_
                      obtain ⟨x82, ex82, H⟩ := ok_bind H
                      refine r_aX hZ hSc dL_law_494 ex82 ?_
                      refine r_aload_n hZ dL_law_495 rfl ?_
                      refine r_iload hZ dL_law_496 rfl ?_
                      refine r_iconst (v := (J 3)) hZ dL_law_498 (by decide) ?_
                      refine r_iadd hZ dL_law_499 ?_
                      obtain ⟨x83, ex83, H⟩ := ok_bind H
                      refine r_aX hZ hSc dL_law_500 ex83 ?_
                      obtain ⟨u84, eu84, H⟩ := ok_bind H
                      obtain ⟨r85, er85, H⟩ := ok_bind H
                      refine r_callV (As := [.int x81, .int x82, .int x83]) (rest := [.int r80]) (st1 := [.int r85, .int r80]) (N2 := 0) hZ dL_law_501 cw_L_56_X12 rfl eu84 (s_X12_planets er85) rfl rfl (by decide) (Nat.le_of_ble_eq_true rfl) (by omega) (Nat.le_refl _) (Or.inl rfl) rfl ?_
                      refine r_icmp_eq (tgt := 1750) hZ dL_law_504 (by decide) (fun c87 => ?_) (fun c87 => ?_)
                      · have H := ok_t H c87
                        obtain ⟨x86, ex86, H⟩ := ok_bind H
                        refine r_iincE (w := (J 6)) hZ dL_law_1750 (by decide) rfl (by decide) ex86 (r_pick [0, 1, 2, 3, 4] (ls' := [(0, .ref (BB + 4)), (1, .ref p1), (2, .ref p2), (3, .ref p3), (4, .int x86)]) rfl ?_)
                        refine r_goto (tgt := 23) hZ dL_law_1753 (by decide) ?_
                        exact r_pick [0, 1, 2, 3, 4] (ls' := [(0, .ref (BB + 4)), (1, .ref p1), (2, .ref p2), (3, .ref p3), (4, .int x86)]) rfl (ih _ _ ⟨law_s0 hL hx9 ex86 hx.1, hx.2⟩ (ki_l H))
                      · have H := ok_f H c87
                        exact ok_none H
                    · have H := ok_f H c88
                      by_cases c99 : x2 = (J 8)
                      · have hs : R Z 509 [(0, .ref (BB + 4)), (1, .ref p1), (2, .ref p2), (3, .ref p3), (4, .int s.1)] [] n s.2 x → R Z 40 [(0, .ref (BB + 4)), (1, .ref p1), (2, .ref p2), (3, .ref p3), (4, .int s.1)] [.int x2] n s.2 x := by
                          exact fun k => r_tableIn hZ dL_law_40 (by rw [c99]; decide) (by rw [c99]; decide) (off := 469) (by rw [c99]; rfl) (by decide) k
                        refine hs ?_
                        clear hs
                        have H := ok_t H c99
                        refine r_aload_n hZ dL_law_509 rfl ?_
                        refine r_aload_n hZ dL_law_510 rfl ?_
                        refine r_iload hZ dL_law_511 rfl ?_
                        refine r_iconst (v := (J 1)) hZ dL_law_513 (by decide) ?_
                        refine r_iadd hZ dL_law_514 ?_
                        obtain ⟨x89, ex89, H⟩ := ok_bind H
                        refine r_aX hZ hSc dL_law_515 ex89 ?_
                        refine r_aload_n hZ dL_law_516 rfl ?_
                        refine r_iload hZ dL_law_517 rfl ?_
                        refine r_iconst (v := (J 2)) hZ dL_law_519 (by decide) ?_
                        refine r_iadd hZ dL_law_520 ?_
                        obtain ⟨x90, ex90, H⟩ := ok_bind H
                        refine r_aX hZ hSc dL_law_521 ex90 ?_
                        obtain ⟨u91, eu91, H⟩ := ok_bind H
                        obtain ⟨r92, er92, H⟩ := ok_bind H
                        refine r_callV (As := [.int x89, .int x90]) (rest := []) (st1 := [.int r92]) (N2 := 0) hZ dL_law_522 cw_L_57_X11 rfl eu91 (s_X11_most er92) rfl rfl (by decide) (Nat.le_of_ble_eq_true rfl) (by omega) (Nat.le_refl _) (Or.inl rfl) rfl ?_
                        refine r_aload_n hZ dL_law_525 rfl ?_
                        refine r_aload_n hZ dL_law_526 rfl ?_
                        refine r_iload hZ dL_law_527 rfl ?_
                        refine r_iconst (v := (J 1)) hZ dL_law_529 (by decide) ?_
                        refine r_iadd hZ dL_law_530 ?_
                        obtain ⟨x93, ex93, H⟩ := ok_bind H
                        refine r_aX hZ hSc dL_law_531 ex93 ?_
                        refine r_aload_n hZ dL_law_532 rfl ?_
                        refine r_iload hZ dL_law_533 rfl ?_
                        refine r_iconst (v := (J 2)) hZ dL_law_535 (by decide) ?_
                        refine r_iadd hZ dL_law_536 ?_
                        obtain ⟨x94, ex94, H⟩ := ok_bind H
                        refine r_aX hZ hSc dL_law_537 ex94 ?_
                        obtain ⟨u95, eu95, H⟩ := ok_bind H
                        obtain ⟨r96, er96, H⟩ := ok_bind H
                        refine r_callV (As := [.int x93, .int x94]) (rest := [.int r92]) (st1 := [.int r96, .int r92]) (N2 := 0) hZ dL_law_538 cw_L_60_X12 rfl eu95 (s_X12_most er96) rfl rfl (by decide) (Nat.le_of_ble_eq_true rfl) (by omega) (Nat.le_refl _) (Or.inl rfl) rfl ?_
                        refine r_icmp_eq (tgt := 1750) hZ dL_law_541 (by decide) (fun c98 => ?_) (fun c98 => ?_)
                        · have H := ok_t H c98
                          obtain ⟨x97, ex97, H⟩ := ok_bind H
                          refine r_iincE (w := (J 6)) hZ dL_law_1750 (by decide) rfl (by decide) ex97 (r_pick [0, 1, 2, 3, 4] (ls' := [(0, .ref (BB + 4)), (1, .ref p1), (2, .ref p2), (3, .ref p3), (4, .int x97)]) rfl ?_)
                          refine r_goto (tgt := 23) hZ dL_law_1753 (by decide) ?_
                          exact r_pick [0, 1, 2, 3, 4] (ls' := [(0, .ref (BB + 4)), (1, .ref p1), (2, .ref p2), (3, .ref p3), (4, .int x97)]) rfl (ih _ _ ⟨law_s0 hL hx9 ex97 hx.1, hx.2⟩ (ki_l H))
                        · have H := ok_f H c98
                          exact ok_none H
                      · have H := ok_f H c99
                        by_cases c112 : x2 = (J 9)
                        · have hs : R Z 546 [(0, .ref (BB + 4)), (1, .ref p1), (2, .ref p2), (3, .ref p3), (4, .int s.1)] [] n s.2 x → R Z 40 [(0, .ref (BB + 4)), (1, .ref p1), (2, .ref p2), (3, .ref p3), (4, .int s.1)] [.int x2] n s.2 x := by
                            exact fun k => r_tableIn hZ dL_law_40 (by rw [c112]; decide) (by rw [c112]; decide) (off := 506) (by rw [c112]; rfl) (by decide) k
                          refine hs ?_
                          clear hs
                          have H := ok_t H c112
                          refine r_aload_n hZ dL_law_546 rfl ?_
                          refine r_aload_n hZ dL_law_547 rfl ?_
                          refine r_iload hZ dL_law_548 rfl ?_
                          refine r_iconst (v := (J 1)) hZ dL_law_550 (by decide) ?_
                          refine r_iadd hZ dL_law_551 ?_
                          obtain ⟨x100, ex100, H⟩ := ok_bind H
                          refine r_aX hZ hSc dL_law_552 ex100 ?_
                          refine r_aload_n hZ dL_law_553 rfl ?_
                          refine r_iload hZ dL_law_554 rfl ?_
                          refine r_iconst (v := (J 2)) hZ dL_law_556 (by decide) ?_
                          refine r_iadd hZ dL_law_557 ?_
                          obtain ⟨x101, ex101, H⟩ := ok_bind H
                          refine r_aX hZ hSc dL_law_558 ex101 ?_
                          refine r_aload_n hZ dL_law_559 rfl ?_
                          refine r_iload hZ dL_law_560 rfl ?_
                          refine r_iconst (v := (J 3)) hZ dL_law_562 (by decide) ?_
                          refine r_iadd hZ dL_law_563 ?_
                          obtain ⟨x102, ex102, H⟩ := ok_bind H
                          refine r_aX hZ hSc dL_law_564 ex102 ?_
                          obtain ⟨u103, eu103, H⟩ := ok_bind H
                          obtain ⟨r104, er104, H⟩ := ok_bind H
                          refine r_callV (As := [.int x100, .int x101, .int x102]) (rest := []) (st1 := [.int r104.1]) (N2 := 0) hZ dL_law_565 cw_L_61_X11 rfl eu103 (s_X11_cut er104) rfl rfl (by decide) (Nat.le_of_ble_eq_true rfl) (by omega) (Nat.le_refl _) (Or.inl rfl) rfl ?_
                          refine r_aload_n hZ dL_law_568 rfl ?_
                          refine r_aload_n hZ dL_law_569 rfl ?_
                          refine r_iload hZ dL_law_570 rfl ?_
                          refine r_iconst (v := (J 1)) hZ dL_law_572 (by decide) ?_
                          refine r_iadd hZ dL_law_573 ?_
                          obtain ⟨x105, ex105, H⟩ := ok_bind H
                          refine r_aX hZ hSc dL_law_574 ex105 ?_
                          refine r_aload_n hZ dL_law_575 rfl ?_
                          refine r_iload hZ dL_law_576 rfl ?_
                          refine r_iconst (v := (J 2)) hZ dL_law_578 (by decide) ?_
                          refine r_iadd hZ dL_law_579 ?_
                          obtain ⟨x106, ex106, H⟩ := ok_bind H
                          refine r_aX hZ hSc dL_law_580 ex106 ?_
                          refine r_aload_n hZ dL_law_581 rfl ?_
                          refine r_iload hZ dL_law_582 rfl ?_
                          refine r_iconst (v := (J 3)) hZ dL_law_584 (by decide) ?_
                          refine r_iadd hZ dL_law_585 ?_
                          obtain ⟨x107, ex107, H⟩ := ok_bind H
                          refine r_aX hZ hSc dL_law_586 ex107 ?_
                          obtain ⟨u108, eu108, H⟩ := ok_bind H
                          obtain ⟨r109, er109, H⟩ := ok_bind H
                          refine r_callV (As := [.int x105, .int x106, .int x107]) (rest := [.int r104.1]) (st1 := [.int r109.1, .int r104.1]) (N2 := 0) hZ dL_law_587 cw_L_64_X12 rfl eu108 (s_X12_cut er109) rfl rfl (by decide) (Nat.le_of_ble_eq_true rfl) (by omega) (Nat.le_refl _) (Or.inl rfl) rfl ?_
                          refine r_icmp_eq (tgt := 1750) hZ dL_law_590 (by decide) (fun c111 => ?_) (fun c111 => ?_)
                          · have H := ok_t H c111
                            obtain ⟨x110, ex110, H⟩ := ok_bind H
                            refine r_iincE (w := (J 6)) hZ dL_law_1750 (by decide) rfl (by decide) ex110 (r_pick [0, 1, 2, 3, 4] (ls' := [(0, .ref (BB + 4)), (1, .ref p1), (2, .ref p2), (3, .ref p3), (4, .int x110)]) rfl ?_)
                            refine r_goto (tgt := 23) hZ dL_law_1753 (by decide) ?_
                            exact r_pick [0, 1, 2, 3, 4] (ls' := [(0, .ref (BB + 4)), (1, .ref p1), (2, .ref p2), (3, .ref p3), (4, .int x110)]) rfl (ih _ _ ⟨law_s0 hL hx9 ex110 hx.1, hx.2⟩ (ki_l H))
                          · have H := ok_f H c111
                            exact ok_none H
                        · have H := ok_f H c112
                          by_cases c123 : x2 = (J 10)
                          · have hs : R Z 595 [(0, .ref (BB + 4)), (1, .ref p1), (2, .ref p2), (3, .ref p3), (4, .int s.1)] [] n s.2 x → R Z 40 [(0, .ref (BB + 4)), (1, .ref p1), (2, .ref p2), (3, .ref p3), (4, .int s.1)] [.int x2] n s.2 x := by
                              exact fun k => r_tableIn hZ dL_law_40 (by rw [c123]; decide) (by rw [c123]; decide) (off := 555) (by rw [c123]; rfl) (by decide) k
                            refine hs ?_
                            clear hs
                            have H := ok_t H c123
                            refine r_aload_n hZ dL_law_595 rfl ?_
                            refine r_aload_n hZ dL_law_596 rfl ?_
                            refine r_iload hZ dL_law_597 rfl ?_
                            refine r_iconst (v := (J 1)) hZ dL_law_599 (by decide) ?_
                            refine r_iadd hZ dL_law_600 ?_
                            obtain ⟨x113, ex113, H⟩ := ok_bind H
                            refine r_aX hZ hSc dL_law_601 ex113 ?_
                            refine r_aload_n hZ dL_law_602 rfl ?_
                            refine r_iload hZ dL_law_603 rfl ?_
                            refine r_iconst (v := (J 2)) hZ dL_law_605 (by decide) ?_
                            refine r_iadd hZ dL_law_606 ?_
                            obtain ⟨x114, ex114, H⟩ := ok_bind H
                            refine r_aX hZ hSc dL_law_607 ex114 ?_
                            obtain ⟨u115, eu115, H⟩ := ok_bind H
                            obtain ⟨r116, er116, H⟩ := ok_bind H
                            refine r_callV (As := [.int x113, .int x114]) (rest := []) (st1 := [.int r116.1]) (N2 := 0) hZ dL_law_608 cw_L_65_X11 rfl eu115 (s_X11_off er116) rfl rfl (by decide) (Nat.le_of_ble_eq_true rfl) (by omega) (Nat.le_refl _) (Or.inl rfl) rfl ?_
                            refine r_aload_n hZ dL_law_611 rfl ?_
                            refine r_aload_n hZ dL_law_612 rfl ?_
                            refine r_iload hZ dL_law_613 rfl ?_
                            refine r_iconst (v := (J 1)) hZ dL_law_615 (by decide) ?_
                            refine r_iadd hZ dL_law_616 ?_
                            obtain ⟨x117, ex117, H⟩ := ok_bind H
                            refine r_aX hZ hSc dL_law_617 ex117 ?_
                            refine r_aload_n hZ dL_law_618 rfl ?_
                            refine r_iload hZ dL_law_619 rfl ?_
                            refine r_iconst (v := (J 2)) hZ dL_law_621 (by decide) ?_
                            refine r_iadd hZ dL_law_622 ?_
                            obtain ⟨x118, ex118, H⟩ := ok_bind H
                            refine r_aX hZ hSc dL_law_623 ex118 ?_
                            obtain ⟨u119, eu119, H⟩ := ok_bind H
                            obtain ⟨r120, er120, H⟩ := ok_bind H
                            refine r_callV (As := [.int x117, .int x118]) (rest := [.int r116.1]) (st1 := [.int r120, .int r116.1]) (N2 := 0) hZ dL_law_624 cw_L_68_X12 rfl eu119 (s_X12_off er120) rfl rfl (by decide) (Nat.le_of_ble_eq_true rfl) (by omega) (Nat.le_refl _) (Or.inl rfl) rfl ?_
                            refine r_icmp_eq (tgt := 1750) hZ dL_law_627 (by decide) (fun c122 => ?_) (fun c122 => ?_)
                            · have H := ok_t H c122
                              obtain ⟨x121, ex121, H⟩ := ok_bind H
                              refine r_iincE (w := (J 6)) hZ dL_law_1750 (by decide) rfl (by decide) ex121 (r_pick [0, 1, 2, 3, 4] (ls' := [(0, .ref (BB + 4)), (1, .ref p1), (2, .ref p2), (3, .ref p3), (4, .int x121)]) rfl ?_)
                              refine r_goto (tgt := 23) hZ dL_law_1753 (by decide) ?_
                              exact r_pick [0, 1, 2, 3, 4] (ls' := [(0, .ref (BB + 4)), (1, .ref p1), (2, .ref p2), (3, .ref p3), (4, .int x121)]) rfl (ih _ _ ⟨law_s0 hL hx9 ex121 hx.1, hx.2⟩ (ki_l H))
                            · have H := ok_f H c122
                              exact ok_none H
                          · have H := ok_f H c123
                            by_cases c134 : x2 = (J 11)
                            · have hs : R Z 632 [(0, .ref (BB + 4)), (1, .ref p1), (2, .ref p2), (3, .ref p3), (4, .int s.1)] [] n s.2 x → R Z 40 [(0, .ref (BB + 4)), (1, .ref p1), (2, .ref p2), (3, .ref p3), (4, .int s.1)] [.int x2] n s.2 x := by
                                exact fun k => r_tableIn hZ dL_law_40 (by rw [c134]; decide) (by rw [c134]; decide) (off := 592) (by rw [c134]; rfl) (by decide) k
                              refine hs ?_
                              clear hs
                              have H := ok_t H c134
                              refine r_aload_n hZ dL_law_632 rfl ?_
                              refine r_aload_n hZ dL_law_633 rfl ?_
                              refine r_iload hZ dL_law_634 rfl ?_
                              refine r_iconst (v := (J 1)) hZ dL_law_636 (by decide) ?_
                              refine r_iadd hZ dL_law_637 ?_
                              obtain ⟨x124, ex124, H⟩ := ok_bind H
                              refine r_aX hZ hSc dL_law_638 ex124 ?_
                              refine r_aload_n hZ dL_law_639 rfl ?_
                              refine r_iload hZ dL_law_640 rfl ?_
                              refine r_iconst (v := (J 2)) hZ dL_law_642 (by decide) ?_
                              refine r_iadd hZ dL_law_643 ?_
                              obtain ⟨x125, ex125, H⟩ := ok_bind H
                              refine r_aX hZ hSc dL_law_644 ex125 ?_
                              obtain ⟨u126, eu126, H⟩ := ok_bind H
                              obtain ⟨r127, er127, H⟩ := ok_bind H
                              refine r_callV (As := [.int x124, .int x125]) (rest := []) (st1 := [.int r127.1]) (N2 := 0) hZ dL_law_645 cw_L_69_X11 rfl eu126 (s_X11_touch er127) rfl rfl (by decide) (Nat.le_of_ble_eq_true rfl) (by omega) (Nat.le_refl _) (Or.inl rfl) rfl ?_
                              refine r_aload_n hZ dL_law_648 rfl ?_
                              refine r_aload_n hZ dL_law_649 rfl ?_
                              refine r_iload hZ dL_law_650 rfl ?_
                              refine r_iconst (v := (J 1)) hZ dL_law_652 (by decide) ?_
                              refine r_iadd hZ dL_law_653 ?_
                              obtain ⟨x128, ex128, H⟩ := ok_bind H
                              refine r_aX hZ hSc dL_law_654 ex128 ?_
                              refine r_aload_n hZ dL_law_655 rfl ?_
                              refine r_iload hZ dL_law_656 rfl ?_
                              refine r_iconst (v := (J 2)) hZ dL_law_658 (by decide) ?_
                              refine r_iadd hZ dL_law_659 ?_
                              obtain ⟨x129, ex129, H⟩ := ok_bind H
                              refine r_aX hZ hSc dL_law_660 ex129 ?_
                              obtain ⟨u130, eu130, H⟩ := ok_bind H
                              obtain ⟨r131, er131, H⟩ := ok_bind H
                              refine r_callV (As := [.int x128, .int x129]) (rest := [.int r127.1]) (st1 := [.int r131, .int r127.1]) (N2 := 0) hZ dL_law_661 cw_L_72_X12 rfl eu130 (s_X12_touch er131) rfl rfl (by decide) (Nat.le_of_ble_eq_true rfl) (by omega) (Nat.le_refl _) (Or.inl rfl) rfl ?_
                              refine r_icmp_eq (tgt := 1750) hZ dL_law_664 (by decide) (fun c133 => ?_) (fun c133 => ?_)
                              · have H := ok_t H c133
                                obtain ⟨x132, ex132, H⟩ := ok_bind H
                                refine r_iincE (w := (J 6)) hZ dL_law_1750 (by decide) rfl (by decide) ex132 (r_pick [0, 1, 2, 3, 4] (ls' := [(0, .ref (BB + 4)), (1, .ref p1), (2, .ref p2), (3, .ref p3), (4, .int x132)]) rfl ?_)
                                refine r_goto (tgt := 23) hZ dL_law_1753 (by decide) ?_
                                exact r_pick [0, 1, 2, 3, 4] (ls' := [(0, .ref (BB + 4)), (1, .ref p1), (2, .ref p2), (3, .ref p3), (4, .int x132)]) rfl (ih _ _ ⟨law_s0 hL hx9 ex132 hx.1, hx.2⟩ (ki_l H))
                              · have H := ok_f H c133
                                exact ok_none H
                            · have H := ok_f H c134
                              by_cases c143 : x2 = (J 12)
                              · have hs : R Z 669 [(0, .ref (BB + 4)), (1, .ref p1), (2, .ref p2), (3, .ref p3), (4, .int s.1)] [] n s.2 x → R Z 40 [(0, .ref (BB + 4)), (1, .ref p1), (2, .ref p2), (3, .ref p3), (4, .int s.1)] [.int x2] n s.2 x := by
                                  exact fun k => r_tableIn hZ dL_law_40 (by rw [c143]; decide) (by rw [c143]; decide) (off := 629) (by rw [c143]; rfl) (by decide) k
                                refine hs ?_
                                clear hs
                                have H := ok_t H c143
                                refine r_aload_n hZ dL_law_669 rfl ?_
                                refine r_aload_n hZ dL_law_670 rfl ?_
                                refine r_iload hZ dL_law_671 rfl ?_
                                refine r_iconst (v := (J 1)) hZ dL_law_673 (by decide) ?_
                                refine r_iadd hZ dL_law_674 ?_
                                obtain ⟨x135, ex135, H⟩ := ok_bind H
                                refine r_aX hZ hSc dL_law_675 ex135 ?_
                                obtain ⟨u136, eu136, H⟩ := ok_bind H
                                obtain ⟨r137, er137, H⟩ := ok_bind H
                                refine r_callV (As := [.int x135]) (rest := []) (st1 := [.int r137.1]) (N2 := 0) hZ dL_law_676 cw_L_73_X11 rfl eu136 (s_X11_jam er137) rfl rfl (by decide) (Nat.le_of_ble_eq_true rfl) (by omega) (Nat.le_refl _) (Or.inl rfl) rfl ?_
                                refine r_aload_n hZ dL_law_679 rfl ?_
                                refine r_aload_n hZ dL_law_680 rfl ?_
                                refine r_iload hZ dL_law_681 rfl ?_
                                refine r_iconst (v := (J 1)) hZ dL_law_683 (by decide) ?_
                                refine r_iadd hZ dL_law_684 ?_
                                obtain ⟨x138, ex138, H⟩ := ok_bind H
                                refine r_aX hZ hSc dL_law_685 ex138 ?_
                                obtain ⟨u139, eu139, H⟩ := ok_bind H
                                obtain ⟨r140, er140, H⟩ := ok_bind H
                                refine r_callV (As := [.int x138]) (rest := [.int r137.1]) (st1 := [.int r140, .int r137.1]) (N2 := 0) hZ dL_law_686 cw_L_76_X12 rfl eu139 (s_X12_jam er140) rfl rfl (by decide) (Nat.le_of_ble_eq_true rfl) (by omega) (Nat.le_refl _) (Or.inl rfl) rfl ?_
                                refine r_icmp_eq (tgt := 1750) hZ dL_law_689 (by decide) (fun c142 => ?_) (fun c142 => ?_)
                                · have H := ok_t H c142
                                  obtain ⟨x141, ex141, H⟩ := ok_bind H
                                  refine r_iincE (w := (J 6)) hZ dL_law_1750 (by decide) rfl (by decide) ex141 (r_pick [0, 1, 2, 3, 4] (ls' := [(0, .ref (BB + 4)), (1, .ref p1), (2, .ref p2), (3, .ref p3), (4, .int x141)]) rfl ?_)
                                  refine r_goto (tgt := 23) hZ dL_law_1753 (by decide) ?_
                                  exact r_pick [0, 1, 2, 3, 4] (ls' := [(0, .ref (BB + 4)), (1, .ref p1), (2, .ref p2), (3, .ref p3), (4, .int x141)]) rfl (ih _ _ ⟨law_s0 hL hx9 ex141 hx.1, hx.2⟩ (ki_l H))
                                · have H := ok_f H c142
                                  exact ok_none H
                              · have H := ok_f H c143
                                by_cases c152 : x2 = (J 13)
                                · have hs : R Z 694 [(0, .ref (BB + 4)), (1, .ref p1), (2, .ref p2), (3, .ref p3), (4, .int s.1)] [] n s.2 x → R Z 40 [(0, .ref (BB + 4)), (1, .ref p1), (2, .ref p2), (3, .ref p3), (4, .int s.1)] [.int x2] n s.2 x := by
                                    exact fun k => r_tableIn hZ dL_law_40 (by rw [c152]; decide) (by rw [c152]; decide) (off := 654) (by rw [c152]; rfl) (by decide) k
                                  refine hs ?_
                                  clear hs
                                  have H := ok_t H c152
                                  refine r_aload_n hZ dL_law_694 rfl ?_
                                  refine r_aload_n hZ dL_law_695 rfl ?_
                                  refine r_iload hZ dL_law_696 rfl ?_
                                  refine r_iconst (v := (J 1)) hZ dL_law_698 (by decide) ?_
                                  refine r_iadd hZ dL_law_699 ?_
                                  obtain ⟨x144, ex144, H⟩ := ok_bind H
                                  refine r_aX hZ hSc dL_law_700 ex144 ?_
                                  obtain ⟨u145, eu145, H⟩ := ok_bind H
                                  obtain ⟨r146, er146, H⟩ := ok_bind H
                                  refine r_callV (As := [.int x144]) (rest := []) (st1 := [.int r146.1]) (N2 := 0) hZ dL_law_701 cw_L_77_X11 rfl eu145 (s_X11_gap er146) rfl rfl (by decide) (Nat.le_of_ble_eq_true rfl) (by omega) (Nat.le_refl _) (Or.inl rfl) rfl ?_
                                  refine r_aload_n hZ dL_law_704 rfl ?_
                                  refine r_aload_n hZ dL_law_705 rfl ?_
                                  refine r_iload hZ dL_law_706 rfl ?_
                                  refine r_iconst (v := (J 1)) hZ dL_law_708 (by decide) ?_
                                  refine r_iadd hZ dL_law_709 ?_
                                  obtain ⟨x147, ex147, H⟩ := ok_bind H
                                  refine r_aX hZ hSc dL_law_710 ex147 ?_
                                  obtain ⟨u148, eu148, H⟩ := ok_bind H
                                  obtain ⟨r149, er149, H⟩ := ok_bind H
                                  refine r_callV (As := [.int x147]) (rest := [.int r146.1]) (st1 := [.int r149, .int r146.1]) (N2 := 0) hZ dL_law_711 cw_L_80_X12 rfl eu148 (s_X12_gap er149) rfl rfl (by decide) (Nat.le_of_ble_eq_true rfl) (by omega) (Nat.le_refl _) (Or.inl rfl) rfl ?_
                                  refine r_icmp_eq (tgt := 1750) hZ dL_law_714 (by decide) (fun c151 => ?_) (fun c151 => ?_)
                                  · have H := ok_t H c151
                                    obtain ⟨x150, ex150, H⟩ := ok_bind H
                                    refine r_iincE (w := (J 6)) hZ dL_law_1750 (by decide) rfl (by decide) ex150 (r_pick [0, 1, 2, 3, 4] (ls' := [(0, .ref (BB + 4)), (1, .ref p1), (2, .ref p2), (3, .ref p3), (4, .int x150)]) rfl ?_)
                                    refine r_goto (tgt := 23) hZ dL_law_1753 (by decide) ?_
                                    exact r_pick [0, 1, 2, 3, 4] (ls' := [(0, .ref (BB + 4)), (1, .ref p1), (2, .ref p2), (3, .ref p3), (4, .int x150)]) rfl (ih _ _ ⟨law_s0 hL hx9 ex150 hx.1, hx.2⟩ (ki_l H))
                                  · have H := ok_f H c151
                                    exact ok_none H
                                · have H := ok_f H c152
                                  by_cases c161 : x2 = (J 14)
                                  · have hs : R Z 719 [(0, .ref (BB + 4)), (1, .ref p1), (2, .ref p2), (3, .ref p3), (4, .int s.1)] [] n s.2 x → R Z 40 [(0, .ref (BB + 4)), (1, .ref p1), (2, .ref p2), (3, .ref p3), (4, .int s.1)] [.int x2] n s.2 x := by
                                      exact fun k => r_tableIn hZ dL_law_40 (by rw [c161]; decide) (by rw [c161]; decide) (off := 679) (by rw [c161]; rfl) (by decide) k
                                    refine hs ?_
                                    clear hs
                                    have H := ok_t H c161
                                    refine r_aload_n hZ dL_law_719 rfl ?_
                                    refine r_aload_n hZ dL_law_720 rfl ?_
                                    refine r_iload hZ dL_law_721 rfl ?_
                                    refine r_iconst (v := (J 1)) hZ dL_law_723 (by decide) ?_
                                    refine r_iadd hZ dL_law_724 ?_
                                    obtain ⟨x153, ex153, H⟩ := ok_bind H
                                    refine r_aX hZ hSc dL_law_725 ex153 ?_
                                    obtain ⟨u154, eu154, H⟩ := ok_bind H
                                    obtain ⟨r155, er155, H⟩ := ok_bind H
                                    refine r_callV (As := [.int x153]) (rest := []) (st1 := [.int r155.1]) (N2 := 0) hZ dL_law_726 cw_L_81_X11 rfl eu154 (s_X11_even er155) rfl rfl (by decide) (Nat.le_of_ble_eq_true rfl) (by omega) (Nat.le_refl _) (Or.inl rfl) rfl ?_
                                    refine r_aload_n hZ dL_law_729 rfl ?_
                                    refine r_aload_n hZ dL_law_730 rfl ?_
                                    refine r_iload hZ dL_law_731 rfl ?_
                                    refine r_iconst (v := (J 1)) hZ dL_law_733 (by decide) ?_
                                    refine r_iadd hZ dL_law_734 ?_
                                    obtain ⟨x156, ex156, H⟩ := ok_bind H
                                    refine r_aX hZ hSc dL_law_735 ex156 ?_
                                    obtain ⟨u157, eu157, H⟩ := ok_bind H
                                    obtain ⟨r158, er158, H⟩ := ok_bind H
                                    refine r_callV (As := [.int x156]) (rest := [.int r155.1]) (st1 := [.int r158, .int r155.1]) (N2 := 0) hZ dL_law_736 cw_L_84_X12 rfl eu157 (s_X12_even er158) rfl rfl (by decide) (Nat.le_of_ble_eq_true rfl) (by omega) (Nat.le_refl _) (Or.inl rfl) rfl ?_
                                    refine r_icmp_eq (tgt := 1750) hZ dL_law_739 (by decide) (fun c160 => ?_) (fun c160 => ?_)
                                    · have H := ok_t H c160
                                      obtain ⟨x159, ex159, H⟩ := ok_bind H
                                      refine r_iincE (w := (J 6)) hZ dL_law_1750 (by decide) rfl (by decide) ex159 (r_pick [0, 1, 2, 3, 4] (ls' := [(0, .ref (BB + 4)), (1, .ref p1), (2, .ref p2), (3, .ref p3), (4, .int x159)]) rfl ?_)
                                      refine r_goto (tgt := 23) hZ dL_law_1753 (by decide) ?_
                                      exact r_pick [0, 1, 2, 3, 4] (ls' := [(0, .ref (BB + 4)), (1, .ref p1), (2, .ref p2), (3, .ref p3), (4, .int x159)]) rfl (ih _ _ ⟨law_s0 hL hx9 ex159 hx.1, hx.2⟩ (ki_l H))
                                    · have H := ok_f H c160
                                      exact ok_none H
                                  · have H := ok_f H c161
                                    by_cases c172 : x2 = (J 15)
                                    · have hs : R Z 744 [(0, .ref (BB + 4)), (1, .ref p1), (2, .ref p2), (3, .ref p3), (4, .int s.1)] [] n s.2 x → R Z 40 [(0, .ref (BB + 4)), (1, .ref p1), (2, .ref p2), (3, .ref p3), (4, .int s.1)] [.int x2] n s.2 x := by
                                        exact fun k => r_tableIn hZ dL_law_40 (by rw [c172]; decide) (by rw [c172]; decide) (off := 704) (by rw [c172]; rfl) (by decide) k
                                      refine hs ?_
                                      clear hs
                                      have H := ok_t H c172
                                      refine r_aload_n hZ dL_law_744 rfl ?_
                                      refine r_aload_n hZ dL_law_745 rfl ?_
                                      refine r_iload hZ dL_law_746 rfl ?_
                                      refine r_iconst (v := (J 1)) hZ dL_law_748 (by decide) ?_
                                      refine r_iadd hZ dL_law_749 ?_
                                      obtain ⟨x162, ex162, H⟩ := ok_bind H
                                      refine r_aX hZ hSc dL_law_750 ex162 ?_
                                      refine r_aload_n hZ dL_law_751 rfl ?_
                                      refine r_iload hZ dL_law_752 rfl ?_
                                      refine r_iconst (v := (J 2)) hZ dL_law_754 (by decide) ?_
                                      refine r_iadd hZ dL_law_755 ?_
                                      obtain ⟨x163, ex163, H⟩ := ok_bind H
                                      refine r_aX hZ hSc dL_law_756 ex163 ?_
                                      obtain ⟨u164, eu164, H⟩ := ok_bind H
                                      obtain ⟨r165, er165, H⟩ := ok_bind H
                                      refine r_callV (As := [.int x162, .int x163]) (rest := []) (st1 := [.int r165.1]) (N2 := 0) hZ dL_law_757 cw_L_85_X11 rfl eu164 (s_X11_room er165) rfl rfl (by decide) (Nat.le_of_ble_eq_true rfl) (by omega) (Nat.le_refl _) (Or.inl rfl) rfl ?_
                                      refine r_aload_n hZ dL_law_760 rfl ?_
                                      refine r_aload_n hZ dL_law_761 rfl ?_
                                      refine r_iload hZ dL_law_762 rfl ?_
                                      refine r_iconst (v := (J 1)) hZ dL_law_764 (by decide) ?_
                                      refine r_iadd hZ dL_law_765 ?_
                                      obtain ⟨x166, ex166, H⟩ := ok_bind H
                                      refine r_aX hZ hSc dL_law_766 ex166 ?_
                                      refine r_aload_n hZ dL_law_767 rfl ?_
                                      refine r_iload hZ dL_law_768 rfl ?_
                                      refine r_iconst (v := (J 2)) hZ dL_law_770 (by decide) ?_
                                      refine r_iadd hZ dL_law_771 ?_
                                      obtain ⟨x167, ex167, H⟩ := ok_bind H
                                      refine r_aX hZ hSc dL_law_772 ex167 ?_
                                      obtain ⟨u168, eu168, H⟩ := ok_bind H
                                      obtain ⟨r169, er169, H⟩ := ok_bind H
                                      refine r_callV (As := [.int x166, .int x167]) (rest := [.int r165.1]) (st1 := [.int r169.1, .int r165.1]) (N2 := 0) hZ dL_law_773 cw_L_88_X12 rfl eu168 (s_X12_room er169) rfl rfl (by decide) (Nat.le_of_ble_eq_true rfl) (by omega) (Nat.le_refl _) (Or.inl rfl) rfl ?_
                                      refine r_icmp_eq (tgt := 1750) hZ dL_law_776 (by decide) (fun c171 => ?_) (fun c171 => ?_)
                                      · have H := ok_t H c171
                                        obtain ⟨x170, ex170, H⟩ := ok_bind H
                                        refine r_iincE (w := (J 6)) hZ dL_law_1750 (by decide) rfl (by decide) ex170 (r_pick [0, 1, 2, 3, 4] (ls' := [(0, .ref (BB + 4)), (1, .ref p1), (2, .ref p2), (3, .ref p3), (4, .int x170)]) rfl ?_)
                                        refine r_goto (tgt := 23) hZ dL_law_1753 (by decide) ?_
                                        exact r_pick [0, 1, 2, 3, 4] (ls' := [(0, .ref (BB + 4)), (1, .ref p1), (2, .ref p2), (3, .ref p3), (4, .int x170)]) rfl (ih _ _ ⟨law_s0 hL hx9 ex170 hx.1, hx.2⟩ (ki_l H))
                                      · have H := ok_f H c171
                                        exact ok_none H
                                    · have H := ok_f H c172
                                      by_cases c185 : x2 = (J 16)
                                      · have hs : R Z 781 [(0, .ref (BB + 4)), (1, .ref p1), (2, .ref p2), (3, .ref p3), (4, .int s.1)] [] n s.2 x → R Z 40 [(0, .ref (BB + 4)), (1, .ref p1), (2, .ref p2), (3, .ref p3), (4, .int s.1)] [.int x2] n s.2 x := by
                                          exact fun k => r_tableIn hZ dL_law_40 (by rw [c185]; decide) (by rw [c185]; decide) (off := 741) (by rw [c185]; rfl) (by decide) k
                                        refine hs ?_
                                        clear hs
                                        have H := ok_t H c185
                                        refine r_aload_n hZ dL_law_781 rfl ?_
                                        refine r_aload_n hZ dL_law_782 rfl ?_
                                        refine r_iload hZ dL_law_783 rfl ?_
                                        refine r_iconst (v := (J 1)) hZ dL_law_785 (by decide) ?_
                                        refine r_iadd hZ dL_law_786 ?_
                                        obtain ⟨x173, ex173, H⟩ := ok_bind H
                                        refine r_aX hZ hSc dL_law_787 ex173 ?_
                                        refine r_aload_n hZ dL_law_788 rfl ?_
                                        refine r_iload hZ dL_law_789 rfl ?_
                                        refine r_iconst (v := (J 2)) hZ dL_law_791 (by decide) ?_
                                        refine r_iadd hZ dL_law_792 ?_
                                        obtain ⟨x174, ex174, H⟩ := ok_bind H
                                        refine r_aX hZ hSc dL_law_793 ex174 ?_
                                        refine r_aload_n hZ dL_law_794 rfl ?_
                                        refine r_iload hZ dL_law_795 rfl ?_
                                        refine r_iconst (v := (J 3)) hZ dL_law_797 (by decide) ?_
                                        refine r_iadd hZ dL_law_798 ?_
                                        obtain ⟨x175, ex175, H⟩ := ok_bind H
                                        refine r_aX hZ hSc dL_law_799 ex175 ?_
                                        obtain ⟨u176, eu176, H⟩ := ok_bind H
                                        obtain ⟨r177, er177, H⟩ := ok_bind H
                                        refine r_callV (As := [.int x173, .int x174, .int x175]) (rest := []) (st1 := [.int r177.1]) (N2 := 0) hZ dL_law_800 cw_L_89_X11 rfl eu176 (s_X11_wear er177) rfl rfl (by decide) (Nat.le_of_ble_eq_true rfl) (by omega) (Nat.le_refl _) (Or.inl rfl) rfl ?_
                                        refine r_aload_n hZ dL_law_803 rfl ?_
                                        refine r_aload_n hZ dL_law_804 rfl ?_
                                        refine r_iload hZ dL_law_805 rfl ?_
                                        refine r_iconst (v := (J 1)) hZ dL_law_807 (by decide) ?_
                                        refine r_iadd hZ dL_law_808 ?_
                                        obtain ⟨x178, ex178, H⟩ := ok_bind H
                                        refine r_aX hZ hSc dL_law_809 ex178 ?_
                                        refine r_aload_n hZ dL_law_810 rfl ?_
                                        refine r_iload hZ dL_law_811 rfl ?_
                                        refine r_iconst (v := (J 2)) hZ dL_law_813 (by decide) ?_
                                        refine r_iadd hZ dL_law_814 ?_
                                        obtain ⟨x179, ex179, H⟩ := ok_bind H
                                        refine r_aX hZ hSc dL_law_815 ex179 ?_
                                        refine r_aload_n hZ dL_law_816 rfl ?_
                                        refine r_iload hZ dL_law_817 rfl ?_
                                        refine r_iconst (v := (J 3)) hZ dL_law_819 (by decide) ?_
                                        refine r_iadd hZ dL_law_820 ?_
                                        obtain ⟨x180, ex180, H⟩ := ok_bind H
                                        refine r_aX hZ hSc dL_law_821 ex180 ?_
                                        obtain ⟨u181, eu181, H⟩ := ok_bind H
                                        obtain ⟨r182, er182, H⟩ := ok_bind H
                                        refine r_callV (As := [.int x178, .int x179, .int x180]) (rest := [.int r177.1]) (st1 := [.int r182.1, .int r177.1]) (N2 := 0) hZ dL_law_822 cw_L_92_X12 rfl eu181 (s_X12_wear er182) rfl rfl (by decide) (Nat.le_of_ble_eq_true rfl) (by omega) (Nat.le_refl _) (Or.inl rfl) rfl ?_
                                        refine r_icmp_eq (tgt := 1750) hZ dL_law_825 (by decide) (fun c184 => ?_) (fun c184 => ?_)
                                        · have H := ok_t H c184
                                          obtain ⟨x183, ex183, H⟩ := ok_bind H
                                          refine r_iincE (w := (J 6)) hZ dL_law_1750 (by decide) rfl (by decide) ex183 (r_pick [0, 1, 2, 3, 4] (ls' := [(0, .ref (BB + 4)), (1, .ref p1), (2, .ref p2), (3, .ref p3), (4, .int x183)]) rfl ?_)
                                          refine r_goto (tgt := 23) hZ dL_law_1753 (by decide) ?_
                                          exact r_pick [0, 1, 2, 3, 4] (ls' := [(0, .ref (BB + 4)), (1, .ref p1), (2, .ref p2), (3, .ref p3), (4, .int x183)]) rfl (ih _ _ ⟨law_s0 hL hx9 ex183 hx.1, hx.2⟩ (ki_l H))
                                        · have H := ok_f H c184
                                          exact ok_none H
                                      · have H := ok_f H c185
                                        by_cases c198 : x2 = (J 17)
                                        · have hs : R Z 830 [(0, .ref (BB + 4)), (1, .ref p1), (2, .ref p2), (3, .ref p3), (4, .int s.1)] [] n s.2 x → R Z 40 [(0, .ref (BB + 4)), (1, .ref p1), (2, .ref p2), (3, .ref p3), (4, .int s.1)] [.int x2] n s.2 x := by
                                            exact fun k => r_tableIn hZ dL_law_40 (by rw [c198]; decide) (by rw [c198]; decide) (off := 790) (by rw [c198]; rfl) (by decide) k
                                          refine hs ?_
                                          clear hs
                                          have H := ok_t H c198
                                          refine r_aload_n hZ dL_law_830 rfl ?_
                                          refine r_aload_n hZ dL_law_831 rfl ?_
                                          refine r_iload hZ dL_law_832 rfl ?_
                                          refine r_iconst (v := (J 1)) hZ dL_law_834 (by decide) ?_
                                          refine r_iadd hZ dL_law_835 ?_
                                          obtain ⟨x186, ex186, H⟩ := ok_bind H
                                          refine r_aX hZ hSc dL_law_836 ex186 ?_
                                          refine r_aload_n hZ dL_law_837 rfl ?_
                                          refine r_iload hZ dL_law_838 rfl ?_
                                          refine r_iconst (v := (J 2)) hZ dL_law_840 (by decide) ?_
                                          refine r_iadd hZ dL_law_841 ?_
                                          obtain ⟨x187, ex187, H⟩ := ok_bind H
                                          refine r_aX hZ hSc dL_law_842 ex187 ?_
                                          refine r_aload_n hZ dL_law_843 rfl ?_
                                          refine r_iload hZ dL_law_844 rfl ?_
                                          refine r_iconst (v := (J 3)) hZ dL_law_846 (by decide) ?_
                                          refine r_iadd hZ dL_law_847 ?_
                                          obtain ⟨x188, ex188, H⟩ := ok_bind H
                                          refine r_aX hZ hSc dL_law_848 ex188 ?_
                                          obtain ⟨u189, eu189, H⟩ := ok_bind H
                                          obtain ⟨r190, er190, H⟩ := ok_bind H
                                          refine r_callV (As := [.int x186, .int x187, .int x188]) (rest := []) (st1 := [.int r190.1]) (N2 := 0) hZ dL_law_849 cw_L_93_X11 rfl eu189 (s_X11_until er190) rfl rfl (by decide) (Nat.le_of_ble_eq_true rfl) (by omega) (Nat.le_refl _) (Or.inl rfl) rfl ?_
                                          refine r_aload_n hZ dL_law_852 rfl ?_
                                          refine r_aload_n hZ dL_law_853 rfl ?_
                                          refine r_iload hZ dL_law_854 rfl ?_
                                          refine r_iconst (v := (J 1)) hZ dL_law_856 (by decide) ?_
                                          refine r_iadd hZ dL_law_857 ?_
                                          obtain ⟨x191, ex191, H⟩ := ok_bind H
                                          refine r_aX hZ hSc dL_law_858 ex191 ?_
                                          refine r_aload_n hZ dL_law_859 rfl ?_
                                          refine r_iload hZ dL_law_860 rfl ?_
                                          refine r_iconst (v := (J 2)) hZ dL_law_862 (by decide) ?_
                                          refine r_iadd hZ dL_law_863 ?_
                                          obtain ⟨x192, ex192, H⟩ := ok_bind H
                                          refine r_aX hZ hSc dL_law_864 ex192 ?_
                                          refine r_aload_n hZ dL_law_865 rfl ?_
                                          refine r_iload hZ dL_law_866 rfl ?_
                                          refine r_iconst (v := (J 3)) hZ dL_law_868 (by decide) ?_
                                          refine r_iadd hZ dL_law_869 ?_
                                          obtain ⟨x193, ex193, H⟩ := ok_bind H
                                          refine r_aX hZ hSc dL_law_870 ex193 ?_
                                          obtain ⟨u194, eu194, H⟩ := ok_bind H
                                          obtain ⟨r195, er195, H⟩ := ok_bind H
                                          refine r_callV (As := [.int x191, .int x192, .int x193]) (rest := [.int r190.1]) (st1 := [.int r195.1, .int r190.1]) (N2 := 0) hZ dL_law_871 cw_L_96_X12 rfl eu194 (s_X12_until er195) rfl rfl (by decide) (Nat.le_of_ble_eq_true rfl) (by omega) (Nat.le_refl _) (Or.inl rfl) rfl ?_
                                          refine r_icmp_eq (tgt := 1750) hZ dL_law_874 (by decide) (fun c197 => ?_) (fun c197 => ?_)
                                          · have H := ok_t H c197
                                            obtain ⟨x196, ex196, H⟩ := ok_bind H
                                            refine r_iincE (w := (J 6)) hZ dL_law_1750 (by decide) rfl (by decide) ex196 (r_pick [0, 1, 2, 3, 4] (ls' := [(0, .ref (BB + 4)), (1, .ref p1), (2, .ref p2), (3, .ref p3), (4, .int x196)]) rfl ?_)
                                            refine r_goto (tgt := 23) hZ dL_law_1753 (by decide) ?_
                                            exact r_pick [0, 1, 2, 3, 4] (ls' := [(0, .ref (BB + 4)), (1, .ref p1), (2, .ref p2), (3, .ref p3), (4, .int x196)]) rfl (ih _ _ ⟨law_s0 hL hx9 ex196 hx.1, hx.2⟩ (ki_l H))
                                          · have H := ok_f H c197
                                            exact ok_none H
                                        · have H := ok_f H c198
                                          by_cases c209 : x2 = (J 18)
                                          · have hs : R Z 879 [(0, .ref (BB + 4)), (1, .ref p1), (2, .ref p2), (3, .ref p3), (4, .int s.1)] [] n s.2 x → R Z 40 [(0, .ref (BB + 4)), (1, .ref p1), (2, .ref p2), (3, .ref p3), (4, .int s.1)] [.int x2] n s.2 x := by
                                              exact fun k => r_tableIn hZ dL_law_40 (by rw [c209]; decide) (by rw [c209]; decide) (off := 839) (by rw [c209]; rfl) (by decide) k
                                            refine hs ?_
                                            clear hs
                                            have H := ok_t H c209
                                            refine r_aload_n hZ dL_law_879 rfl ?_
                                            refine r_aload_n hZ dL_law_880 rfl ?_
                                            refine r_iload hZ dL_law_881 rfl ?_
                                            refine r_iconst (v := (J 1)) hZ dL_law_883 (by decide) ?_
                                            refine r_iadd hZ dL_law_884 ?_
                                            obtain ⟨x199, ex199, H⟩ := ok_bind H
                                            refine r_aX hZ hSc dL_law_885 ex199 ?_
                                            refine r_aload_n hZ dL_law_886 rfl ?_
                                            refine r_iload hZ dL_law_887 rfl ?_
                                            refine r_iconst (v := (J 2)) hZ dL_law_889 (by decide) ?_
                                            refine r_iadd hZ dL_law_890 ?_
                                            obtain ⟨x200, ex200, H⟩ := ok_bind H
                                            refine r_aX hZ hSc dL_law_891 ex200 ?_
                                            obtain ⟨u201, eu201, H⟩ := ok_bind H
                                            obtain ⟨r202, er202, H⟩ := ok_bind H
                                            refine r_callV (As := [.int x199, .int x200]) (rest := []) (st1 := [.long r202.1]) (N2 := 0) hZ dL_law_892 cw_L_97_X11 rfl eu201 (s_X11_loud er202) rfl rfl (by decide) (Nat.le_of_ble_eq_true rfl) (by omega) (Nat.le_refl _) (Or.inl rfl) rfl ?_
                                            refine r_aload_n hZ dL_law_895 rfl ?_
                                            refine r_aload_n hZ dL_law_896 rfl ?_
                                            refine r_iload hZ dL_law_897 rfl ?_
                                            refine r_iconst (v := (J 1)) hZ dL_law_899 (by decide) ?_
                                            refine r_iadd hZ dL_law_900 ?_
                                            obtain ⟨x203, ex203, H⟩ := ok_bind H
                                            refine r_aX hZ hSc dL_law_901 ex203 ?_
                                            refine r_aload_n hZ dL_law_902 rfl ?_
                                            refine r_iload hZ dL_law_903 rfl ?_
                                            refine r_iconst (v := (J 2)) hZ dL_law_905 (by decide) ?_
                                            refine r_iadd hZ dL_law_906 ?_
                                            obtain ⟨x204, ex204, H⟩ := ok_bind H
                                            refine r_aX hZ hSc dL_law_907 ex204 ?_
                                            obtain ⟨u205, eu205, H⟩ := ok_bind H
                                            obtain ⟨r206, er206, H⟩ := ok_bind H
                                            refine r_callV (As := [.int x203, .int x204]) (rest := [.long r202.1]) (st1 := [.long r206, .long r202.1]) (N2 := 0) hZ dL_law_908 cw_L_100_X12 rfl eu205 (s_X12_loud er206) rfl rfl (by decide) (Nat.le_of_ble_eq_true rfl) (by omega) (Nat.le_refl _) (Or.inl rfl) rfl ?_
                                            refine r_lcmp hZ dL_law_911 ?_
                                            refine r_if_eq (tgt := 1750) hZ dL_law_912 (by decide) (fun c208 => ?_) (fun c208 => ?_)
                                            · have H := ok_t H c208
                                              obtain ⟨x207, ex207, H⟩ := ok_bind H
                                              refine r_iincE (w := (J 6)) hZ dL_law_1750 (by decide) rfl (by decide) ex207 (r_pick [0, 1, 2, 3, 4] (ls' := [(0, .ref (BB + 4)), (1, .ref p1), (2, .ref p2), (3, .ref p3), (4, .int x207)]) rfl ?_)
                                              refine r_goto (tgt := 23) hZ dL_law_1753 (by decide) ?_
                                              exact r_pick [0, 1, 2, 3, 4] (ls' := [(0, .ref (BB + 4)), (1, .ref p1), (2, .ref p2), (3, .ref p3), (4, .int x207)]) rfl (ih _ _ ⟨law_s0 hL hx9 ex207 hx.1, hx.2⟩ (ki_l H))
                                            · have H := ok_f H c208
                                              exact ok_none H
                                          · have H := ok_f H c209
                                            by_cases c218 : x2 = (J 19)
                                            · have hs : R Z 917 [(0, .ref (BB + 4)), (1, .ref p1), (2, .ref p2), (3, .ref p3), (4, .int s.1)] [] n s.2 x → R Z 40 [(0, .ref (BB + 4)), (1, .ref p1), (2, .ref p2), (3, .ref p3), (4, .int s.1)] [.int x2] n s.2 x := by
                                                exact fun k => r_tableIn hZ dL_law_40 (by rw [c218]; decide) (by rw [c218]; decide) (off := 877) (by rw [c218]; rfl) (by decide) k
                                              refine hs ?_
                                              clear hs
                                              have H := ok_t H c218
                                              refine r_aload_n hZ dL_law_917 rfl ?_
                                              refine r_aload_n hZ dL_law_918 rfl ?_
                                              refine r_iload hZ dL_law_919 rfl ?_
                                              refine r_iconst (v := (J 1)) hZ dL_law_921 (by decide) ?_
                                              refine r_iadd hZ dL_law_922 ?_
                                              obtain ⟨x210, ex210, H⟩ := ok_bind H
                                              refine r_aX hZ hSc dL_law_923 ex210 ?_
                                              obtain ⟨u211, eu211, H⟩ := ok_bind H
                                              obtain ⟨r212, er212, H⟩ := ok_bind H
                                              refine r_callV (As := [.int x210]) (rest := []) (st1 := [.int r212.1]) (N2 := 0) hZ dL_law_924 cw_L_101_X11 rfl eu211 (s_X11_whine er212) rfl rfl (by decide) (Nat.le_of_ble_eq_true rfl) (by omega) (Nat.le_refl _) (Or.inl rfl) rfl ?_
                                              refine r_aload_n hZ dL_law_927 rfl ?_
                                              refine r_aload_n hZ dL_law_928 rfl ?_
                                              refine r_iload hZ dL_law_929 rfl ?_
                                              refine r_iconst (v := (J 1)) hZ dL_law_931 (by decide) ?_
                                              refine r_iadd hZ dL_law_932 ?_
                                              obtain ⟨x213, ex213, H⟩ := ok_bind H
                                              refine r_aX hZ hSc dL_law_933 ex213 ?_
                                              obtain ⟨u214, eu214, H⟩ := ok_bind H
                                              obtain ⟨r215, er215, H⟩ := ok_bind H
                                              refine r_callV (As := [.int x213]) (rest := [.int r212.1]) (st1 := [.int r215, .int r212.1]) (N2 := 0) hZ dL_law_934 cw_L_104_X12 rfl eu214 (s_X12_whine er215) rfl rfl (by decide) (Nat.le_of_ble_eq_true rfl) (by omega) (Nat.le_refl _) (Or.inl rfl) rfl ?_
                                              refine r_icmp_eq (tgt := 1750) hZ dL_law_937 (by decide) (fun c217 => ?_) (fun c217 => ?_)
                                              · have H := ok_t H c217
                                                obtain ⟨x216, ex216, H⟩ := ok_bind H
                                                refine r_iincE (w := (J 6)) hZ dL_law_1750 (by decide) rfl (by decide) ex216 (r_pick [0, 1, 2, 3, 4] (ls' := [(0, .ref (BB + 4)), (1, .ref p1), (2, .ref p2), (3, .ref p3), (4, .int x216)]) rfl ?_)
                                                refine r_goto (tgt := 23) hZ dL_law_1753 (by decide) ?_
                                                exact r_pick [0, 1, 2, 3, 4] (ls' := [(0, .ref (BB + 4)), (1, .ref p1), (2, .ref p2), (3, .ref p3), (4, .int x216)]) rfl (ih _ _ ⟨law_s0 hL hx9 ex216 hx.1, hx.2⟩ (ki_l H))
                                              · have H := ok_f H c217
                                                exact ok_none H
                                            · have H := ok_f H c218
                                              by_cases c229 : x2 = (J 20)
                                              · have hs : R Z 942 [(0, .ref (BB + 4)), (1, .ref p1), (2, .ref p2), (3, .ref p3), (4, .int s.1)] [] n s.2 x → R Z 40 [(0, .ref (BB + 4)), (1, .ref p1), (2, .ref p2), (3, .ref p3), (4, .int s.1)] [.int x2] n s.2 x := by
                                                  exact fun k => r_tableIn hZ dL_law_40 (by rw [c229]; decide) (by rw [c229]; decide) (off := 902) (by rw [c229]; rfl) (by decide) k
                                                refine hs ?_
                                                clear hs
                                                have H := ok_t H c229
                                                refine r_aload_n hZ dL_law_942 rfl ?_
                                                refine r_aload_n hZ dL_law_943 rfl ?_
                                                refine r_iload hZ dL_law_944 rfl ?_
                                                refine r_iconst (v := (J 1)) hZ dL_law_946 (by decide) ?_
                                                refine r_iadd hZ dL_law_947 ?_
                                                obtain ⟨x219, ex219, H⟩ := ok_bind H
                                                refine r_aX hZ hSc dL_law_948 ex219 ?_
                                                refine r_aload_n hZ dL_law_949 rfl ?_
                                                refine r_iload hZ dL_law_950 rfl ?_
                                                refine r_iconst (v := (J 2)) hZ dL_law_952 (by decide) ?_
                                                refine r_iadd hZ dL_law_953 ?_
                                                obtain ⟨x220, ex220, H⟩ := ok_bind H
                                                refine r_aX hZ hSc dL_law_954 ex220 ?_
                                                obtain ⟨u221, eu221, H⟩ := ok_bind H
                                                obtain ⟨r222, er222, H⟩ := ok_bind H
                                                refine r_callV (As := [.int x219, .int x220]) (rest := []) (st1 := [.int r222.1]) (N2 := 0) hZ dL_law_955 cw_L_105_X11 rfl eu221 (s_X11_pair er222) rfl rfl (by decide) (Nat.le_of_ble_eq_true rfl) (by omega) (Nat.le_refl _) (Or.inl rfl) rfl ?_
                                                refine r_aload_n hZ dL_law_958 rfl ?_
                                                refine r_aload_n hZ dL_law_959 rfl ?_
                                                refine r_iload hZ dL_law_960 rfl ?_
                                                refine r_iconst (v := (J 1)) hZ dL_law_962 (by decide) ?_
                                                refine r_iadd hZ dL_law_963 ?_
                                                obtain ⟨x223, ex223, H⟩ := ok_bind H
                                                refine r_aX hZ hSc dL_law_964 ex223 ?_
                                                refine r_aload_n hZ dL_law_965 rfl ?_
                                                refine r_iload hZ dL_law_966 rfl ?_
                                                refine r_iconst (v := (J 2)) hZ dL_law_968 (by decide) ?_
                                                refine r_iadd hZ dL_law_969 ?_
                                                obtain ⟨x224, ex224, H⟩ := ok_bind H
                                                refine r_aX hZ hSc dL_law_970 ex224 ?_
                                                obtain ⟨u225, eu225, H⟩ := ok_bind H
                                                obtain ⟨r226, er226, H⟩ := ok_bind H
                                                refine r_callV (As := [.int x223, .int x224]) (rest := [.int r222.1]) (st1 := [.int r226.1, .int r222.1]) (N2 := 0) hZ dL_law_971 cw_L_108_X12 rfl eu225 (s_X12_pair er226) rfl rfl (by decide) (Nat.le_of_ble_eq_true rfl) (by omega) (Nat.le_refl _) (Or.inl rfl) rfl ?_
                                                refine r_icmp_eq (tgt := 1750) hZ dL_law_974 (by decide) (fun c228 => ?_) (fun c228 => ?_)
                                                · have H := ok_t H c228
                                                  obtain ⟨x227, ex227, H⟩ := ok_bind H
                                                  refine r_iincE (w := (J 6)) hZ dL_law_1750 (by decide) rfl (by decide) ex227 (r_pick [0, 1, 2, 3, 4] (ls' := [(0, .ref (BB + 4)), (1, .ref p1), (2, .ref p2), (3, .ref p3), (4, .int x227)]) rfl ?_)
                                                  refine r_goto (tgt := 23) hZ dL_law_1753 (by decide) ?_
                                                  exact r_pick [0, 1, 2, 3, 4] (ls' := [(0, .ref (BB + 4)), (1, .ref p1), (2, .ref p2), (3, .ref p3), (4, .int x227)]) rfl (ih _ _ ⟨law_s0 hL hx9 ex227 hx.1, hx.2⟩ (ki_l H))
                                                · have H := ok_f H c228
                                                  exact ok_none H
                                              · have H := ok_f H c229
                                                by_cases c236 : x2 = (J 21)
                                                · have hs : R Z 979 [(0, .ref (BB + 4)), (1, .ref p1), (2, .ref p2), (3, .ref p3), (4, .int s.1)] [] n s.2 x → R Z 40 [(0, .ref (BB + 4)), (1, .ref p1), (2, .ref p2), (3, .ref p3), (4, .int s.1)] [.int x2] n s.2 x := by
                                                    exact fun k => r_tableIn hZ dL_law_40 (by rw [c236]; decide) (by rw [c236]; decide) (off := 939) (by rw [c236]; rfl) (by decide) k
                                                  refine hs ?_
                                                  clear hs
                                                  have H := ok_t H c236
                                                  refine r_aload_n hZ dL_law_979 rfl ?_
                                                  obtain ⟨u230, eu230, H⟩ := ok_bind H
                                                  obtain ⟨r231, er231, H⟩ := ok_bind H
                                                  refine r_callV (As := []) (rest := []) (st1 := [.int r231.1]) (N2 := 0) hZ dL_law_980 cw_L_109_X11 rfl eu230 (s_X11_clear er231) rfl rfl (by decide) (Nat.le_of_ble_eq_true rfl) (by omega) (Nat.le_refl _) (Or.inl rfl) rfl ?_
                                                  refine r_aload_n hZ dL_law_983 rfl ?_
                                                  obtain ⟨u232, eu232, H⟩ := ok_bind H
                                                  obtain ⟨r233, er233, H⟩ := ok_bind H
                                                  refine r_callV (As := []) (rest := [.int r231.1]) (st1 := [.int r233.1, .int r231.1]) (N2 := 0) hZ dL_law_984 cw_L_112_X12 rfl eu232 (s_X12_clear er233) rfl rfl (by decide) (Nat.le_of_ble_eq_true rfl) (by omega) (Nat.le_refl _) (Or.inl rfl) rfl ?_
                                                  refine r_icmp_eq (tgt := 1750) hZ dL_law_987 (by decide) (fun c235 => ?_) (fun c235 => ?_)
                                                  · have H := ok_t H c235
                                                    obtain ⟨x234, ex234, H⟩ := ok_bind H
                                                    refine r_iincE (w := (J 6)) hZ dL_law_1750 (by decide) rfl (by decide) ex234 (r_pick [0, 1, 2, 3, 4] (ls' := [(0, .ref (BB + 4)), (1, .ref p1), (2, .ref p2), (3, .ref p3), (4, .int x234)]) rfl ?_)
                                                    refine r_goto (tgt := 23) hZ dL_law_1753 (by decide) ?_
                                                    exact r_pick [0, 1, 2, 3, 4] (ls' := [(0, .ref (BB + 4)), (1, .ref p1), (2, .ref p2), (3, .ref p3), (4, .int x234)]) rfl (ih _ _ ⟨law_s0 hL hx9 ex234 hx.1, hx.2⟩ (ki_l H))
                                                  · have H := ok_f H c235
                                                    exact ok_none H
                                                · have H := ok_f H c236
                                                  by_cases c245 : x2 = (J 22)
                                                  · have hs : R Z 992 [(0, .ref (BB + 4)), (1, .ref p1), (2, .ref p2), (3, .ref p3), (4, .int s.1)] [] n s.2 x → R Z 40 [(0, .ref (BB + 4)), (1, .ref p1), (2, .ref p2), (3, .ref p3), (4, .int s.1)] [.int x2] n s.2 x := by
                                                      exact fun k => r_tableIn hZ dL_law_40 (by rw [c245]; decide) (by rw [c245]; decide) (off := 952) (by rw [c245]; rfl) (by decide) k
                                                    refine hs ?_
                                                    clear hs
                                                    have H := ok_t H c245
                                                    refine r_aload_n hZ dL_law_992 rfl ?_
                                                    refine r_aload_n hZ dL_law_993 rfl ?_
                                                    refine r_iload hZ dL_law_994 rfl ?_
                                                    refine r_iconst (v := (J 1)) hZ dL_law_996 (by decide) ?_
                                                    refine r_iadd hZ dL_law_997 ?_
                                                    obtain ⟨x237, ex237, H⟩ := ok_bind H
                                                    refine r_aX hZ hSc dL_law_998 ex237 ?_
                                                    obtain ⟨u238, eu238, H⟩ := ok_bind H
                                                    obtain ⟨r239, er239, H⟩ := ok_bind H
                                                    refine r_callV (As := [.int x237]) (rest := []) (st1 := [.int r239]) (N2 := 0) hZ dL_law_999 cw_L_113_X11 rfl eu238 (s_X11_pushed er239) rfl rfl (by decide) (Nat.le_of_ble_eq_true rfl) (by omega) (Nat.le_refl _) (Or.inl rfl) rfl ?_
                                                    refine r_aload_n hZ dL_law_1002 rfl ?_
                                                    refine r_aload_n hZ dL_law_1003 rfl ?_
                                                    refine r_iload hZ dL_law_1004 rfl ?_
                                                    refine r_iconst (v := (J 1)) hZ dL_law_1006 (by decide) ?_
                                                    refine r_iadd hZ dL_law_1007 ?_
                                                    obtain ⟨x240, ex240, H⟩ := ok_bind H
                                                    refine r_aX hZ hSc dL_law_1008 ex240 ?_
                                                    obtain ⟨u241, eu241, H⟩ := ok_bind H
                                                    obtain ⟨r242, er242, H⟩ := ok_bind H
                                                    refine r_callV (As := [.int x240]) (rest := [.int r239]) (st1 := [.int r242, .int r239]) (N2 := 0) hZ dL_law_1009 cw_L_116_X12 rfl eu241 (s_X12_pushed er242) rfl rfl (by decide) (Nat.le_of_ble_eq_true rfl) (by omega) (Nat.le_refl _) (Or.inl rfl) rfl ?_
                                                    refine r_icmp_eq (tgt := 1750) hZ dL_law_1012 (by decide) (fun c244 => ?_) (fun c244 => ?_)
                                                    · have H := ok_t H c244
                                                      obtain ⟨x243, ex243, H⟩ := ok_bind H
                                                      refine r_iincE (w := (J 6)) hZ dL_law_1750 (by decide) rfl (by decide) ex243 (r_pick [0, 1, 2, 3, 4] (ls' := [(0, .ref (BB + 4)), (1, .ref p1), (2, .ref p2), (3, .ref p3), (4, .int x243)]) rfl ?_)
                                                      refine r_goto (tgt := 23) hZ dL_law_1753 (by decide) ?_
                                                      exact r_pick [0, 1, 2, 3, 4] (ls' := [(0, .ref (BB + 4)), (1, .ref p1), (2, .ref p2), (3, .ref p3), (4, .int x243)]) rfl (ih _ _ ⟨law_s0 hL hx9 ex243 hx.1, hx.2⟩ (ki_l H))
                                                    · have H := ok_f H c244
                                                      exact ok_none H
                                                  · have H := ok_f H c245
                                                    by_cases c256 : x2 = (J 23)
                                                    · have hs : R Z 1017 [(0, .ref (BB + 4)), (1, .ref p1), (2, .ref p2), (3, .ref p3), (4, .int s.1)] [] n s.2 x → R Z 40 [(0, .ref (BB + 4)), (1, .ref p1), (2, .ref p2), (3, .ref p3), (4, .int s.1)] [.int x2] n s.2 x := by
                                                        exact fun k => r_tableIn hZ dL_law_40 (by rw [c256]; decide) (by rw [c256]; decide) (off := 977) (by rw [c256]; rfl) (by decide) k
                                                      refine hs ?_
                                                      clear hs
                                                      have H := ok_t H c256
                                                      refine r_aload_n hZ dL_law_1017 rfl ?_
                                                      refine r_aload_n hZ dL_law_1018 rfl ?_
                                                      refine r_iload hZ dL_law_1019 rfl ?_
                                                      refine r_iconst (v := (J 1)) hZ dL_law_1021 (by decide) ?_
                                                      refine r_iadd hZ dL_law_1022 ?_
                                                      obtain ⟨x246, ex246, H⟩ := ok_bind H
                                                      refine r_aX hZ hSc dL_law_1023 ex246 ?_
                                                      refine r_aload_n hZ dL_law_1024 rfl ?_
                                                      refine r_iload hZ dL_law_1025 rfl ?_
                                                      refine r_iconst (v := (J 2)) hZ dL_law_1027 (by decide) ?_
                                                      refine r_iadd hZ dL_law_1028 ?_
                                                      obtain ⟨x247, ex247, H⟩ := ok_bind H
                                                      refine r_aX hZ hSc dL_law_1029 ex247 ?_
                                                      obtain ⟨u248, eu248, H⟩ := ok_bind H
                                                      obtain ⟨r249, er249, H⟩ := ok_bind H
                                                      refine r_callV (As := [.int x246, .int x247]) (rest := []) (st1 := [.int r249]) (N2 := 0) hZ dL_law_1030 cw_L_117_X11 rfl eu248 (s_X11_share er249) rfl rfl (by decide) (Nat.le_of_ble_eq_true rfl) (by omega) (Nat.le_refl _) (Or.inl rfl) rfl ?_
                                                      refine r_aload_n hZ dL_law_1033 rfl ?_
                                                      refine r_aload_n hZ dL_law_1034 rfl ?_
                                                      refine r_iload hZ dL_law_1035 rfl ?_
                                                      refine r_iconst (v := (J 1)) hZ dL_law_1037 (by decide) ?_
                                                      refine r_iadd hZ dL_law_1038 ?_
                                                      obtain ⟨x250, ex250, H⟩ := ok_bind H
                                                      refine r_aX hZ hSc dL_law_1039 ex250 ?_
                                                      refine r_aload_n hZ dL_law_1040 rfl ?_
                                                      refine r_iload hZ dL_law_1041 rfl ?_
                                                      refine r_iconst (v := (J 2)) hZ dL_law_1043 (by decide) ?_
                                                      refine r_iadd hZ dL_law_1044 ?_
                                                      obtain ⟨x251, ex251, H⟩ := ok_bind H
                                                      refine r_aX hZ hSc dL_law_1045 ex251 ?_
                                                      obtain ⟨u252, eu252, H⟩ := ok_bind H
                                                      obtain ⟨r253, er253, H⟩ := ok_bind H
                                                      refine r_callV (As := [.int x250, .int x251]) (rest := [.int r249]) (st1 := [.int r253, .int r249]) (N2 := 0) hZ dL_law_1046 cw_L_120_X12 rfl eu252 (s_X12_share er253) rfl rfl (by decide) (Nat.le_of_ble_eq_true rfl) (by omega) (Nat.le_refl _) (Or.inl rfl) rfl ?_
                                                      refine r_icmp_eq (tgt := 1750) hZ dL_law_1049 (by decide) (fun c255 => ?_) (fun c255 => ?_)
                                                      · have H := ok_t H c255
                                                        obtain ⟨x254, ex254, H⟩ := ok_bind H
                                                        refine r_iincE (w := (J 6)) hZ dL_law_1750 (by decide) rfl (by decide) ex254 (r_pick [0, 1, 2, 3, 4] (ls' := [(0, .ref (BB + 4)), (1, .ref p1), (2, .ref p2), (3, .ref p3), (4, .int x254)]) rfl ?_)
                                                        refine r_goto (tgt := 23) hZ dL_law_1753 (by decide) ?_
                                                        exact r_pick [0, 1, 2, 3, 4] (ls' := [(0, .ref (BB + 4)), (1, .ref p1), (2, .ref p2), (3, .ref p3), (4, .int x254)]) rfl (ih _ _ ⟨law_s0 hL hx9 ex254 hx.1, hx.2⟩ (ki_l H))
                                                      · have H := ok_f H c255
                                                        exact ok_none H
                                                    · have H := ok_f H c256
                                                      by_cases c265 : x2 = (J 24)
                                                      · have hs : R Z 1054 [(0, .ref (BB + 4)), (1, .ref p1), (2, .ref p2), (3, .ref p3), (4, .int s.1)] [] n s.2 x → R Z 40 [(0, .ref (BB + 4)), (1, .ref p1), (2, .ref p2), (3, .ref p3), (4, .int s.1)] [.int x2] n s.2 x := by
                                                          exact fun k => r_tableIn hZ dL_law_40 (by rw [c265]; decide) (by rw [c265]; decide) (off := 1014) (by rw [c265]; rfl) (by decide) k
                                                        refine hs ?_
                                                        clear hs
                                                        have H := ok_t H c265
                                                        refine r_aload_n hZ dL_law_1054 rfl ?_
                                                        refine r_aload_n hZ dL_law_1055 rfl ?_
                                                        refine r_iload hZ dL_law_1056 rfl ?_
                                                        refine r_iconst (v := (J 1)) hZ dL_law_1058 (by decide) ?_
                                                        refine r_iadd hZ dL_law_1059 ?_
                                                        obtain ⟨x257, ex257, H⟩ := ok_bind H
                                                        refine r_aX hZ hSc dL_law_1060 ex257 ?_
                                                        obtain ⟨u258, eu258, H⟩ := ok_bind H
                                                        obtain ⟨r259, er259, H⟩ := ok_bind H
                                                        refine r_callV (As := [.int x257]) (rest := []) (st1 := [.int r259]) (N2 := 0) hZ dL_law_1061 cw_L_121_X11 rfl eu258 (s_X11_bearing er259) rfl rfl (by decide) (Nat.le_of_ble_eq_true rfl) (by omega) (Nat.le_refl _) (Or.inl rfl) rfl ?_
                                                        refine r_aload_n hZ dL_law_1064 rfl ?_
                                                        refine r_aload_n hZ dL_law_1065 rfl ?_
                                                        refine r_iload hZ dL_law_1066 rfl ?_
                                                        refine r_iconst (v := (J 1)) hZ dL_law_1068 (by decide) ?_
                                                        refine r_iadd hZ dL_law_1069 ?_
                                                        obtain ⟨x260, ex260, H⟩ := ok_bind H
                                                        refine r_aX hZ hSc dL_law_1070 ex260 ?_
                                                        obtain ⟨u261, eu261, H⟩ := ok_bind H
                                                        obtain ⟨r262, er262, H⟩ := ok_bind H
                                                        refine r_callV (As := [.int x260]) (rest := [.int r259]) (st1 := [.int r262, .int r259]) (N2 := 0) hZ dL_law_1071 cw_L_124_X12 rfl eu261 (s_X12_bearing er262) rfl rfl (by decide) (Nat.le_of_ble_eq_true rfl) (by omega) (Nat.le_refl _) (Or.inl rfl) rfl ?_
                                                        refine r_icmp_eq (tgt := 1750) hZ dL_law_1074 (by decide) (fun c264 => ?_) (fun c264 => ?_)
                                                        · have H := ok_t H c264
                                                          obtain ⟨x263, ex263, H⟩ := ok_bind H
                                                          refine r_iincE (w := (J 6)) hZ dL_law_1750 (by decide) rfl (by decide) ex263 (r_pick [0, 1, 2, 3, 4] (ls' := [(0, .ref (BB + 4)), (1, .ref p1), (2, .ref p2), (3, .ref p3), (4, .int x263)]) rfl ?_)
                                                          refine r_goto (tgt := 23) hZ dL_law_1753 (by decide) ?_
                                                          exact r_pick [0, 1, 2, 3, 4] (ls' := [(0, .ref (BB + 4)), (1, .ref p1), (2, .ref p2), (3, .ref p3), (4, .int x263)]) rfl (ih _ _ ⟨law_s0 hL hx9 ex263 hx.1, hx.2⟩ (ki_l H))
                                                        · have H := ok_f H c264
                                                          exact ok_none H
                                                      · have H := ok_f H c265
                                                        by_cases c274 : x2 = (J 25)
                                                        · have hs : R Z 1079 [(0, .ref (BB + 4)), (1, .ref p1), (2, .ref p2), (3, .ref p3), (4, .int s.1)] [] n s.2 x → R Z 40 [(0, .ref (BB + 4)), (1, .ref p1), (2, .ref p2), (3, .ref p3), (4, .int s.1)] [.int x2] n s.2 x := by
                                                            exact fun k => r_tableIn hZ dL_law_40 (by rw [c274]; decide) (by rw [c274]; decide) (off := 1039) (by rw [c274]; rfl) (by decide) k
                                                          refine hs ?_
                                                          clear hs
                                                          have H := ok_t H c274
                                                          refine r_aload_n hZ dL_law_1079 rfl ?_
                                                          refine r_aload_n hZ dL_law_1080 rfl ?_
                                                          refine r_iload hZ dL_law_1081 rfl ?_
                                                          refine r_iconst (v := (J 1)) hZ dL_law_1083 (by decide) ?_
                                                          refine r_iadd hZ dL_law_1084 ?_
                                                          obtain ⟨x266, ex266, H⟩ := ok_bind H
                                                          refine r_aX hZ hSc dL_law_1085 ex266 ?_
                                                          obtain ⟨u267, eu267, H⟩ := ok_bind H
                                                          obtain ⟨r268, er268, H⟩ := ok_bind H
                                                          refine r_callV (As := [.int x266]) (rest := []) (st1 := [.int r268.1]) (N2 := 0) hZ dL_law_1086 cw_L_125_X11 rfl eu267 (s_X11_fault er268) rfl rfl (by decide) (Nat.le_of_ble_eq_true rfl) (by omega) (Nat.le_refl _) (Or.inl rfl) rfl ?_
                                                          refine r_aload_n hZ dL_law_1089 rfl ?_
                                                          refine r_aload_n hZ dL_law_1090 rfl ?_
                                                          refine r_iload hZ dL_law_1091 rfl ?_
                                                          refine r_iconst (v := (J 1)) hZ dL_law_1093 (by decide) ?_
                                                          refine r_iadd hZ dL_law_1094 ?_
                                                          obtain ⟨x269, ex269, H⟩ := ok_bind H
                                                          refine r_aX hZ hSc dL_law_1095 ex269 ?_
                                                          obtain ⟨u270, eu270, H⟩ := ok_bind H
                                                          obtain ⟨r271, er271, H⟩ := ok_bind H
                                                          refine r_callV (As := [.int x269]) (rest := [.int r268.1]) (st1 := [.int r271.1, .int r268.1]) (N2 := 0) hZ dL_law_1096 cw_L_128_X12 rfl eu270 (s_X12_fault er271) rfl rfl (by decide) (Nat.le_of_ble_eq_true rfl) (by omega) (Nat.le_refl _) (Or.inl rfl) rfl ?_
                                                          refine r_icmp_eq (tgt := 1750) hZ dL_law_1099 (by decide) (fun c273 => ?_) (fun c273 => ?_)
                                                          · have H := ok_t H c273
                                                            obtain ⟨x272, ex272, H⟩ := ok_bind H
                                                            refine r_iincE (w := (J 6)) hZ dL_law_1750 (by decide) rfl (by decide) ex272 (r_pick [0, 1, 2, 3, 4] (ls' := [(0, .ref (BB + 4)), (1, .ref p1), (2, .ref p2), (3, .ref p3), (4, .int x272)]) rfl ?_)
                                                            refine r_goto (tgt := 23) hZ dL_law_1753 (by decide) ?_
                                                            exact r_pick [0, 1, 2, 3, 4] (ls' := [(0, .ref (BB + 4)), (1, .ref p1), (2, .ref p2), (3, .ref p3), (4, .int x272)]) rfl (ih _ _ ⟨law_s0 hL hx9 ex272 hx.1, hx.2⟩ (ki_l H))
                                                          · have H := ok_f H c273
                                                            exact ok_none H
                                                        · have H := ok_f H c274
                                                          by_cases c283 : x2 = (J 26)
                                                          · have hs : R Z 1104 [(0, .ref (BB + 4)), (1, .ref p1), (2, .ref p2), (3, .ref p3), (4, .int s.1)] [] n s.2 x → R Z 40 [(0, .ref (BB + 4)), (1, .ref p1), (2, .ref p2), (3, .ref p3), (4, .int s.1)] [.int x2] n s.2 x := by
                                                              exact fun k => r_tableIn hZ dL_law_40 (by rw [c283]; decide) (by rw [c283]; decide) (off := 1064) (by rw [c283]; rfl) (by decide) k
                                                            refine hs ?_
                                                            clear hs
                                                            have H := ok_t H c283
                                                            refine r_aload_n hZ dL_law_1104 rfl ?_
                                                            refine r_aload_n hZ dL_law_1105 rfl ?_
                                                            refine r_iload hZ dL_law_1106 rfl ?_
                                                            refine r_iconst (v := (J 1)) hZ dL_law_1108 (by decide) ?_
                                                            refine r_iadd hZ dL_law_1109 ?_
                                                            obtain ⟨x275, ex275, H⟩ := ok_bind H
                                                            refine r_aX hZ hSc dL_law_1110 ex275 ?_
                                                            obtain ⟨u276, eu276, H⟩ := ok_bind H
                                                            obtain ⟨r277, er277, H⟩ := ok_bind H
                                                            refine r_callV (As := [.int x275]) (rest := []) (st1 := [.int r277.1]) (N2 := 0) hZ dL_law_1111 cw_L_129_X11 rfl eu276 (s_X11_rule er277) rfl rfl (by decide) (Nat.le_of_ble_eq_true rfl) (by omega) (Nat.le_refl _) (Or.inl rfl) rfl ?_
                                                            refine r_aload_n hZ dL_law_1114 rfl ?_
                                                            refine r_aload_n hZ dL_law_1115 rfl ?_
                                                            refine r_iload hZ dL_law_1116 rfl ?_
                                                            refine r_iconst (v := (J 1)) hZ dL_law_1118 (by decide) ?_
                                                            refine r_iadd hZ dL_law_1119 ?_
                                                            obtain ⟨x278, ex278, H⟩ := ok_bind H
                                                            refine r_aX hZ hSc dL_law_1120 ex278 ?_
                                                            obtain ⟨u279, eu279, H⟩ := ok_bind H
                                                            obtain ⟨r280, er280, H⟩ := ok_bind H
                                                            refine r_callV (As := [.int x278]) (rest := [.int r277.1]) (st1 := [.int r280.1, .int r277.1]) (N2 := 0) hZ dL_law_1121 cw_L_132_X12 rfl eu279 (s_X12_rule er280) rfl rfl (by decide) (Nat.le_of_ble_eq_true rfl) (by omega) (Nat.le_refl _) (Or.inl rfl) rfl ?_
                                                            refine r_icmp_eq (tgt := 1750) hZ dL_law_1124 (by decide) (fun c282 => ?_) (fun c282 => ?_)
                                                            · have H := ok_t H c282
                                                              obtain ⟨x281, ex281, H⟩ := ok_bind H
                                                              refine r_iincE (w := (J 6)) hZ dL_law_1750 (by decide) rfl (by decide) ex281 (r_pick [0, 1, 2, 3, 4] (ls' := [(0, .ref (BB + 4)), (1, .ref p1), (2, .ref p2), (3, .ref p3), (4, .int x281)]) rfl ?_)
                                                              refine r_goto (tgt := 23) hZ dL_law_1753 (by decide) ?_
                                                              exact r_pick [0, 1, 2, 3, 4] (ls' := [(0, .ref (BB + 4)), (1, .ref p1), (2, .ref p2), (3, .ref p3), (4, .int x281)]) rfl (ih _ _ ⟨law_s0 hL hx9 ex281 hx.1, hx.2⟩ (ki_l H))
                                                            · have H := ok_f H c282
                                                              exact ok_none H
                                                          · have H := ok_f H c283
                                                            by_cases c294 : x2 = (J 27)
                                                            · have hs : R Z 1129 [(0, .ref (BB + 4)), (1, .ref p1), (2, .ref p2), (3, .ref p3), (4, .int s.1)] [] n s.2 x → R Z 40 [(0, .ref (BB + 4)), (1, .ref p1), (2, .ref p2), (3, .ref p3), (4, .int s.1)] [.int x2] n s.2 x := by
                                                                exact fun k => r_tableIn hZ dL_law_40 (by rw [c294]; decide) (by rw [c294]; decide) (off := 1089) (by rw [c294]; rfl) (by decide) k
                                                              refine hs ?_
                                                              clear hs
                                                              have H := ok_t H c294
                                                              refine r_aload_n hZ dL_law_1129 rfl ?_
                                                              refine r_aload_n hZ dL_law_1130 rfl ?_
                                                              refine r_iload hZ dL_law_1131 rfl ?_
                                                              refine r_iconst (v := (J 1)) hZ dL_law_1133 (by decide) ?_
                                                              refine r_iadd hZ dL_law_1134 ?_
                                                              obtain ⟨x284, ex284, H⟩ := ok_bind H
                                                              refine r_aX hZ hSc dL_law_1135 ex284 ?_
                                                              refine r_aload_n hZ dL_law_1136 rfl ?_
                                                              refine r_iload hZ dL_law_1137 rfl ?_
                                                              refine r_iconst (v := (J 2)) hZ dL_law_1139 (by decide) ?_
                                                              refine r_iadd hZ dL_law_1140 ?_
                                                              obtain ⟨x285, ex285, H⟩ := ok_bind H
                                                              refine r_aX hZ hSc dL_law_1141 ex285 ?_
                                                              obtain ⟨u286, eu286, H⟩ := ok_bind H
                                                              obtain ⟨r287, er287, H⟩ := ok_bind H
                                                              refine r_callV (As := [.int x284, .int x285]) (rest := []) (st1 := [.int r287.1]) (N2 := 0) hZ dL_law_1142 cw_L_133_X11 rfl eu286 (s_X11_holds er287) rfl rfl (by decide) (Nat.le_of_ble_eq_true rfl) (by omega) (Nat.le_refl _) (Or.inl rfl) rfl ?_
                                                              refine r_aload_n hZ dL_law_1145 rfl ?_
                                                              refine r_aload_n hZ dL_law_1146 rfl ?_
                                                              refine r_iload hZ dL_law_1147 rfl ?_
                                                              refine r_iconst (v := (J 1)) hZ dL_law_1149 (by decide) ?_
                                                              refine r_iadd hZ dL_law_1150 ?_
                                                              obtain ⟨x288, ex288, H⟩ := ok_bind H
                                                              refine r_aX hZ hSc dL_law_1151 ex288 ?_
                                                              refine r_aload_n hZ dL_law_1152 rfl ?_
                                                              refine r_iload hZ dL_law_1153 rfl ?_
                                                              refine r_iconst (v := (J 2)) hZ dL_law_1155 (by decide) ?_
                                                              refine r_iadd hZ dL_law_1156 ?_
                                                              obtain ⟨x289, ex289, H⟩ := ok_bind H
                                                              refine r_aX hZ hSc dL_law_1157 ex289 ?_
                                                              obtain ⟨u290, eu290, H⟩ := ok_bind H
                                                              obtain ⟨r291, er291, H⟩ := ok_bind H
                                                              refine r_callV (As := [.int x288, .int x289]) (rest := [.int r287.1]) (st1 := [.int r291.1, .int r287.1]) (N2 := 0) hZ dL_law_1158 cw_L_136_X12 rfl eu290 (s_X12_holds er291) rfl rfl (by decide) (Nat.le_of_ble_eq_true rfl) (by omega) (Nat.le_refl _) (Or.inl rfl) rfl ?_
                                                              refine r_icmp_eq (tgt := 1750) hZ dL_law_1161 (by decide) (fun c293 => ?_) (fun c293 => ?_)
                                                              · have H := ok_t H c293
                                                                obtain ⟨x292, ex292, H⟩ := ok_bind H
                                                                refine r_iincE (w := (J 6)) hZ dL_law_1750 (by decide) rfl (by decide) ex292 (r_pick [0, 1, 2, 3, 4] (ls' := [(0, .ref (BB + 4)), (1, .ref p1), (2, .ref p2), (3, .ref p3), (4, .int x292)]) rfl ?_)
                                                                refine r_goto (tgt := 23) hZ dL_law_1753 (by decide) ?_
                                                                exact r_pick [0, 1, 2, 3, 4] (ls' := [(0, .ref (BB + 4)), (1, .ref p1), (2, .ref p2), (3, .ref p3), (4, .int x292)]) rfl (ih _ _ ⟨law_s0 hL hx9 ex292 hx.1, hx.2⟩ (ki_l H))
                                                              · have H := ok_f H c293
                                                                exact ok_none H
                                                            · have H := ok_f H c294
                                                              by_cases c307 : x2 = (J 28)
                                                              · have hs : R Z 1166 [(0, .ref (BB + 4)), (1, .ref p1), (2, .ref p2), (3, .ref p3), (4, .int s.1)] [] n s.2 x → R Z 40 [(0, .ref (BB + 4)), (1, .ref p1), (2, .ref p2), (3, .ref p3), (4, .int s.1)] [.int x2] n s.2 x := by
                                                                  exact fun k => r_tableIn hZ dL_law_40 (by rw [c307]; decide) (by rw [c307]; decide) (off := 1126) (by rw [c307]; rfl) (by decide) k
                                                                refine hs ?_
                                                                clear hs
                                                                have H := ok_t H c307
                                                                refine r_aload_n hZ dL_law_1166 rfl ?_
                                                                refine r_aload_n hZ dL_law_1167 rfl ?_
                                                                refine r_iload hZ dL_law_1168 rfl ?_
                                                                refine r_iconst (v := (J 1)) hZ dL_law_1170 (by decide) ?_
                                                                refine r_iadd hZ dL_law_1171 ?_
                                                                obtain ⟨x295, ex295, H⟩ := ok_bind H
                                                                refine r_aX hZ hSc dL_law_1172 ex295 ?_
                                                                refine r_aload_n hZ dL_law_1173 rfl ?_
                                                                refine r_iload hZ dL_law_1174 rfl ?_
                                                                refine r_iconst (v := (J 2)) hZ dL_law_1176 (by decide) ?_
                                                                refine r_iadd hZ dL_law_1177 ?_
                                                                obtain ⟨x296, ex296, H⟩ := ok_bind H
                                                                refine r_aX hZ hSc dL_law_1178 ex296 ?_
                                                                refine r_aload_n hZ dL_law_1179 rfl ?_
                                                                refine r_iload hZ dL_law_1180 rfl ?_
                                                                refine r_iconst (v := (J 3)) hZ dL_law_1182 (by decide) ?_
                                                                refine r_iadd hZ dL_law_1183 ?_
                                                                obtain ⟨x297, ex297, H⟩ := ok_bind H
                                                                refine r_aX hZ hSc dL_law_1184 ex297 ?_
                                                                obtain ⟨u298, eu298, H⟩ := ok_bind H
                                                                obtain ⟨r299, er299, H⟩ := ok_bind H
                                                                refine r_callV (As := [.int x295, .int x296, .int x297]) (rest := []) (st1 := [.int r299.1]) (N2 := 0) hZ dL_law_1185 cw_L_137_X11 rfl eu298 (s_X11_watch er299) rfl rfl (by decide) (Nat.le_of_ble_eq_true rfl) (by omega) (Nat.le_refl _) (Or.inl rfl) rfl ?_
                                                                refine r_aload_n hZ dL_law_1188 rfl ?_
                                                                refine r_aload_n hZ dL_law_1189 rfl ?_
                                                                refine r_iload hZ dL_law_1190 rfl ?_
                                                                refine r_iconst (v := (J 1)) hZ dL_law_1192 (by decide) ?_
                                                                refine r_iadd hZ dL_law_1193 ?_
                                                                obtain ⟨x300, ex300, H⟩ := ok_bind H
                                                                refine r_aX hZ hSc dL_law_1194 ex300 ?_
                                                                refine r_aload_n hZ dL_law_1195 rfl ?_
                                                                refine r_iload hZ dL_law_1196 rfl ?_
                                                                refine r_iconst (v := (J 2)) hZ dL_law_1198 (by decide) ?_
                                                                refine r_iadd hZ dL_law_1199 ?_
                                                                obtain ⟨x301, ex301, H⟩ := ok_bind H
                                                                refine r_aX hZ hSc dL_law_1200 ex301 ?_
                                                                refine r_aload_n hZ dL_law_1201 rfl ?_
                                                                refine r_iload hZ dL_law_1202 rfl ?_
                                                                refine r_iconst (v := (J 3)) hZ dL_law_1204 (by decide) ?_
                                                                refine r_iadd hZ dL_law_1205 ?_
                                                                obtain ⟨x302, ex302, H⟩ := ok_bind H
                                                                refine r_aX hZ hSc dL_law_1206 ex302 ?_
                                                                obtain ⟨u303, eu303, H⟩ := ok_bind H
                                                                obtain ⟨r304, er304, H⟩ := ok_bind H
                                                                refine r_callV (As := [.int x300, .int x301, .int x302]) (rest := [.int r299.1]) (st1 := [.int r304.1, .int r299.1]) (N2 := 0) hZ dL_law_1207 cw_L_140_X12 rfl eu303 (s_X12_watch er304) rfl rfl (by decide) (Nat.le_of_ble_eq_true rfl) (by omega) (Nat.le_refl _) (Or.inl rfl) rfl ?_
                                                                refine r_icmp_eq (tgt := 1750) hZ dL_law_1210 (by decide) (fun c306 => ?_) (fun c306 => ?_)
                                                                · have H := ok_t H c306
                                                                  obtain ⟨x305, ex305, H⟩ := ok_bind H
                                                                  refine r_iincE (w := (J 6)) hZ dL_law_1750 (by decide) rfl (by decide) ex305 (r_pick [0, 1, 2, 3, 4] (ls' := [(0, .ref (BB + 4)), (1, .ref p1), (2, .ref p2), (3, .ref p3), (4, .int x305)]) rfl ?_)
                                                                  refine r_goto (tgt := 23) hZ dL_law_1753 (by decide) ?_
                                                                  exact r_pick [0, 1, 2, 3, 4] (ls' := [(0, .ref (BB + 4)), (1, .ref p1), (2, .ref p2), (3, .ref p3), (4, .int x305)]) rfl (ih _ _ ⟨law_s0 hL hx9 ex305 hx.1, hx.2⟩ (ki_l H))
                                                                · have H := ok_f H c306
                                                                  exact ok_none H
                                                              · have H := ok_f H c307
                                                                by_cases c318 : x2 = (J 29)
                                                                · have hs : R Z 1215 [(0, .ref (BB + 4)), (1, .ref p1), (2, .ref p2), (3, .ref p3), (4, .int s.1)] [] n s.2 x → R Z 40 [(0, .ref (BB + 4)), (1, .ref p1), (2, .ref p2), (3, .ref p3), (4, .int s.1)] [.int x2] n s.2 x := by
                                                                    exact fun k => r_tableIn hZ dL_law_40 (by rw [c318]; decide) (by rw [c318]; decide) (off := 1175) (by rw [c318]; rfl) (by decide) k
                                                                  refine hs ?_
                                                                  clear hs
                                                                  have H := ok_t H c318
                                                                  refine r_aload_n hZ dL_law_1215 rfl ?_
                                                                  refine r_aload_n hZ dL_law_1216 rfl ?_
                                                                  refine r_iload hZ dL_law_1217 rfl ?_
                                                                  refine r_iconst (v := (J 1)) hZ dL_law_1219 (by decide) ?_
                                                                  refine r_iadd hZ dL_law_1220 ?_
                                                                  obtain ⟨x308, ex308, H⟩ := ok_bind H
                                                                  refine r_aX hZ hSc dL_law_1221 ex308 ?_
                                                                  refine r_aload_n hZ dL_law_1222 rfl ?_
                                                                  refine r_iload hZ dL_law_1223 rfl ?_
                                                                  refine r_iconst (v := (J 2)) hZ dL_law_1225 (by decide) ?_
                                                                  refine r_iadd hZ dL_law_1226 ?_
                                                                  obtain ⟨x309, ex309, H⟩ := ok_bind H
                                                                  refine r_aX hZ hSc dL_law_1227 ex309 ?_
                                                                  obtain ⟨u310, eu310, H⟩ := ok_bind H
                                                                  obtain ⟨r311, er311, H⟩ := ok_bind H
                                                                  refine r_callV (As := [.int x308, .int x309]) (rest := []) (st1 := [.int r311.1]) (N2 := 0) hZ dL_law_1228 cw_L_141_X11 rfl eu310 (s_X11_ear er311) rfl rfl (by decide) (Nat.le_of_ble_eq_true rfl) (by omega) (Nat.le_refl _) (Or.inl rfl) rfl ?_
                                                                  refine r_aload_n hZ dL_law_1231 rfl ?_
                                                                  refine r_aload_n hZ dL_law_1232 rfl ?_
                                                                  refine r_iload hZ dL_law_1233 rfl ?_
                                                                  refine r_iconst (v := (J 1)) hZ dL_law_1235 (by decide) ?_
                                                                  refine r_iadd hZ dL_law_1236 ?_
                                                                  obtain ⟨x312, ex312, H⟩ := ok_bind H
                                                                  refine r_aX hZ hSc dL_law_1237 ex312 ?_
                                                                  refine r_aload_n hZ dL_law_1238 rfl ?_
                                                                  refine r_iload hZ dL_law_1239 rfl ?_
                                                                  refine r_iconst (v := (J 2)) hZ dL_law_1241 (by decide) ?_
                                                                  refine r_iadd hZ dL_law_1242 ?_
                                                                  obtain ⟨x313, ex313, H⟩ := ok_bind H
                                                                  refine r_aX hZ hSc dL_law_1243 ex313 ?_
                                                                  obtain ⟨u314, eu314, H⟩ := ok_bind H
                                                                  obtain ⟨r315, er315, H⟩ := ok_bind H
                                                                  refine r_callV (As := [.int x312, .int x313]) (rest := [.int r311.1]) (st1 := [.int r315.1, .int r311.1]) (N2 := 0) hZ dL_law_1244 cw_L_144_X12 rfl eu314 (s_X12_ear er315) rfl rfl (by decide) (Nat.le_of_ble_eq_true rfl) (by omega) (Nat.le_refl _) (Or.inl rfl) rfl ?_
                                                                  refine r_icmp_eq (tgt := 1750) hZ dL_law_1247 (by decide) (fun c317 => ?_) (fun c317 => ?_)
                                                                  · have H := ok_t H c317
                                                                    obtain ⟨x316, ex316, H⟩ := ok_bind H
                                                                    refine r_iincE (w := (J 6)) hZ dL_law_1750 (by decide) rfl (by decide) ex316 (r_pick [0, 1, 2, 3, 4] (ls' := [(0, .ref (BB + 4)), (1, .ref p1), (2, .ref p2), (3, .ref p3), (4, .int x316)]) rfl ?_)
                                                                    refine r_goto (tgt := 23) hZ dL_law_1753 (by decide) ?_
                                                                    exact r_pick [0, 1, 2, 3, 4] (ls' := [(0, .ref (BB + 4)), (1, .ref p1), (2, .ref p2), (3, .ref p3), (4, .int x316)]) rfl (ih _ _ ⟨law_s0 hL hx9 ex316 hx.1, hx.2⟩ (ki_l H))
                                                                  · have H := ok_f H c317
                                                                    exact ok_none H
                                                                · have H := ok_f H c318
                                                                  by_cases c331 : x2 = (J 30)
                                                                  · have hs : R Z 1252 [(0, .ref (BB + 4)), (1, .ref p1), (2, .ref p2), (3, .ref p3), (4, .int s.1)] [] n s.2 x → R Z 40 [(0, .ref (BB + 4)), (1, .ref p1), (2, .ref p2), (3, .ref p3), (4, .int s.1)] [.int x2] n s.2 x := by
                                                                      exact fun k => r_tableIn hZ dL_law_40 (by rw [c331]; decide) (by rw [c331]; decide) (off := 1212) (by rw [c331]; rfl) (by decide) k
                                                                    refine hs ?_
                                                                    clear hs
                                                                    have H := ok_t H c331
                                                                    refine r_aload_n hZ dL_law_1252 rfl ?_
                                                                    refine r_aload_n hZ dL_law_1253 rfl ?_
                                                                    refine r_iload hZ dL_law_1254 rfl ?_
                                                                    refine r_iconst (v := (J 1)) hZ dL_law_1256 (by decide) ?_
                                                                    refine r_iadd hZ dL_law_1257 ?_
                                                                    obtain ⟨x319, ex319, H⟩ := ok_bind H
                                                                    refine r_aX hZ hSc dL_law_1258 ex319 ?_
                                                                    refine r_aload_n hZ dL_law_1259 rfl ?_
                                                                    refine r_iload hZ dL_law_1260 rfl ?_
                                                                    refine r_iconst (v := (J 2)) hZ dL_law_1262 (by decide) ?_
                                                                    refine r_iadd hZ dL_law_1263 ?_
                                                                    obtain ⟨x320, ex320, H⟩ := ok_bind H
                                                                    refine r_aX hZ hSc dL_law_1264 ex320 ?_
                                                                    refine r_aload_n hZ dL_law_1265 rfl ?_
                                                                    refine r_iload hZ dL_law_1266 rfl ?_
                                                                    refine r_iconst (v := (J 3)) hZ dL_law_1268 (by decide) ?_
                                                                    refine r_iadd hZ dL_law_1269 ?_
                                                                    obtain ⟨x321, ex321, H⟩ := ok_bind H
                                                                    refine r_aX hZ hSc dL_law_1270 ex321 ?_
                                                                    obtain ⟨u322, eu322, H⟩ := ok_bind H
                                                                    obtain ⟨r323, er323, H⟩ := ok_bind H
                                                                    refine r_callV (As := [.int x319, .int x320, .int x321]) (rest := []) (st1 := [.int r323.1]) (N2 := 0) hZ dL_law_1271 cw_L_145_X11 rfl eu322 (s_X11_bestShift er323) rfl rfl (by decide) (Nat.le_of_ble_eq_true rfl) (by omega) (Nat.le_refl _) (Or.inl rfl) rfl ?_
                                                                    refine r_aload_n hZ dL_law_1274 rfl ?_
                                                                    refine r_aload_n hZ dL_law_1275 rfl ?_
                                                                    refine r_iload hZ dL_law_1276 rfl ?_
                                                                    refine r_iconst (v := (J 1)) hZ dL_law_1278 (by decide) ?_
                                                                    refine r_iadd hZ dL_law_1279 ?_
                                                                    obtain ⟨x324, ex324, H⟩ := ok_bind H
                                                                    refine r_aX hZ hSc dL_law_1280 ex324 ?_
                                                                    refine r_aload_n hZ dL_law_1281 rfl ?_
                                                                    refine r_iload hZ dL_law_1282 rfl ?_
                                                                    refine r_iconst (v := (J 2)) hZ dL_law_1284 (by decide) ?_
                                                                    refine r_iadd hZ dL_law_1285 ?_
                                                                    obtain ⟨x325, ex325, H⟩ := ok_bind H
                                                                    refine r_aX hZ hSc dL_law_1286 ex325 ?_
                                                                    refine r_aload_n hZ dL_law_1287 rfl ?_
                                                                    refine r_iload hZ dL_law_1288 rfl ?_
                                                                    refine r_iconst (v := (J 3)) hZ dL_law_1290 (by decide) ?_
                                                                    refine r_iadd hZ dL_law_1291 ?_
                                                                    obtain ⟨x326, ex326, H⟩ := ok_bind H
                                                                    refine r_aX hZ hSc dL_law_1292 ex326 ?_
                                                                    obtain ⟨u327, eu327, H⟩ := ok_bind H
                                                                    obtain ⟨r328, er328, H⟩ := ok_bind H
                                                                    refine r_callV (As := [.int x324, .int x325, .int x326]) (rest := [.int r323.1]) (st1 := [.int r328.1, .int r323.1]) (N2 := 0) hZ dL_law_1293 cw_L_148_X12 rfl eu327 (s_X12_bestShift er328) rfl rfl (by decide) (Nat.le_of_ble_eq_true rfl) (by omega) (Nat.le_refl _) (Or.inl rfl) rfl ?_
                                                                    refine r_icmp_eq (tgt := 1750) hZ dL_law_1296 (by decide) (fun c330 => ?_) (fun c330 => ?_)
                                                                    · have H := ok_t H c330
                                                                      obtain ⟨x329, ex329, H⟩ := ok_bind H
                                                                      refine r_iincE (w := (J 6)) hZ dL_law_1750 (by decide) rfl (by decide) ex329 (r_pick [0, 1, 2, 3, 4] (ls' := [(0, .ref (BB + 4)), (1, .ref p1), (2, .ref p2), (3, .ref p3), (4, .int x329)]) rfl ?_)
                                                                      refine r_goto (tgt := 23) hZ dL_law_1753 (by decide) ?_
                                                                      exact r_pick [0, 1, 2, 3, 4] (ls' := [(0, .ref (BB + 4)), (1, .ref p1), (2, .ref p2), (3, .ref p3), (4, .int x329)]) rfl (ih _ _ ⟨law_s0 hL hx9 ex329 hx.1, hx.2⟩ (ki_l H))
                                                                    · have H := ok_f H c330
                                                                      exact ok_none H
                                                                  · have H := ok_f H c331
                                                                    by_cases c346 : x2 = (J 31)
                                                                    · have hs : R Z 1301 [(0, .ref (BB + 4)), (1, .ref p1), (2, .ref p2), (3, .ref p3), (4, .int s.1)] [] n s.2 x → R Z 40 [(0, .ref (BB + 4)), (1, .ref p1), (2, .ref p2), (3, .ref p3), (4, .int s.1)] [.int x2] n s.2 x := by
                                                                        exact fun k => r_tableIn hZ dL_law_40 (by rw [c346]; decide) (by rw [c346]; decide) (off := 1261) (by rw [c346]; rfl) (by decide) k
                                                                      refine hs ?_
                                                                      clear hs
                                                                      have H := ok_t H c346
                                                                      refine r_aload_n hZ dL_law_1301 rfl ?_
                                                                      refine r_aload_n hZ dL_law_1302 rfl ?_
                                                                      refine r_iload hZ dL_law_1303 rfl ?_
                                                                      refine r_iconst (v := (J 1)) hZ dL_law_1305 (by decide) ?_
                                                                      refine r_iadd hZ dL_law_1306 ?_
                                                                      obtain ⟨x332, ex332, H⟩ := ok_bind H
                                                                      refine r_aX hZ hSc dL_law_1307 ex332 ?_
                                                                      refine r_aload_n hZ dL_law_1308 rfl ?_
                                                                      refine r_iload hZ dL_law_1309 rfl ?_
                                                                      refine r_iconst (v := (J 2)) hZ dL_law_1311 (by decide) ?_
                                                                      refine r_iadd hZ dL_law_1312 ?_
                                                                      obtain ⟨x333, ex333, H⟩ := ok_bind H
                                                                      refine r_aX hZ hSc dL_law_1313 ex333 ?_
                                                                      refine r_aload_n hZ dL_law_1314 rfl ?_
                                                                      refine r_iload hZ dL_law_1315 rfl ?_
                                                                      refine r_iconst (v := (J 3)) hZ dL_law_1317 (by decide) ?_
                                                                      refine r_iadd hZ dL_law_1318 ?_
                                                                      obtain ⟨x334, ex334, H⟩ := ok_bind H
                                                                      refine r_aX hZ hSc dL_law_1319 ex334 ?_
                                                                      refine r_aload_n hZ dL_law_1320 rfl ?_
                                                                      refine r_iload hZ dL_law_1321 rfl ?_
                                                                      refine r_iconst (v := (J 4)) hZ dL_law_1323 (by decide) ?_
                                                                      refine r_iadd hZ dL_law_1324 ?_
                                                                      obtain ⟨x335, ex335, H⟩ := ok_bind H
                                                                      refine r_aX hZ hSc dL_law_1325 ex335 ?_
                                                                      obtain ⟨u336, eu336, H⟩ := ok_bind H
                                                                      obtain ⟨r337, er337, H⟩ := ok_bind H
                                                                      refine r_callV (As := [.int x332, .int x333, .int x334, .int x335]) (rest := []) (st1 := [.int r337.1]) (N2 := 0) hZ dL_law_1326 cw_L_149_X11 rfl eu336 (s_X11_readBack er337) rfl rfl (by decide) (Nat.le_of_ble_eq_true rfl) (by omega) (Nat.le_refl _) (Or.inl rfl) rfl ?_
                                                                      refine r_aload_n hZ dL_law_1329 rfl ?_
                                                                      refine r_aload_n hZ dL_law_1330 rfl ?_
                                                                      refine r_iload hZ dL_law_1331 rfl ?_
                                                                      refine r_iconst (v := (J 1)) hZ dL_law_1333 (by decide) ?_
                                                                      refine r_iadd hZ dL_law_1334 ?_
                                                                      obtain ⟨x338, ex338, H⟩ := ok_bind H
                                                                      refine r_aX hZ hSc dL_law_1335 ex338 ?_
                                                                      refine r_aload_n hZ dL_law_1336 rfl ?_
                                                                      refine r_iload hZ dL_law_1337 rfl ?_
                                                                      refine r_iconst (v := (J 2)) hZ dL_law_1339 (by decide) ?_
                                                                      refine r_iadd hZ dL_law_1340 ?_
                                                                      obtain ⟨x339, ex339, H⟩ := ok_bind H
                                                                      refine r_aX hZ hSc dL_law_1341 ex339 ?_
                                                                      refine r_aload_n hZ dL_law_1342 rfl ?_
                                                                      refine r_iload hZ dL_law_1343 rfl ?_
                                                                      refine r_iconst (v := (J 3)) hZ dL_law_1345 (by decide) ?_
                                                                      refine r_iadd hZ dL_law_1346 ?_
                                                                      obtain ⟨x340, ex340, H⟩ := ok_bind H
                                                                      refine r_aX hZ hSc dL_law_1347 ex340 ?_
                                                                      refine r_aload_n hZ dL_law_1348 rfl ?_
                                                                      refine r_iload hZ dL_law_1349 rfl ?_
                                                                      refine r_iconst (v := (J 4)) hZ dL_law_1351 (by decide) ?_
                                                                      refine r_iadd hZ dL_law_1352 ?_
                                                                      obtain ⟨x341, ex341, H⟩ := ok_bind H
                                                                      refine r_aX hZ hSc dL_law_1353 ex341 ?_
                                                                      obtain ⟨u342, eu342, H⟩ := ok_bind H
                                                                      obtain ⟨r343, er343, H⟩ := ok_bind H
                                                                      refine r_callV (As := [.int x338, .int x339, .int x340, .int x341]) (rest := [.int r337.1]) (st1 := [.int r343.1, .int r337.1]) (N2 := 0) hZ dL_law_1354 cw_L_153_X12 rfl eu342 (s_X12_readBack er343) rfl rfl (by decide) (Nat.le_of_ble_eq_true rfl) (by omega) (Nat.le_refl _) (Or.inl rfl) rfl ?_
                                                                      refine r_icmp_eq (tgt := 1750) hZ dL_law_1357 (by decide) (fun c345 => ?_) (fun c345 => ?_)
                                                                      · have H := ok_t H c345
                                                                        obtain ⟨x344, ex344, H⟩ := ok_bind H
                                                                        refine r_iincE (w := (J 6)) hZ dL_law_1750 (by decide) rfl (by decide) ex344 (r_pick [0, 1, 2, 3, 4] (ls' := [(0, .ref (BB + 4)), (1, .ref p1), (2, .ref p2), (3, .ref p3), (4, .int x344)]) rfl ?_)
                                                                        refine r_goto (tgt := 23) hZ dL_law_1753 (by decide) ?_
                                                                        exact r_pick [0, 1, 2, 3, 4] (ls' := [(0, .ref (BB + 4)), (1, .ref p1), (2, .ref p2), (3, .ref p3), (4, .int x344)]) rfl (ih _ _ ⟨law_s0 hL hx9 ex344 hx.1, hx.2⟩ (ki_l H))
                                                                      · have H := ok_f H c345
                                                                        exact ok_none H
                                                                    · have H := ok_f H c346
                                                                      by_cases c353 : x2 = (J 32)
                                                                      · have hs : R Z 1362 [(0, .ref (BB + 4)), (1, .ref p1), (2, .ref p2), (3, .ref p3), (4, .int s.1)] [] n s.2 x → R Z 40 [(0, .ref (BB + 4)), (1, .ref p1), (2, .ref p2), (3, .ref p3), (4, .int s.1)] [.int x2] n s.2 x := by
                                                                          exact fun k => r_tableIn hZ dL_law_40 (by rw [c353]; decide) (by rw [c353]; decide) (off := 1322) (by rw [c353]; rfl) (by decide) k
                                                                        refine hs ?_
                                                                        clear hs
                                                                        have H := ok_t H c353
                                                                        refine r_aload_n hZ dL_law_1362 rfl ?_
                                                                        obtain ⟨u347, eu347, H⟩ := ok_bind H
                                                                        obtain ⟨r348, er348, H⟩ := ok_bind H
                                                                        refine r_callV (As := []) (rest := []) (st1 := [.int r348.1]) (N2 := 0) hZ dL_law_1363 cw_L_154_X11 rfl eu347 (s_X11_image er348) rfl rfl (by decide) (Nat.le_of_ble_eq_true rfl) (by omega) (Nat.le_refl _) (Or.inl rfl) rfl ?_
                                                                        refine r_aload_n hZ dL_law_1366 rfl ?_
                                                                        obtain ⟨u349, eu349, H⟩ := ok_bind H
                                                                        obtain ⟨r350, er350, H⟩ := ok_bind H
                                                                        refine r_callV (As := []) (rest := [.int r348.1]) (st1 := [.int r350.1, .int r348.1]) (N2 := 0) hZ dL_law_1367 cw_L_157_X12 rfl eu349 (s_X12_image er350) rfl rfl (by decide) (Nat.le_of_ble_eq_true rfl) (by omega) (Nat.le_refl _) (Or.inl rfl) rfl ?_
                                                                        refine r_icmp_eq (tgt := 1750) hZ dL_law_1370 (by decide) (fun c352 => ?_) (fun c352 => ?_)
                                                                        · have H := ok_t H c352
                                                                          obtain ⟨x351, ex351, H⟩ := ok_bind H
                                                                          refine r_iincE (w := (J 6)) hZ dL_law_1750 (by decide) rfl (by decide) ex351 (r_pick [0, 1, 2, 3, 4] (ls' := [(0, .ref (BB + 4)), (1, .ref p1), (2, .ref p2), (3, .ref p3), (4, .int x351)]) rfl ?_)
                                                                          refine r_goto (tgt := 23) hZ dL_law_1753 (by decide) ?_
                                                                          exact r_pick [0, 1, 2, 3, 4] (ls' := [(0, .ref (BB + 4)), (1, .ref p1), (2, .ref p2), (3, .ref p3), (4, .int x351)]) rfl (ih _ _ ⟨law_s0 hL hx9 ex351 hx.1, hx.2⟩ (ki_l H))
                                                                        · have H := ok_f H c352
                                                                          exact ok_none H
                                                                      · have H := ok_f H c353
                                                                        by_cases c360 : x2 = (J 33)
                                                                        · have hs : R Z 1375 [(0, .ref (BB + 4)), (1, .ref p1), (2, .ref p2), (3, .ref p3), (4, .int s.1)] [] n s.2 x → R Z 40 [(0, .ref (BB + 4)), (1, .ref p1), (2, .ref p2), (3, .ref p3), (4, .int s.1)] [.int x2] n s.2 x := by
                                                                            exact fun k => r_tableIn hZ dL_law_40 (by rw [c360]; decide) (by rw [c360]; decide) (off := 1335) (by rw [c360]; rfl) (by decide) k
                                                                          refine hs ?_
                                                                          clear hs
                                                                          have H := ok_t H c360
                                                                          refine r_aload_n hZ dL_law_1375 rfl ?_
                                                                          obtain ⟨u354, eu354, H⟩ := ok_bind H
                                                                          obtain ⟨r355, er355, H⟩ := ok_bind H
                                                                          refine r_callV (As := []) (rest := []) (st1 := [.int r355.1]) (N2 := 0) hZ dL_law_1376 cw_L_158_X11 rfl eu354 (s_X11_restore er355) rfl rfl (by decide) (Nat.le_of_ble_eq_true rfl) (by omega) (Nat.le_refl _) (Or.inl rfl) rfl ?_
                                                                          refine r_aload_n hZ dL_law_1379 rfl ?_
                                                                          obtain ⟨u356, eu356, H⟩ := ok_bind H
                                                                          obtain ⟨r357, er357, H⟩ := ok_bind H
                                                                          refine r_callV (As := []) (rest := [.int r355.1]) (st1 := [.int r357.1, .int r355.1]) (N2 := 0) hZ dL_law_1380 cw_L_161_X12 rfl eu356 (s_X12_restore er357) rfl rfl (by decide) (Nat.le_of_ble_eq_true rfl) (by omega) (Nat.le_refl _) (Or.inl rfl) rfl ?_
                                                                          refine r_icmp_eq (tgt := 1750) hZ dL_law_1383 (by decide) (fun c359 => ?_) (fun c359 => ?_)
                                                                          · have H := ok_t H c359
                                                                            obtain ⟨x358, ex358, H⟩ := ok_bind H
                                                                            refine r_iincE (w := (J 6)) hZ dL_law_1750 (by decide) rfl (by decide) ex358 (r_pick [0, 1, 2, 3, 4] (ls' := [(0, .ref (BB + 4)), (1, .ref p1), (2, .ref p2), (3, .ref p3), (4, .int x358)]) rfl ?_)
                                                                            refine r_goto (tgt := 23) hZ dL_law_1753 (by decide) ?_
                                                                            exact r_pick [0, 1, 2, 3, 4] (ls' := [(0, .ref (BB + 4)), (1, .ref p1), (2, .ref p2), (3, .ref p3), (4, .int x358)]) rfl (ih _ _ ⟨law_s0 hL hx9 ex358 hx.1, hx.2⟩ (ki_l H))
                                                                          · have H := ok_f H c359
                                                                            exact ok_none H
                                                                        · have H := ok_f H c360
                                                                          by_cases c369 : x2 = (J 34)
                                                                          · have hs : R Z 1388 [(0, .ref (BB + 4)), (1, .ref p1), (2, .ref p2), (3, .ref p3), (4, .int s.1)] [] n s.2 x → R Z 40 [(0, .ref (BB + 4)), (1, .ref p1), (2, .ref p2), (3, .ref p3), (4, .int s.1)] [.int x2] n s.2 x := by
                                                                              exact fun k => r_tableIn hZ dL_law_40 (by rw [c369]; decide) (by rw [c369]; decide) (off := 1348) (by rw [c369]; rfl) (by decide) k
                                                                            refine hs ?_
                                                                            clear hs
                                                                            have H := ok_t H c369
                                                                            refine r_aload_n hZ dL_law_1388 rfl ?_
                                                                            refine r_aload_n hZ dL_law_1389 rfl ?_
                                                                            refine r_iload hZ dL_law_1390 rfl ?_
                                                                            refine r_iconst (v := (J 1)) hZ dL_law_1392 (by decide) ?_
                                                                            refine r_iadd hZ dL_law_1393 ?_
                                                                            obtain ⟨x361, ex361, H⟩ := ok_bind H
                                                                            refine r_aX hZ hSc dL_law_1394 ex361 ?_
                                                                            obtain ⟨u362, eu362, H⟩ := ok_bind H
                                                                            obtain ⟨r363, er363, H⟩ := ok_bind H
                                                                            refine r_callV (As := [.int x361]) (rest := []) (st1 := [.int r363.1]) (N2 := 0) hZ dL_law_1395 cw_L_162_X11 rfl eu362 (s_X11_count er363) rfl rfl (by decide) (Nat.le_of_ble_eq_true rfl) (by omega) (Nat.le_refl _) (Or.inl rfl) rfl ?_
                                                                            refine r_aload_n hZ dL_law_1398 rfl ?_
                                                                            refine r_aload_n hZ dL_law_1399 rfl ?_
                                                                            refine r_iload hZ dL_law_1400 rfl ?_
                                                                            refine r_iconst (v := (J 1)) hZ dL_law_1402 (by decide) ?_
                                                                            refine r_iadd hZ dL_law_1403 ?_
                                                                            obtain ⟨x364, ex364, H⟩ := ok_bind H
                                                                            refine r_aX hZ hSc dL_law_1404 ex364 ?_
                                                                            obtain ⟨u365, eu365, H⟩ := ok_bind H
                                                                            obtain ⟨r366, er366, H⟩ := ok_bind H
                                                                            refine r_callV (As := [.int x364]) (rest := [.int r363.1]) (st1 := [.int r366.1, .int r363.1]) (N2 := 0) hZ dL_law_1405 cw_L_165_X12 rfl eu365 (s_X12_count er366) rfl rfl (by decide) (Nat.le_of_ble_eq_true rfl) (by omega) (Nat.le_refl _) (Or.inl rfl) rfl ?_
                                                                            refine r_icmp_eq (tgt := 1750) hZ dL_law_1408 (by decide) (fun c368 => ?_) (fun c368 => ?_)
                                                                            · have H := ok_t H c368
                                                                              obtain ⟨x367, ex367, H⟩ := ok_bind H
                                                                              refine r_iincE (w := (J 6)) hZ dL_law_1750 (by decide) rfl (by decide) ex367 (r_pick [0, 1, 2, 3, 4] (ls' := [(0, .ref (BB + 4)), (1, .ref p1), (2, .ref p2), (3, .ref p3), (4, .int x367)]) rfl ?_)
                                                                              refine r_goto (tgt := 23) hZ dL_law_1753 (by decide) ?_
                                                                              exact r_pick [0, 1, 2, 3, 4] (ls' := [(0, .ref (BB + 4)), (1, .ref p1), (2, .ref p2), (3, .ref p3), (4, .int x367)]) rfl (ih _ _ ⟨law_s0 hL hx9 ex367 hx.1, hx.2⟩ (ki_l H))
                                                                            · have H := ok_f H c368
                                                                              exact ok_none H
                                                                          · have H := ok_f H c369
                                                                            by_cases c382 : x2 = (J 35)
                                                                            · have hs : R Z 1413 [(0, .ref (BB + 4)), (1, .ref p1), (2, .ref p2), (3, .ref p3), (4, .int s.1)] [] n s.2 x → R Z 40 [(0, .ref (BB + 4)), (1, .ref p1), (2, .ref p2), (3, .ref p3), (4, .int s.1)] [.int x2] n s.2 x := by
                                                                                exact fun k => r_tableIn hZ dL_law_40 (by rw [c382]; decide) (by rw [c382]; decide) (off := 1373) (by rw [c382]; rfl) (by decide) k
                                                                              refine hs ?_
                                                                              clear hs
                                                                              have H := ok_t H c382
                                                                              refine r_aload_n hZ dL_law_1413 rfl ?_
                                                                              refine r_aload_n hZ dL_law_1414 rfl ?_
                                                                              refine r_iload hZ dL_law_1415 rfl ?_
                                                                              refine r_iconst (v := (J 1)) hZ dL_law_1417 (by decide) ?_
                                                                              refine r_iadd hZ dL_law_1418 ?_
                                                                              obtain ⟨x370, ex370, H⟩ := ok_bind H
                                                                              refine r_aX hZ hSc dL_law_1419 ex370 ?_
                                                                              refine r_aload_n hZ dL_law_1420 rfl ?_
                                                                              refine r_iload hZ dL_law_1421 rfl ?_
                                                                              refine r_iconst (v := (J 2)) hZ dL_law_1423 (by decide) ?_
                                                                              refine r_iadd hZ dL_law_1424 ?_
                                                                              obtain ⟨x371, ex371, H⟩ := ok_bind H
                                                                              refine r_aX hZ hSc dL_law_1425 ex371 ?_
                                                                              refine r_aload_n hZ dL_law_1426 rfl ?_
                                                                              refine r_iload hZ dL_law_1427 rfl ?_
                                                                              refine r_iconst (v := (J 3)) hZ dL_law_1429 (by decide) ?_
                                                                              refine r_iadd hZ dL_law_1430 ?_
                                                                              obtain ⟨x372, ex372, H⟩ := ok_bind H
                                                                              refine r_aX hZ hSc dL_law_1431 ex372 ?_
                                                                              obtain ⟨u373, eu373, H⟩ := ok_bind H
                                                                              obtain ⟨r374, er374, H⟩ := ok_bind H
                                                                              refine r_callV (As := [.int x370, .int x371, .int x372]) (rest := []) (st1 := [.int r374.1]) (N2 := 0) hZ dL_law_1432 cw_L_166_X11 rfl eu373 (s_X11_keep er374) rfl rfl (by decide) (Nat.le_of_ble_eq_true rfl) (by omega) (Nat.le_refl _) (Or.inl rfl) rfl ?_
                                                                              refine r_aload_n hZ dL_law_1435 rfl ?_
                                                                              refine r_aload_n hZ dL_law_1436 rfl ?_
                                                                              refine r_iload hZ dL_law_1437 rfl ?_
                                                                              refine r_iconst (v := (J 1)) hZ dL_law_1439 (by decide) ?_
                                                                              refine r_iadd hZ dL_law_1440 ?_
                                                                              obtain ⟨x375, ex375, H⟩ := ok_bind H
                                                                              refine r_aX hZ hSc dL_law_1441 ex375 ?_
                                                                              refine r_aload_n hZ dL_law_1442 rfl ?_
                                                                              refine r_iload hZ dL_law_1443 rfl ?_
                                                                              refine r_iconst (v := (J 2)) hZ dL_law_1445 (by decide) ?_
                                                                              refine r_iadd hZ dL_law_1446 ?_
                                                                              obtain ⟨x376, ex376, H⟩ := ok_bind H
                                                                              refine r_aX hZ hSc dL_law_1447 ex376 ?_
                                                                              refine r_aload_n hZ dL_law_1448 rfl ?_
                                                                              refine r_iload hZ dL_law_1449 rfl ?_
                                                                              refine r_iconst (v := (J 3)) hZ dL_law_1451 (by decide) ?_
                                                                              refine r_iadd hZ dL_law_1452 ?_
                                                                              obtain ⟨x377, ex377, H⟩ := ok_bind H
                                                                              refine r_aX hZ hSc dL_law_1453 ex377 ?_
                                                                              obtain ⟨u378, eu378, H⟩ := ok_bind H
                                                                              obtain ⟨r379, er379, H⟩ := ok_bind H
                                                                              refine r_callV (As := [.int x375, .int x376, .int x377]) (rest := [.int r374.1]) (st1 := [.int r379.1, .int r374.1]) (N2 := 0) hZ dL_law_1454 cw_L_169_X12 rfl eu378 (s_X12_keep er379) rfl rfl (by decide) (Nat.le_of_ble_eq_true rfl) (by omega) (Nat.le_refl _) (Or.inl rfl) rfl ?_
                                                                              refine r_icmp_eq (tgt := 1750) hZ dL_law_1457 (by decide) (fun c381 => ?_) (fun c381 => ?_)
                                                                              · have H := ok_t H c381
                                                                                obtain ⟨x380, ex380, H⟩ := ok_bind H
                                                                                refine r_iincE (w := (J 6)) hZ dL_law_1750 (by decide) rfl (by decide) ex380 (r_pick [0, 1, 2, 3, 4] (ls' := [(0, .ref (BB + 4)), (1, .ref p1), (2, .ref p2), (3, .ref p3), (4, .int x380)]) rfl ?_)
                                                                                refine r_goto (tgt := 23) hZ dL_law_1753 (by decide) ?_
                                                                                exact r_pick [0, 1, 2, 3, 4] (ls' := [(0, .ref (BB + 4)), (1, .ref p1), (2, .ref p2), (3, .ref p3), (4, .int x380)]) rfl (ih _ _ ⟨law_s0 hL hx9 ex380 hx.1, hx.2⟩ (ki_l H))
                                                                              · have H := ok_f H c381
                                                                                exact ok_none H
                                                                            · have H := ok_f H c382
                                                                              by_cases c395 : x2 = (J 36)
                                                                              · have hs : R Z 1462 [(0, .ref (BB + 4)), (1, .ref p1), (2, .ref p2), (3, .ref p3), (4, .int s.1)] [] n s.2 x → R Z 40 [(0, .ref (BB + 4)), (1, .ref p1), (2, .ref p2), (3, .ref p3), (4, .int s.1)] [.int x2] n s.2 x := by
                                                                                  exact fun k => r_tableIn hZ dL_law_40 (by rw [c395]; decide) (by rw [c395]; decide) (off := 1422) (by rw [c395]; rfl) (by decide) k
                                                                                refine hs ?_
                                                                                clear hs
                                                                                have H := ok_t H c395
                                                                                refine r_aload_n hZ dL_law_1462 rfl ?_
                                                                                refine r_aload_n hZ dL_law_1463 rfl ?_
                                                                                refine r_iload hZ dL_law_1464 rfl ?_
                                                                                refine r_iconst (v := (J 1)) hZ dL_law_1466 (by decide) ?_
                                                                                refine r_iadd hZ dL_law_1467 ?_
                                                                                obtain ⟨x383, ex383, H⟩ := ok_bind H
                                                                                refine r_aX hZ hSc dL_law_1468 ex383 ?_
                                                                                refine r_aload_n hZ dL_law_1469 rfl ?_
                                                                                refine r_iload hZ dL_law_1470 rfl ?_
                                                                                refine r_iconst (v := (J 2)) hZ dL_law_1472 (by decide) ?_
                                                                                refine r_iadd hZ dL_law_1473 ?_
                                                                                obtain ⟨x384, ex384, H⟩ := ok_bind H
                                                                                refine r_aX hZ hSc dL_law_1474 ex384 ?_
                                                                                refine r_aload_n hZ dL_law_1475 rfl ?_
                                                                                refine r_iload hZ dL_law_1476 rfl ?_
                                                                                refine r_iconst (v := (J 3)) hZ dL_law_1478 (by decide) ?_
                                                                                refine r_iadd hZ dL_law_1479 ?_
                                                                                obtain ⟨x385, ex385, H⟩ := ok_bind H
                                                                                refine r_aX hZ hSc dL_law_1480 ex385 ?_
                                                                                obtain ⟨u386, eu386, H⟩ := ok_bind H
                                                                                obtain ⟨r387, er387, H⟩ := ok_bind H
                                                                                refine r_callV (As := [.int x383, .int x384, .int x385]) (rest := []) (st1 := [.int r387.1]) (N2 := 0) hZ dL_law_1481 cw_L_170_X11 rfl eu386 (s_X11_row er387) rfl rfl (by decide) (Nat.le_of_ble_eq_true rfl) (by omega) (Nat.le_refl _) (Or.inl rfl) rfl ?_
                                                                                refine r_aload_n hZ dL_law_1484 rfl ?_
                                                                                refine r_aload_n hZ dL_law_1485 rfl ?_
                                                                                refine r_iload hZ dL_law_1486 rfl ?_
                                                                                refine r_iconst (v := (J 1)) hZ dL_law_1488 (by decide) ?_
                                                                                refine r_iadd hZ dL_law_1489 ?_
                                                                                obtain ⟨x388, ex388, H⟩ := ok_bind H
                                                                                refine r_aX hZ hSc dL_law_1490 ex388 ?_
                                                                                refine r_aload_n hZ dL_law_1491 rfl ?_
                                                                                refine r_iload hZ dL_law_1492 rfl ?_
                                                                                refine r_iconst (v := (J 2)) hZ dL_law_1494 (by decide) ?_
                                                                                refine r_iadd hZ dL_law_1495 ?_
                                                                                obtain ⟨x389, ex389, H⟩ := ok_bind H
                                                                                refine r_aX hZ hSc dL_law_1496 ex389 ?_
                                                                                refine r_aload_n hZ dL_law_1497 rfl ?_
                                                                                refine r_iload hZ dL_law_1498 rfl ?_
                                                                                refine r_iconst (v := (J 3)) hZ dL_law_1500 (by decide) ?_
                                                                                refine r_iadd hZ dL_law_1501 ?_
                                                                                obtain ⟨x390, ex390, H⟩ := ok_bind H
                                                                                refine r_aX hZ hSc dL_law_1502 ex390 ?_
                                                                                obtain ⟨u391, eu391, H⟩ := ok_bind H
                                                                                obtain ⟨r392, er392, H⟩ := ok_bind H
                                                                                refine r_callV (As := [.int x388, .int x389, .int x390]) (rest := [.int r387.1]) (st1 := [.int r392.1, .int r387.1]) (N2 := 0) hZ dL_law_1503 cw_L_173_X12 rfl eu391 (s_X12_row er392) rfl rfl (by decide) (Nat.le_of_ble_eq_true rfl) (by omega) (Nat.le_refl _) (Or.inl rfl) rfl ?_
                                                                                refine r_icmp_eq (tgt := 1750) hZ dL_law_1506 (by decide) (fun c394 => ?_) (fun c394 => ?_)
                                                                                · have H := ok_t H c394
                                                                                  obtain ⟨x393, ex393, H⟩ := ok_bind H
                                                                                  refine r_iincE (w := (J 6)) hZ dL_law_1750 (by decide) rfl (by decide) ex393 (r_pick [0, 1, 2, 3, 4] (ls' := [(0, .ref (BB + 4)), (1, .ref p1), (2, .ref p2), (3, .ref p3), (4, .int x393)]) rfl ?_)
                                                                                  refine r_goto (tgt := 23) hZ dL_law_1753 (by decide) ?_
                                                                                  exact r_pick [0, 1, 2, 3, 4] (ls' := [(0, .ref (BB + 4)), (1, .ref p1), (2, .ref p2), (3, .ref p3), (4, .int x393)]) rfl (ih _ _ ⟨law_s0 hL hx9 ex393 hx.1, hx.2⟩ (ki_l H))
                                                                                · have H := ok_f H c394
                                                                                  exact ok_none H
                                                                              · have H := ok_f H c395
                                                                                by_cases c408 : x2 = (J 37)
                                                                                · have hs : R Z 1511 [(0, .ref (BB + 4)), (1, .ref p1), (2, .ref p2), (3, .ref p3), (4, .int s.1)] [] n s.2 x → R Z 40 [(0, .ref (BB + 4)), (1, .ref p1), (2, .ref p2), (3, .ref p3), (4, .int s.1)] [.int x2] n s.2 x := by
                                                                                    exact fun k => r_tableIn hZ dL_law_40 (by rw [c408]; decide) (by rw [c408]; decide) (off := 1471) (by rw [c408]; rfl) (by decide) k
                                                                                  refine hs ?_
                                                                                  clear hs
                                                                                  have H := ok_t H c408
                                                                                  refine r_aload_n hZ dL_law_1511 rfl ?_
                                                                                  refine r_aload_n hZ dL_law_1512 rfl ?_
                                                                                  refine r_iload hZ dL_law_1513 rfl ?_
                                                                                  refine r_iconst (v := (J 1)) hZ dL_law_1515 (by decide) ?_
                                                                                  refine r_iadd hZ dL_law_1516 ?_
                                                                                  obtain ⟨x396, ex396, H⟩ := ok_bind H
                                                                                  refine r_aX hZ hSc dL_law_1517 ex396 ?_
                                                                                  refine r_aload_n hZ dL_law_1518 rfl ?_
                                                                                  refine r_iload hZ dL_law_1519 rfl ?_
                                                                                  refine r_iconst (v := (J 2)) hZ dL_law_1521 (by decide) ?_
                                                                                  refine r_iadd hZ dL_law_1522 ?_
                                                                                  obtain ⟨x397, ex397, H⟩ := ok_bind H
                                                                                  refine r_aX hZ hSc dL_law_1523 ex397 ?_
                                                                                  refine r_aload_n hZ dL_law_1524 rfl ?_
                                                                                  refine r_iload hZ dL_law_1525 rfl ?_
                                                                                  refine r_iconst (v := (J 3)) hZ dL_law_1527 (by decide) ?_
                                                                                  refine r_iadd hZ dL_law_1528 ?_
                                                                                  obtain ⟨x398, ex398, H⟩ := ok_bind H
                                                                                  refine r_aX hZ hSc dL_law_1529 ex398 ?_
                                                                                  obtain ⟨u399, eu399, H⟩ := ok_bind H
                                                                                  obtain ⟨r400, er400, H⟩ := ok_bind H
                                                                                  refine r_callV (As := [.int x396, .int x397, .int x398]) (rest := []) (st1 := [.int r400.1]) (N2 := 0) hZ dL_law_1530 cw_L_174_X11 rfl eu399 (s_X11_put er400) rfl rfl (by decide) (Nat.le_of_ble_eq_true rfl) (by omega) (Nat.le_refl _) (Or.inl rfl) rfl ?_
                                                                                  refine r_aload_n hZ dL_law_1533 rfl ?_
                                                                                  refine r_aload_n hZ dL_law_1534 rfl ?_
                                                                                  refine r_iload hZ dL_law_1535 rfl ?_
                                                                                  refine r_iconst (v := (J 1)) hZ dL_law_1537 (by decide) ?_
                                                                                  refine r_iadd hZ dL_law_1538 ?_
                                                                                  obtain ⟨x401, ex401, H⟩ := ok_bind H
                                                                                  refine r_aX hZ hSc dL_law_1539 ex401 ?_
                                                                                  refine r_aload_n hZ dL_law_1540 rfl ?_
                                                                                  refine r_iload hZ dL_law_1541 rfl ?_
                                                                                  refine r_iconst (v := (J 2)) hZ dL_law_1543 (by decide) ?_
                                                                                  refine r_iadd hZ dL_law_1544 ?_
                                                                                  obtain ⟨x402, ex402, H⟩ := ok_bind H
                                                                                  refine r_aX hZ hSc dL_law_1545 ex402 ?_
                                                                                  refine r_aload_n hZ dL_law_1546 rfl ?_
                                                                                  refine r_iload hZ dL_law_1547 rfl ?_
                                                                                  refine r_iconst (v := (J 3)) hZ dL_law_1549 (by decide) ?_
                                                                                  refine r_iadd hZ dL_law_1550 ?_
                                                                                  obtain ⟨x403, ex403, H⟩ := ok_bind H
                                                                                  refine r_aX hZ hSc dL_law_1551 ex403 ?_
                                                                                  obtain ⟨u404, eu404, H⟩ := ok_bind H
                                                                                  obtain ⟨r405, er405, H⟩ := ok_bind H
                                                                                  refine r_callV (As := [.int x401, .int x402, .int x403]) (rest := [.int r400.1]) (st1 := [.int r405.1, .int r400.1]) (N2 := 0) hZ dL_law_1552 cw_L_177_X12 rfl eu404 (s_X12_put er405) rfl rfl (by decide) (Nat.le_of_ble_eq_true rfl) (by omega) (Nat.le_refl _) (Or.inl rfl) rfl ?_
                                                                                  refine r_icmp_eq (tgt := 1750) hZ dL_law_1555 (by decide) (fun c407 => ?_) (fun c407 => ?_)
                                                                                  · have H := ok_t H c407
                                                                                    obtain ⟨x406, ex406, H⟩ := ok_bind H
                                                                                    refine r_iincE (w := (J 6)) hZ dL_law_1750 (by decide) rfl (by decide) ex406 (r_pick [0, 1, 2, 3, 4] (ls' := [(0, .ref (BB + 4)), (1, .ref p1), (2, .ref p2), (3, .ref p3), (4, .int x406)]) rfl ?_)
                                                                                    refine r_goto (tgt := 23) hZ dL_law_1753 (by decide) ?_
                                                                                    exact r_pick [0, 1, 2, 3, 4] (ls' := [(0, .ref (BB + 4)), (1, .ref p1), (2, .ref p2), (3, .ref p3), (4, .int x406)]) rfl (ih _ _ ⟨law_s0 hL hx9 ex406 hx.1, hx.2⟩ (ki_l H))
                                                                                  · have H := ok_f H c407
                                                                                    exact ok_none H
                                                                                · have H := ok_f H c408
                                                                                  by_cases c425 : x2 = (J 38)
                                                                                  · have hs : R Z 1560 [(0, .ref (BB + 4)), (1, .ref p1), (2, .ref p2), (3, .ref p3), (4, .int s.1)] [] n s.2 x → R Z 40 [(0, .ref (BB + 4)), (1, .ref p1), (2, .ref p2), (3, .ref p3), (4, .int s.1)] [.int x2] n s.2 x := by
                                                                                      exact fun k => r_tableIn hZ dL_law_40 (by rw [c425]; decide) (by rw [c425]; decide) (off := 1520) (by rw [c425]; rfl) (by decide) k
                                                                                    refine hs ?_
                                                                                    clear hs
                                                                                    have H := ok_t H c425
                                                                                    refine r_aload_n hZ dL_law_1560 rfl ?_
                                                                                    refine r_aload_n hZ dL_law_1561 rfl ?_
                                                                                    refine r_iload hZ dL_law_1562 rfl ?_
                                                                                    refine r_iconst (v := (J 1)) hZ dL_law_1564 (by decide) ?_
                                                                                    refine r_iadd hZ dL_law_1565 ?_
                                                                                    obtain ⟨x409, ex409, H⟩ := ok_bind H
                                                                                    refine r_aX hZ hSc dL_law_1566 ex409 ?_
                                                                                    refine r_aload_n hZ dL_law_1567 rfl ?_
                                                                                    refine r_iload hZ dL_law_1568 rfl ?_
                                                                                    refine r_iconst (v := (J 2)) hZ dL_law_1570 (by decide) ?_
                                                                                    refine r_iadd hZ dL_law_1571 ?_
                                                                                    obtain ⟨x410, ex410, H⟩ := ok_bind H
                                                                                    refine r_aX hZ hSc dL_law_1572 ex410 ?_
                                                                                    refine r_aload_n hZ dL_law_1573 rfl ?_
                                                                                    obtain ⟨r412, er412, H⟩ := ok_bind H
                                                                                    refine r_callSY (As := [.ref p1, .int x409, .int x410, .ref p3]) (rest := []) (st1 := [.int r412.1]) hZ hE dL_law_1574 cw_L_178 (s_L_element er412) rfl rfl (by decide) (Nat.le_of_ble_eq_true rfl) hxi rfl ?_
                                                                                    refine r_istore hZ dL_law_1577 (by decide) (r_pick [0, 1, 2, 3, 4, 5] (ls' := [(0, .ref (BB + 4)), (1, .ref p1), (2, .ref p2), (3, .ref p3), (4, .int s.1), (5, .int r412.1)]) rfl ?_)
                                                                                    refine r_aload_n hZ dL_law_1579 rfl ?_
                                                                                    refine r_aload_n hZ dL_law_1580 rfl ?_
                                                                                    refine r_iload hZ dL_law_1581 rfl ?_
                                                                                    refine r_iconst (v := (J 1)) hZ dL_law_1583 (by decide) ?_
                                                                                    refine r_iadd hZ dL_law_1584 ?_
                                                                                    obtain ⟨x413, ex413, H⟩ := ok_bind H
                                                                                    refine r_aX hZ hSc dL_law_1585 ex413 ?_
                                                                                    refine r_aload_n hZ dL_law_1586 rfl ?_
                                                                                    refine r_iload hZ dL_law_1587 rfl ?_
                                                                                    refine r_iconst (v := (J 2)) hZ dL_law_1589 (by decide) ?_
                                                                                    refine r_iadd hZ dL_law_1590 ?_
                                                                                    obtain ⟨x414, ex414, H⟩ := ok_bind H
                                                                                    refine r_aX hZ hSc dL_law_1591 ex414 ?_
                                                                                    obtain ⟨u415, eu415, H⟩ := ok_bind H
                                                                                    obtain ⟨r416, er416, H⟩ := ok_bind H
                                                                                    refine r_callV (As := [.int x413, .int x414]) (rest := []) (st1 := [.long r416.1]) (N2 := 0) hZ dL_law_1592 cw_L_183_X12 rfl eu415 (s_X12_element er416) rfl rfl (by decide) (Nat.le_of_ble_eq_true rfl) (by omega) (Nat.le_refl _) (Or.inl rfl) rfl ?_
                                                                                    refine r_lstore hZ dL_law_1595 (by decide) (r_pick [0, 1, 2, 3, 4, 5, 6] (ls' := [(0, .ref (BB + 4)), (1, .ref p1), (2, .ref p2), (3, .ref p3), (4, .int s.1), (5, .int r412.1), (6, .long r416.1)]) rfl ?_)
                                                                                    refine r_aload_n hZ dL_law_1597 rfl ?_
                                                                                    obtain ⟨u417, eu417, H⟩ := ok_bind H
                                                                                    obtain ⟨r418, er418, H⟩ := ok_bind H
                                                                                    refine r_callV (As := []) (rest := []) (st1 := [.int r418]) (N2 := 0) hZ dL_law_1598 cw_L_184_X12 rfl eu417 (s_X12_thrown er418) rfl rfl (by decide) (Nat.le_of_ble_eq_true rfl) (by omega) (Nat.le_refl _) (Or.inl rfl) rfl ?_
                                                                                    refine r_iload hZ dL_law_1601 rfl ?_
                                                                                    refine r_icmp_eq (tgt := 1608) hZ dL_law_1603 (by decide) (fun c424 => ?_) (fun c424 => ?_)
                                                                                    · have H := ok_t H c424
                                                                                      refine r_iload hZ dL_law_1608 rfl ?_
                                                                                      refine r_if_ne (tgt := 1624) hZ dL_law_1610 (by decide) (fun c423 => ?_) (fun c423 => ?_)
                                                                                      · have H := ok_f H c423
                                                                                        refine r_goto (tgt := 1750) hZ dL_law_1624 (by decide) ?_
                                                                                        obtain ⟨x419, ex419, H⟩ := ok_bind H
                                                                                        refine r_iincE (w := (J 6)) hZ dL_law_1750 (by decide) rfl (by decide) ex419 (r_pick [0, 1, 2, 3, 4] (ls' := [(0, .ref (BB + 4)), (1, .ref p1), (2, .ref p2), (3, .ref p3), (4, .int x419)]) rfl ?_)
                                                                                        refine r_goto (tgt := 23) hZ dL_law_1753 (by decide) ?_
                                                                                        exact r_pick [0, 1, 2, 3, 4] (ls' := [(0, .ref (BB + 4)), (1, .ref p1), (2, .ref p2), (3, .ref p3), (4, .int x419)]) rfl (ih _ _ ⟨law_s1 hL hx9 ex419 hx.1, hxi⟩ (ki_l H))
                                                                                      · have H := ok_t H c423
                                                                                        refine r_aload_n hZ dL_law_1613 rfl ?_
                                                                                        refine r_iconst (v := (J 0)) hZ dL_law_1614 (by decide) ?_
                                                                                        obtain ⟨x420, ex420, H⟩ := ok_bind H
                                                                                        refine r_aL hZ dL_law_1615 ex420 ?_
                                                                                        refine r_lload hZ dL_law_1616 rfl ?_
                                                                                        refine r_lcmp hZ dL_law_1618 ?_
                                                                                        refine r_if_eq (tgt := 1624) hZ dL_law_1619 (by decide) (fun c422 => ?_) (fun c422 => ?_)
                                                                                        · have H := ok_t H c422
                                                                                          refine r_goto (tgt := 1750) hZ dL_law_1624 (by decide) ?_
                                                                                          obtain ⟨x421, ex421, H⟩ := ok_bind H
                                                                                          refine r_iincE (w := (J 6)) hZ dL_law_1750 (by decide) rfl (by decide) ex421 (r_pick [0, 1, 2, 3, 4] (ls' := [(0, .ref (BB + 4)), (1, .ref p1), (2, .ref p2), (3, .ref p3), (4, .int x421)]) rfl ?_)
                                                                                          refine r_goto (tgt := 23) hZ dL_law_1753 (by decide) ?_
                                                                                          exact r_pick [0, 1, 2, 3, 4] (ls' := [(0, .ref (BB + 4)), (1, .ref p1), (2, .ref p2), (3, .ref p3), (4, .int x421)]) rfl (ih _ _ ⟨law_s1 hL hx9 ex421 hx.1, hxi⟩ (ki_l H))
                                                                                        · have H := ok_f H c422
                                                                                          exact ok_none H
                                                                                    · have H := ok_f H c424
                                                                                      exact ok_none H
                                                                                  · have H := ok_f H c425
                                                                                    by_cases c442 : x2 = (J 39)
                                                                                    · have hs : R Z 1627 [(0, .ref (BB + 4)), (1, .ref p1), (2, .ref p2), (3, .ref p3), (4, .int s.1)] [] n s.2 x → R Z 40 [(0, .ref (BB + 4)), (1, .ref p1), (2, .ref p2), (3, .ref p3), (4, .int s.1)] [.int x2] n s.2 x := by
                                                                                        exact fun k => r_tableIn hZ dL_law_40 (by rw [c442]; decide) (by rw [c442]; decide) (off := 1587) (by rw [c442]; rfl) (by decide) k
                                                                                      refine hs ?_
                                                                                      clear hs
                                                                                      have H := ok_t H c442
                                                                                      refine r_aload_n hZ dL_law_1627 rfl ?_
                                                                                      refine r_aload_n hZ dL_law_1628 rfl ?_
                                                                                      refine r_iload hZ dL_law_1629 rfl ?_
                                                                                      refine r_iconst (v := (J 1)) hZ dL_law_1631 (by decide) ?_
                                                                                      refine r_iadd hZ dL_law_1632 ?_
                                                                                      obtain ⟨x426, ex426, H⟩ := ok_bind H
                                                                                      refine r_aX hZ hSc dL_law_1633 ex426 ?_
                                                                                      refine r_aload_n hZ dL_law_1634 rfl ?_
                                                                                      refine r_iload hZ dL_law_1635 rfl ?_
                                                                                      refine r_iconst (v := (J 2)) hZ dL_law_1637 (by decide) ?_
                                                                                      refine r_iadd hZ dL_law_1638 ?_
                                                                                      obtain ⟨x427, ex427, H⟩ := ok_bind H
                                                                                      refine r_aX hZ hSc dL_law_1639 ex427 ?_
                                                                                      refine r_aload_n hZ dL_law_1640 rfl ?_
                                                                                      refine r_iload hZ dL_law_1641 rfl ?_
                                                                                      refine r_iconst (v := (J 3)) hZ dL_law_1643 (by decide) ?_
                                                                                      refine r_iadd hZ dL_law_1644 ?_
                                                                                      obtain ⟨x428, ex428, H⟩ := ok_bind H
                                                                                      refine r_aX hZ hSc dL_law_1645 ex428 ?_
                                                                                      refine r_aload_n hZ dL_law_1646 rfl ?_
                                                                                      refine r_iload hZ dL_law_1647 rfl ?_
                                                                                      refine r_iconst (v := (J 4)) hZ dL_law_1649 (by decide) ?_
                                                                                      refine r_iadd hZ dL_law_1650 ?_
                                                                                      obtain ⟨x429, ex429, H⟩ := ok_bind H
                                                                                      refine r_aX hZ hSc dL_law_1651 ex429 ?_
                                                                                      refine r_aload_n hZ dL_law_1652 rfl ?_
                                                                                      refine r_iload hZ dL_law_1653 rfl ?_
                                                                                      refine r_iconst (v := (J 5)) hZ dL_law_1655 (by decide) ?_
                                                                                      refine r_iadd hZ dL_law_1656 ?_
                                                                                      obtain ⟨x430, ex430, H⟩ := ok_bind H
                                                                                      refine r_aX hZ hSc dL_law_1657 ex430 ?_
                                                                                      obtain ⟨u431, eu431, H⟩ := ok_bind H
                                                                                      obtain ⟨r432, er432, H⟩ := ok_bind H
                                                                                      refine r_callV (As := [.int x426, .int x427, .int x428, .int x429, .int x430]) (rest := []) (st1 := [.int r432.1]) (N2 := 0) hZ dL_law_1658 cw_L_187_X11 rfl eu431 (s_X11_copy er432) rfl rfl (by decide) (Nat.le_of_ble_eq_true rfl) (by omega) (Nat.le_refl _) (Or.inl rfl) rfl ?_
                                                                                      refine r_aload_n hZ dL_law_1661 rfl ?_
                                                                                      refine r_aload_n hZ dL_law_1662 rfl ?_
                                                                                      refine r_iload hZ dL_law_1663 rfl ?_
                                                                                      refine r_iconst (v := (J 1)) hZ dL_law_1665 (by decide) ?_
                                                                                      refine r_iadd hZ dL_law_1666 ?_
                                                                                      obtain ⟨x433, ex433, H⟩ := ok_bind H
                                                                                      refine r_aX hZ hSc dL_law_1667 ex433 ?_
                                                                                      refine r_aload_n hZ dL_law_1668 rfl ?_
                                                                                      refine r_iload hZ dL_law_1669 rfl ?_
                                                                                      refine r_iconst (v := (J 2)) hZ dL_law_1671 (by decide) ?_
                                                                                      refine r_iadd hZ dL_law_1672 ?_
                                                                                      obtain ⟨x434, ex434, H⟩ := ok_bind H
                                                                                      refine r_aX hZ hSc dL_law_1673 ex434 ?_
                                                                                      refine r_aload_n hZ dL_law_1674 rfl ?_
                                                                                      refine r_iload hZ dL_law_1675 rfl ?_
                                                                                      refine r_iconst (v := (J 3)) hZ dL_law_1677 (by decide) ?_
                                                                                      refine r_iadd hZ dL_law_1678 ?_
                                                                                      obtain ⟨x435, ex435, H⟩ := ok_bind H
                                                                                      refine r_aX hZ hSc dL_law_1679 ex435 ?_
                                                                                      refine r_aload_n hZ dL_law_1680 rfl ?_
                                                                                      refine r_iload hZ dL_law_1681 rfl ?_
                                                                                      refine r_iconst (v := (J 4)) hZ dL_law_1683 (by decide) ?_
                                                                                      refine r_iadd hZ dL_law_1684 ?_
                                                                                      obtain ⟨x436, ex436, H⟩ := ok_bind H
                                                                                      refine r_aX hZ hSc dL_law_1685 ex436 ?_
                                                                                      refine r_aload_n hZ dL_law_1686 rfl ?_
                                                                                      refine r_iload hZ dL_law_1687 rfl ?_
                                                                                      refine r_iconst (v := (J 5)) hZ dL_law_1689 (by decide) ?_
                                                                                      refine r_iadd hZ dL_law_1690 ?_
                                                                                      obtain ⟨x437, ex437, H⟩ := ok_bind H
                                                                                      refine r_aX hZ hSc dL_law_1691 ex437 ?_
                                                                                      obtain ⟨u438, eu438, H⟩ := ok_bind H
                                                                                      obtain ⟨r439, er439, H⟩ := ok_bind H
                                                                                      refine r_callV (As := [.int x433, .int x434, .int x435, .int x436, .int x437]) (rest := [.int r432.1]) (st1 := [.int r439.1, .int r432.1]) (N2 := 0) hZ dL_law_1692 cw_L_191_X12 rfl eu438 (s_X12_copy er439) rfl rfl (by decide) (Nat.le_of_ble_eq_true rfl) (by omega) (Nat.le_refl _) (Or.inl rfl) rfl ?_
                                                                                      refine r_icmp_eq (tgt := 1750) hZ dL_law_1695 (by decide) (fun c441 => ?_) (fun c441 => ?_)
                                                                                      · have H := ok_t H c441
                                                                                        obtain ⟨x440, ex440, H⟩ := ok_bind H
                                                                                        refine r_iincE (w := (J 6)) hZ dL_law_1750 (by decide) rfl (by decide) ex440 (r_pick [0, 1, 2, 3, 4] (ls' := [(0, .ref (BB + 4)), (1, .ref p1), (2, .ref p2), (3, .ref p3), (4, .int x440)]) rfl ?_)
                                                                                        refine r_goto (tgt := 23) hZ dL_law_1753 (by decide) ?_
                                                                                        exact r_pick [0, 1, 2, 3, 4] (ls' := [(0, .ref (BB + 4)), (1, .ref p1), (2, .ref p2), (3, .ref p3), (4, .int x440)]) rfl (ih _ _ ⟨law_s0 hL hx9 ex440 hx.1, hx.2⟩ (ki_l H))
                                                                                      · have H := ok_f H c441
                                                                                        exact ok_none H
                                                                                    · have H := ok_f H c442
                                                                                      by_cases c451 : x2 = (J 40)
                                                                                      · have hs : R Z 1700 [(0, .ref (BB + 4)), (1, .ref p1), (2, .ref p2), (3, .ref p3), (4, .int s.1)] [] n s.2 x → R Z 40 [(0, .ref (BB + 4)), (1, .ref p1), (2, .ref p2), (3, .ref p3), (4, .int s.1)] [.int x2] n s.2 x := by
                                                                                          exact fun k => r_tableIn hZ dL_law_40 (by rw [c451]; decide) (by rw [c451]; decide) (off := 1660) (by rw [c451]; rfl) (by decide) k
                                                                                        refine hs ?_
                                                                                        clear hs
                                                                                        have H := ok_t H c451
                                                                                        refine r_aload_n hZ dL_law_1700 rfl ?_
                                                                                        refine r_aload_n hZ dL_law_1701 rfl ?_
                                                                                        refine r_iload hZ dL_law_1702 rfl ?_
                                                                                        refine r_iconst (v := (J 1)) hZ dL_law_1704 (by decide) ?_
                                                                                        refine r_iadd hZ dL_law_1705 ?_
                                                                                        obtain ⟨x443, ex443, H⟩ := ok_bind H
                                                                                        refine r_aX hZ hSc dL_law_1706 ex443 ?_
                                                                                        obtain ⟨u444, eu444, H⟩ := ok_bind H
                                                                                        obtain ⟨r445, er445, H⟩ := ok_bind H
                                                                                        refine r_callV (As := [.int x443]) (rest := []) (st1 := [.int r445]) (N2 := 0) hZ dL_law_1707 cw_L_192_X11 rfl eu444 (s_X11_weight er445) rfl rfl (by decide) (Nat.le_of_ble_eq_true rfl) (by omega) (Nat.le_refl _) (Or.inl rfl) rfl ?_
                                                                                        refine r_aload_n hZ dL_law_1710 rfl ?_
                                                                                        refine r_aload_n hZ dL_law_1711 rfl ?_
                                                                                        refine r_iload hZ dL_law_1712 rfl ?_
                                                                                        refine r_iconst (v := (J 1)) hZ dL_law_1714 (by decide) ?_
                                                                                        refine r_iadd hZ dL_law_1715 ?_
                                                                                        obtain ⟨x446, ex446, H⟩ := ok_bind H
                                                                                        refine r_aX hZ hSc dL_law_1716 ex446 ?_
                                                                                        obtain ⟨u447, eu447, H⟩ := ok_bind H
                                                                                        obtain ⟨r448, er448, H⟩ := ok_bind H
                                                                                        refine r_callV (As := [.int x446]) (rest := [.int r445]) (st1 := [.int r448, .int r445]) (N2 := 0) hZ dL_law_1717 cw_L_195_X12 rfl eu447 (s_X12_weight er448) rfl rfl (by decide) (Nat.le_of_ble_eq_true rfl) (by omega) (Nat.le_refl _) (Or.inl rfl) rfl ?_
                                                                                        refine r_icmp_eq (tgt := 1750) hZ dL_law_1720 (by decide) (fun c450 => ?_) (fun c450 => ?_)
                                                                                        · have H := ok_t H c450
                                                                                          obtain ⟨x449, ex449, H⟩ := ok_bind H
                                                                                          refine r_iincE (w := (J 6)) hZ dL_law_1750 (by decide) rfl (by decide) ex449 (r_pick [0, 1, 2, 3, 4] (ls' := [(0, .ref (BB + 4)), (1, .ref p1), (2, .ref p2), (3, .ref p3), (4, .int x449)]) rfl ?_)
                                                                                          refine r_goto (tgt := 23) hZ dL_law_1753 (by decide) ?_
                                                                                          exact r_pick [0, 1, 2, 3, 4] (ls' := [(0, .ref (BB + 4)), (1, .ref p1), (2, .ref p2), (3, .ref p3), (4, .int x449)]) rfl (ih _ _ ⟨law_s0 hL hx9 ex449 hx.1, hx.2⟩ (ki_l H))
                                                                                        · have H := ok_f H c450
                                                                                          exact ok_none H
                                                                                      · have H := ok_f H c451
                                                                                        by_cases c460 : x2 = (J 41)
                                                                                        · have hs : R Z 1725 [(0, .ref (BB + 4)), (1, .ref p1), (2, .ref p2), (3, .ref p3), (4, .int s.1)] [] n s.2 x → R Z 40 [(0, .ref (BB + 4)), (1, .ref p1), (2, .ref p2), (3, .ref p3), (4, .int s.1)] [.int x2] n s.2 x := by
                                                                                            exact fun k => r_tableIn hZ dL_law_40 (by rw [c460]; decide) (by rw [c460]; decide) (off := 1685) (by rw [c460]; rfl) (by decide) k
                                                                                          refine hs ?_
                                                                                          clear hs
                                                                                          have H := ok_t H c460
                                                                                          refine r_aload_n hZ dL_law_1725 rfl ?_
                                                                                          refine r_aload_n hZ dL_law_1726 rfl ?_
                                                                                          refine r_iload hZ dL_law_1727 rfl ?_
                                                                                          refine r_iconst (v := (J 1)) hZ dL_law_1729 (by decide) ?_
                                                                                          refine r_iadd hZ dL_law_1730 ?_
                                                                                          obtain ⟨x452, ex452, H⟩ := ok_bind H
                                                                                          refine r_aX hZ hSc dL_law_1731 ex452 ?_
                                                                                          obtain ⟨u453, eu453, H⟩ := ok_bind H
                                                                                          obtain ⟨r454, er454, H⟩ := ok_bind H
                                                                                          refine r_callVY (As := [.int x452]) (rest := []) (st1 := [.int r454]) hZ hE dL_law_1732 cw_L_196_X11 rfl eu453 (s_X11_toss er454) rfl rfl (by decide) (Nat.le_of_ble_eq_true rfl) hxi rfl ?_
                                                                                          refine r_aload_n hZ dL_law_1735 rfl ?_
                                                                                          refine r_aload_n hZ dL_law_1736 rfl ?_
                                                                                          refine r_iload hZ dL_law_1737 rfl ?_
                                                                                          refine r_iconst (v := (J 1)) hZ dL_law_1739 (by decide) ?_
                                                                                          refine r_iadd hZ dL_law_1740 ?_
                                                                                          obtain ⟨x455, ex455, H⟩ := ok_bind H
                                                                                          refine r_aX hZ hSc dL_law_1741 ex455 ?_
                                                                                          obtain ⟨u456, eu456, H⟩ := ok_bind H
                                                                                          obtain ⟨r457, er457, H⟩ := ok_bind H
                                                                                          refine r_callV (As := [.int x455]) (rest := [.int r454]) (st1 := [.int r457, .int r454]) (N2 := 0) hZ dL_law_1742 cw_L_199_X12 rfl eu456 (s_X12_toss er457) rfl rfl (by decide) (Nat.le_of_ble_eq_true rfl) (by omega) (Nat.le_refl _) (Or.inl rfl) rfl ?_
                                                                                          refine r_icmp_eq (tgt := 1750) hZ dL_law_1745 (by decide) (fun c459 => ?_) (fun c459 => ?_)
                                                                                          · have H := ok_t H c459
                                                                                            obtain ⟨x458, ex458, H⟩ := ok_bind H
                                                                                            refine r_iincE (w := (J 6)) hZ dL_law_1750 (by decide) rfl (by decide) ex458 (r_pick [0, 1, 2, 3, 4] (ls' := [(0, .ref (BB + 4)), (1, .ref p1), (2, .ref p2), (3, .ref p3), (4, .int x458)]) rfl ?_)
                                                                                            refine r_goto (tgt := 23) hZ dL_law_1753 (by decide) ?_
                                                                                            exact r_pick [0, 1, 2, 3, 4] (ls' := [(0, .ref (BB + 4)), (1, .ref p1), (2, .ref p2), (3, .ref p3), (4, .int x458)]) rfl (ih _ _ ⟨law_s1 hL hx9 ex458 hx.1, hxi⟩ (ki_l H))
                                                                                          · have H := ok_f H c459
                                                                                            exact ok_none H
                                                                                        · have H := ok_f H c460
                                                                                          refine r_tableOut (tgt := 1750) hZ dL_law_40 (by have := sw_n c11; have := sw_n c22; have := sw_n c33; have := sw_n c44; have := sw_n c51; have := sw_n c62; have := sw_n c75; have := sw_n c88; have := sw_n c99; have := sw_n c112; have := sw_n c123; have := sw_n c134; have := sw_n c143; have := sw_n c152; have := sw_n c161; have := sw_n c172; have := sw_n c185; have := sw_n c198; have := sw_n c209; have := sw_n c218; have := sw_n c229; have := sw_n c236; have := sw_n c245; have := sw_n c256; have := sw_n c265; have := sw_n c274; have := sw_n c283; have := sw_n c294; have := sw_n c307; have := sw_n c318; have := sw_n c331; have := sw_n c346; have := sw_n c353; have := sw_n c360; have := sw_n c369; have := sw_n c382; have := sw_n c395; have := sw_n c408; have := sw_n c425; have := sw_n c442; have := sw_n c451; have := sw_n c460; omega) (by decide) ?_
                                                                                          obtain ⟨x461, ex461, H⟩ := ok_bind H
                                                                                          refine r_iincE (w := (J 6)) hZ dL_law_1750 (by decide) rfl (by decide) ex461 (r_pick [0, 1, 2, 3, 4] (ls' := [(0, .ref (BB + 4)), (1, .ref p1), (2, .ref p2), (3, .ref p3), (4, .int x461)]) rfl ?_)
                                                                                          refine r_goto (tgt := 23) hZ dL_law_1753 (by decide) ?_
                                                                                          exact r_pick [0, 1, 2, 3, 4] (ls' := [(0, .ref (BB + 4)), (1, .ref p1), (2, .ref p2), (3, .ref p3), (4, .int x461)]) rfl (ih _ _ ⟨law_s0 hL hx9 ex461 hx.1, hx.2⟩ (ki_l H))
def f_L_law (N2 n L : Nat) (xs : Nat → Int32) (h : Hp) : Option Unit :=
  (cap (n + 1) N2).bind fun u1 =>
  (cap ((n + 1) + 182) N2).bind fun u3 =>
  (f_X11_init ((n + 1) + 182) (n + 1) (va_up h n (some (10, .inl [.null, .null, .null, .null, .null, .null, .null, .int 0, .null, .null, .null, .null, .null, .null, .null, .null]))) n).bind fun r2 =>
  (cap (((n + 1) + 182) + 1) N2).bind fun u4 =>
  (cap ((((n + 1) + 182) + 1) + 18) N2).bind fun u6 =>
  (f_X12_init ((((n + 1) + 182) + 1) + 18) (((n + 1) + 182) + 1) (va_up r2 ((n + 1) + 182) (some (11, .inl [.null, .null, .null, .null, .null, .null, .null, .null, .null, .null, .int 0, .int 0, .int 0, .int 0, .int 0, .int 0, .null, .null, .null, .null, .null, .null, .long 0, .long 0, .null, .int 0, .int 0, .int 0, .null, .null]))) ((n + 1) + 182)).bind fun r5 =>
  (cap (((((n + 1) + 182) + 1) + 18) + 1) N2).bind fun u7 =>
  (some (J 0)).bind fun x8 =>
  (iter (b_L_law L xs n ((n + 1) + 182) ((((n + 1) + 182) + 1) + 18)) FU (x8, (va_up r5 ((((n + 1) + 182) + 1) + 18) (some (1, .inr (1, .inr (.inl fun _ => 0))))))).bind fun e9 =>
  some ()
set_option maxRecDepth 100000 in
set_option maxHeartbeats 40000000 in
theorem s_L_law {Z : Zc} {L : Nat} {xs : Nat → Int32} (hL : L ≤ 3072) (hZ : Fx cL_law RL 8 406 512 Z) {N2 n : Nat} (hN : NX N2 Z) (hE : ExZ Z) (hSc : ScZ L xs Z) {b : Nat} (hF : FLaw b Z) {h : Hp} (hf : f_L_law N2 n L xs h = some ()) : R Z 0 [(0, .ref (BB + 4))] [] n h 0 := by
  have H : Ok (f_L_law N2 n L xs h) (fun y => y = ()) := ⟨_, hf, rfl⟩
  unfold f_L_law at H
  obtain ⟨u1, eu1, H⟩ := ok_bind H
  refine r_new hZ hN wn_L_8 dL_law_0 (cap_le eu1) (Nat.zero_le _) ?_
  refine r_dup_a hZ dL_law_3 ?_
  obtain ⟨u3, eu3, H⟩ := ok_bind H
  obtain ⟨r2, er2, H⟩ := ok_bind H
  refine r_callI (As := []) (rest := [.ref n]) (N2 := N2) hZ dL_law_4 cw_L_17 (s_X11_init ⟨Nat.le_add_right _ _, Nat.le_trans (cap_le eu3) (NX_bb hN)⟩ er2) rfl rfl (by decide) (Nat.le_of_ble_eq_true rfl) (Nat.zero_le _) (Nat.le_add_right _ _) (Or.inr ⟨hN, cap_le eu3⟩) ?_
  refine r_astore_n hZ dL_law_7 (by decide) (r_pick [0, 1] (ls' := [(0, .ref (BB + 4)), (1, .ref n)]) rfl ?_)
  obtain ⟨u4, eu4, H⟩ := ok_bind H
  refine r_new hZ hN wn_L_18 dL_law_8 (cap_le eu4) (Nat.zero_le _) ?_
  refine r_dup_a hZ dL_law_11 ?_
  obtain ⟨u6, eu6, H⟩ := ok_bind H
  obtain ⟨r5, er5, H⟩ := ok_bind H
  refine r_callI (As := []) (rest := [.ref ((n + 1) + 182)]) (N2 := N2) hZ dL_law_12 cw_L_20 (s_X12_init ⟨Nat.le_add_right _ _, Nat.le_trans (cap_le eu6) (NX_bb hN)⟩ er5) rfl rfl (by decide) (Nat.le_of_ble_eq_true rfl) (Nat.zero_le _) (Nat.le_add_right _ _) (Or.inr ⟨hN, cap_le eu6⟩) ?_
  refine r_astore_n hZ dL_law_15 (by decide) (r_pick [0, 1, 2] (ls' := [(0, .ref (BB + 4)), (1, .ref n), (2, .ref ((n + 1) + 182))]) rfl ?_)
  refine r_iconst (v := (J 1)) hZ dL_law_16 (by decide) ?_
  obtain ⟨u7, eu7, H⟩ := ok_bind H
  refine r_newL (len := 1) hZ hN wa_long (by decide) (by decide) (by decide) dL_law_17 (cap_le eu7) (Nat.zero_le _) ?_
  refine r_astore_n hZ dL_law_19 (by decide) (r_pick [0, 1, 2, 3] (ls' := [(0, .ref (BB + 4)), (1, .ref n), (2, .ref ((n + 1) + 182)), (3, .ref ((((n + 1) + 182) + 1) + 18))]) rfl ?_)
  refine r_iconst (v := (J 0)) hZ dL_law_20 (by decide) ?_
  obtain ⟨x8, ex8, H⟩ := ok_bind H
  refine r_topi ex8 ?_
  refine r_istore hZ dL_law_21 (by decide) (r_pick [0, 1, 2, 3, 4] (ls' := [(0, .ref (BB + 4)), (1, .ref n), (2, .ref ((n + 1) + 182)), (3, .ref ((((n + 1) + 182) + 1) + 18)), (4, .int x8)]) rfl ?_)
  have H := ok_bindK H
  refine r_pick [0, 1, 2, 3, 4] (ls' := [(0, .ref (BB + 4)), (1, .ref n), (2, .ref ((n + 1) + 182)), (3, .ref ((((n + 1) + 182) + 1) + 18)), (4, .int x8)]) rfl (l_L_law hZ hE hL hSc (fun e9 x hx H => ?_) FU _ 0 ⟨by rw [← Option.some.inj ex8]; show (6 : Int) * ((0 : Nat) : Int) ≤ (J 0).toInt; decide, Nat.zero_le _⟩ H)
  · refine r_iconst (v := (J 1)) hZ dL_law_1756 (by decide) ?_
    exact r_lawret hZ hF dL_law_1757 hx
