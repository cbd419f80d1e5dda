/-! what the primitives say at the fixed numbers (printed by wip/whole/pure/mk_conc.py) -/
def gA (p : Nat) (i : Int) : Nat := p + 5 + 2 * i.toNat
def rA (b : Nat) (i : Int) : Nat := b + 2 + i.toNat
def sA (i : Int) : Nat := 151 + 4 * i.toNat
theorem z0_0 : ∀ d : Mem, isO (mkH d) 0 10 = some () := fun d => q_isO rfl
theorem z0_1 : ∀ d : Mem, gR (mkH d) 0 10 0 = some 1 := fun d => q_gR rfl rfl
theorem z0_2 : ∀ d : Mem, gR (mkH d) 0 10 1 = some 30 := fun d => q_gR rfl rfl
theorem z0_3 : ∀ d : Mem, gR (mkH d) 0 10 2 = some 59 := fun d => q_gR rfl rfl
theorem z0_4 : ∀ d : Mem, gR (mkH d) 0 10 3 = some 62 := fun d => q_gR rfl rfl
theorem z0_5 : ∀ d : Mem, gR (mkH d) 0 10 4 = some 77 := fun d => q_gR rfl rfl
theorem z0_6 : ∀ d : Mem, gR (mkH d) 0 10 5 = some 106 := fun d => q_gR rfl rfl
theorem z0_7 : ∀ d : Mem, gR (mkH d) 0 10 6 = some 109 := fun d => q_gR rfl rfl
theorem z0_8 : ∀ d : Mem, gI (mkH d) 0 10 7 = some (J (d 0 7)) := fun d => q_gI rfl rfl
theorem z0_9 : ∀ (d : Mem) (v : Int), pF (mkH d) 0 10 7 (.int (J v)) = some (mkH (up d 0 7 v)) := fun d v => q_pI rfl rfl
theorem z0_10 : ∀ d : Mem, gR (mkH d) 0 10 8 = some 124 := fun d => q_gR rfl rfl
theorem z0_11 : ∀ d : Mem, gR (mkH d) 0 10 9 = some 125 := fun d => q_gR rfl rfl
theorem z0_12 : ∀ d : Mem, gR (mkH d) 0 10 10 = some 128 := fun d => q_gR rfl rfl
theorem z0_13 : ∀ d : Mem, gR (mkH d) 0 10 11 = some 131 := fun d => q_gR rfl rfl
theorem z0_14 : ∀ d : Mem, gR (mkH d) 0 10 12 = some 136 := fun d => q_gR rfl rfl
theorem z0_15 : ∀ d : Mem, gR (mkH d) 0 10 13 = some 138 := fun d => q_gR rfl rfl
theorem z0_16 : ∀ d : Mem, gR (mkH d) 0 10 14 = some 140 := fun d => q_gR rfl rfl
theorem z0_17 : ∀ d : Mem, gR (mkH d) 0 10 15 = some 146 := fun d => q_gR rfl rfl
theorem z1_0 : ∀ d : Mem, isO (mkH d) 1 3 = some () := fun d => q_isO rfl
theorem z1_1 : ∀ d : Mem, gR (mkH d) 1 3 0 = some 2 := fun d => q_gR rfl rfl
theorem z1_2 : ∀ d : Mem, gI (mkH d) 1 3 1 = some (J (d 1 1)) := fun d => q_gI rfl rfl
theorem z1_3 : ∀ (d : Mem) (v : Int), pF (mkH d) 1 3 1 (.int (J v)) = some (mkH (up d 1 1 v)) := fun d v => q_pI rfl rfl
theorem z1_4 : ∀ d : Mem, gR (mkH d) 1 3 2 = some 3 := fun d => q_gR rfl rfl
theorem z1_5 : ∀ d : Mem, gR (mkH d) 1 3 3 = some 4 := fun d => q_gR rfl rfl
theorem z1_6 : ∀ d : Mem, gR (mkH d) 1 3 4 = some 5 := fun d => q_gR rfl rfl
theorem z1_7 : ∀ d : Mem, gI (mkH d) 1 3 5 = some (J (d 1 5)) := fun d => q_gI rfl rfl
theorem z1_8 : ∀ (d : Mem) (v : Int), pF (mkH d) 1 3 5 (.int (J v)) = some (mkH (up d 1 5 v)) := fun d v => q_pI rfl rfl
theorem z30_0 : ∀ d : Mem, isO (mkH d) 30 3 = some () := fun d => q_isO rfl
theorem z30_1 : ∀ d : Mem, gR (mkH d) 30 3 0 = some 31 := fun d => q_gR rfl rfl
theorem z30_2 : ∀ d : Mem, gI (mkH d) 30 3 1 = some (J (d 30 1)) := fun d => q_gI rfl rfl
theorem z30_3 : ∀ (d : Mem) (v : Int), pF (mkH d) 30 3 1 (.int (J v)) = some (mkH (up d 30 1 v)) := fun d v => q_pI rfl rfl
theorem z30_4 : ∀ d : Mem, gR (mkH d) 30 3 2 = some 32 := fun d => q_gR rfl rfl
theorem z30_5 : ∀ d : Mem, gR (mkH d) 30 3 3 = some 33 := fun d => q_gR rfl rfl
theorem z30_6 : ∀ d : Mem, gR (mkH d) 30 3 4 = some 34 := fun d => q_gR rfl rfl
theorem z30_7 : ∀ d : Mem, gI (mkH d) 30 3 5 = some (J (d 30 5)) := fun d => q_gI rfl rfl
theorem z30_8 : ∀ (d : Mem) (v : Int), pF (mkH d) 30 3 5 (.int (J v)) = some (mkH (up d 30 5 v)) := fun d v => q_pI rfl rfl
theorem z77_0 : ∀ d : Mem, isO (mkH d) 77 3 = some () := fun d => q_isO rfl
theorem z77_1 : ∀ d : Mem, gR (mkH d) 77 3 0 = some 78 := fun d => q_gR rfl rfl
theorem z77_2 : ∀ d : Mem, gI (mkH d) 77 3 1 = some (J (d 77 1)) := fun d => q_gI rfl rfl
theorem z77_3 : ∀ (d : Mem) (v : Int), pF (mkH d) 77 3 1 (.int (J v)) = some (mkH (up d 77 1 v)) := fun d v => q_pI rfl rfl
theorem z77_4 : ∀ d : Mem, gR (mkH d) 77 3 2 = some 79 := fun d => q_gR rfl rfl
theorem z77_5 : ∀ d : Mem, gR (mkH d) 77 3 3 = some 80 := fun d => q_gR rfl rfl
theorem z77_6 : ∀ d : Mem, gR (mkH d) 77 3 4 = some 81 := fun d => q_gR rfl rfl
theorem z77_7 : ∀ d : Mem, gI (mkH d) 77 3 5 = some (J (d 77 5)) := fun d => q_gI rfl rfl
theorem z77_8 : ∀ (d : Mem) (v : Int), pF (mkH d) 77 3 5 (.int (J v)) = some (mkH (up d 77 5 v)) := fun d v => q_pI rfl rfl
theorem z59_0 : ∀ d : Mem, isO (mkH d) 59 2 = some () := fun d => q_isO rfl
theorem z59_1 : ∀ d : Mem, gR (mkH d) 59 2 0 = some 60 := fun d => q_gR rfl rfl
theorem z59_2 : ∀ d : Mem, gR (mkH d) 59 2 1 = some 61 := fun d => q_gR rfl rfl
theorem z59_3 : ∀ d : Mem, gI (mkH d) 59 2 2 = some (J (d 59 2)) := fun d => q_gI rfl rfl
theorem z59_4 : ∀ (d : Mem) (v : Int), pF (mkH d) 59 2 2 (.int (J v)) = some (mkH (up d 59 2 v)) := fun d v => q_pI rfl rfl
theorem z106_0 : ∀ d : Mem, isO (mkH d) 106 2 = some () := fun d => q_isO rfl
theorem z106_1 : ∀ d : Mem, gR (mkH d) 106 2 0 = some 107 := fun d => q_gR rfl rfl
theorem z106_2 : ∀ d : Mem, gR (mkH d) 106 2 1 = some 108 := fun d => q_gR rfl rfl
theorem z106_3 : ∀ d : Mem, gI (mkH d) 106 2 2 = some (J (d 106 2)) := fun d => q_gI rfl rfl
theorem z106_4 : ∀ (d : Mem) (v : Int), pF (mkH d) 106 2 2 (.int (J v)) = some (mkH (up d 106 2 v)) := fun d v => q_pI rfl rfl
theorem z62_0 : ∀ d : Mem, isO (mkH d) 62 5 = some () := fun d => q_isO rfl
theorem z62_1 : ∀ d : Mem, gR (mkH d) 62 5 0 = some 63 := fun d => q_gR rfl rfl
theorem z62_2 : ∀ d : Mem, gR (mkH d) 62 5 1 = some 76 := fun d => q_gR rfl rfl
theorem z62_3 : ∀ d : Mem, gI (mkH d) 62 5 2 = some (J (d 62 2)) := fun d => q_gI rfl rfl
theorem z62_4 : ∀ (d : Mem) (v : Int), pF (mkH d) 62 5 2 (.int (J v)) = some (mkH (up d 62 2 v)) := fun d v => q_pI rfl rfl
theorem z109_0 : ∀ d : Mem, isO (mkH d) 109 5 = some () := fun d => q_isO rfl
theorem z109_1 : ∀ d : Mem, gR (mkH d) 109 5 0 = some 110 := fun d => q_gR rfl rfl
theorem z109_2 : ∀ d : Mem, gR (mkH d) 109 5 1 = some 123 := fun d => q_gR rfl rfl
theorem z109_3 : ∀ d : Mem, gI (mkH d) 109 5 2 = some (J (d 109 2)) := fun d => q_gI rfl rfl
theorem z109_4 : ∀ (d : Mem) (v : Int), pF (mkH d) 109 5 2 (.int (J v)) = some (mkH (up d 109 2 v)) := fun d v => q_pI rfl rfl
theorem z125_0 : ∀ d : Mem, isO (mkH d) 125 8 = some () := fun d => q_isO rfl
theorem z125_1 : ∀ d : Mem, gR (mkH d) 125 8 0 = some (d 125 0).toNat := fun d => q_gV rfl rfl
theorem z125_2 : ∀ (d : Mem) (r : Nat), pF (mkH d) 125 8 0 (.ref r) = some (mkH (up d 125 0 r)) := fun d r => q_pR rfl rfl
theorem z125_3 : ∀ d : Mem, gI (mkH d) 125 8 1 = some (J (d 125 1)) := fun d => q_gI rfl rfl
theorem z125_4 : ∀ (d : Mem) (v : Int), pF (mkH d) 125 8 1 (.int (J v)) = some (mkH (up d 125 1 v)) := fun d v => q_pI rfl rfl
theorem z125_5 : ∀ d : Mem, gI (mkH d) 125 8 2 = some (J (d 125 2)) := fun d => q_gI rfl rfl
theorem z125_6 : ∀ (d : Mem) (v : Int), pF (mkH d) 125 8 2 (.int (J v)) = some (mkH (up d 125 2 v)) := fun d v => q_pI rfl rfl
theorem z125_7 : ∀ d : Mem, gI (mkH d) 125 8 3 = some (J (d 125 3)) := fun d => q_gI rfl rfl
theorem z125_8 : ∀ (d : Mem) (v : Int), pF (mkH d) 125 8 3 (.int (J v)) = some (mkH (up d 125 3 v)) := fun d v => q_pI rfl rfl
theorem z125_9 : ∀ d : Mem, gI (mkH d) 125 8 4 = some (J (d 125 4)) := fun d => q_gI rfl rfl
theorem z125_10 : ∀ (d : Mem) (v : Int), pF (mkH d) 125 8 4 (.int (J v)) = some (mkH (up d 125 4 v)) := fun d v => q_pI rfl rfl
theorem z125_11 : ∀ d : Mem, gI (mkH d) 125 8 5 = some (J (d 125 5)) := fun d => q_gI rfl rfl
theorem z125_12 : ∀ (d : Mem) (v : Int), pF (mkH d) 125 8 5 (.int (J v)) = some (mkH (up d 125 5 v)) := fun d v => q_pI rfl rfl
theorem z125_13 : ∀ d : Mem, gR (mkH d) 125 8 6 = some 127 := fun d => q_gR rfl rfl
theorem z128_0 : ∀ d : Mem, isO (mkH d) 128 6 = some () := fun d => q_isO rfl
theorem z128_1 : ∀ d : Mem, gR (mkH d) 128 6 0 = some (d 128 0).toNat := fun d => q_gV rfl rfl
theorem z128_2 : ∀ (d : Mem) (r : Nat), pF (mkH d) 128 6 0 (.ref r) = some (mkH (up d 128 0 r)) := fun d r => q_pR rfl rfl
theorem z128_3 : ∀ d : Mem, gI (mkH d) 128 6 1 = some (J (d 128 1)) := fun d => q_gI rfl rfl
theorem z128_4 : ∀ (d : Mem) (v : Int), pF (mkH d) 128 6 1 (.int (J v)) = some (mkH (up d 128 1 v)) := fun d v => q_pI rfl rfl
theorem z128_5 : ∀ d : Mem, gI (mkH d) 128 6 2 = some (J (d 128 2)) := fun d => q_gI rfl rfl
theorem z128_6 : ∀ (d : Mem) (v : Int), pF (mkH d) 128 6 2 (.int (J v)) = some (mkH (up d 128 2 v)) := fun d v => q_pI rfl rfl
theorem z128_7 : ∀ d : Mem, gI (mkH d) 128 6 3 = some (J (d 128 3)) := fun d => q_gI rfl rfl
theorem z128_8 : ∀ (d : Mem) (v : Int), pF (mkH d) 128 6 3 (.int (J v)) = some (mkH (up d 128 3 v)) := fun d v => q_pI rfl rfl
theorem z128_9 : ∀ d : Mem, gR (mkH d) 128 6 4 = some 130 := fun d => q_gR rfl rfl
theorem z131_0 : ∀ d : Mem, isO (mkH d) 131 9 = some () := fun d => q_isO rfl
theorem z131_1 : ∀ d : Mem, gR (mkH d) 131 9 0 = some 132 := fun d => q_gR rfl rfl
theorem z131_2 : ∀ d : Mem, gR (mkH d) 131 9 1 = some 133 := fun d => q_gR rfl rfl
theorem z131_3 : ∀ d : Mem, gR (mkH d) 131 9 2 = some 134 := fun d => q_gR rfl rfl
theorem z131_4 : ∀ d : Mem, gR (mkH d) 131 9 3 = some 135 := fun d => q_gR rfl rfl
theorem z131_5 : ∀ d : Mem, gL (mkH d) 131 9 4 = some (K (d 131 4)) := fun d => q_gL rfl rfl
theorem z131_6 : ∀ (d : Mem) (v : Int), pF (mkH d) 131 9 4 (.long (K v)) = some (mkH (up d 131 4 v)) := fun d v => q_pL rfl rfl
theorem z131_7 : ∀ d : Mem, gL (mkH d) 131 9 5 = some (K (d 131 5)) := fun d => q_gL rfl rfl
theorem z131_8 : ∀ (d : Mem) (v : Int), pF (mkH d) 131 9 5 (.long (K v)) = some (mkH (up d 131 5 v)) := fun d v => q_pL rfl rfl
theorem z140_0 : ∀ d : Mem, isO (mkH d) 140 4 = some () := fun d => q_isO rfl
theorem z140_1 : ∀ d : Mem, gR (mkH d) 140 4 0 = some (d 140 0).toNat := fun d => q_gV rfl rfl
theorem z140_2 : ∀ (d : Mem) (r : Nat), pF (mkH d) 140 4 0 (.ref r) = some (mkH (up d 140 0 r)) := fun d r => q_pR rfl rfl
theorem z140_3 : ∀ d : Mem, gR (mkH d) 140 4 1 = some (d 140 1).toNat := fun d => q_gV rfl rfl
theorem z140_4 : ∀ (d : Mem) (r : Nat), pF (mkH d) 140 4 1 (.ref r) = some (mkH (up d 140 1 r)) := fun d r => q_pR rfl rfl
theorem z140_5 : ∀ d : Mem, gI (mkH d) 140 4 2 = some (J (d 140 2)) := fun d => q_gI rfl rfl
theorem z140_6 : ∀ (d : Mem) (v : Int), pF (mkH d) 140 4 2 (.int (J v)) = some (mkH (up d 140 2 v)) := fun d v => q_pI rfl rfl
theorem z140_7 : ∀ d : Mem, gR (mkH d) 140 4 3 = some 145 := fun d => q_gR rfl rfl
theorem z146_0 : ∀ d : Mem, isO (mkH d) 146 1 = some () := fun d => q_isO rfl
theorem z146_1 : ∀ d : Mem, gR (mkH d) 146 1 0 = some 147 := fun d => q_gR rfl rfl
theorem z146_2 : ∀ d : Mem, gI (mkH d) 146 1 1 = some (J (d 146 1)) := fun d => q_gI rfl rfl
theorem z146_3 : ∀ (d : Mem) (v : Int), pF (mkH d) 146 1 1 (.int (J v)) = some (mkH (up d 146 1 v)) := fun d v => q_pI rfl rfl
theorem z146_4 : ∀ d : Mem, gI (mkH d) 146 1 2 = some (J (d 146 2)) := fun d => q_gI rfl rfl
theorem z146_5 : ∀ (d : Mem) (v : Int), pF (mkH d) 146 1 2 (.int (J v)) = some (mkH (up d 146 2 v)) := fun d v => q_pI rfl rfl
theorem z146_6 : ∀ d : Mem, gL (mkH d) 146 1 3 = some (K (d 146 3)) := fun d => q_gL rfl rfl
theorem z146_7 : ∀ (d : Mem) (v : Int), pF (mkH d) 146 1 3 (.long (K v)) = some (mkH (up d 146 3 v)) := fun d v => q_pL rfl rfl
theorem z146_8 : ∀ d : Mem, gI (mkH d) 146 1 4 = some (J (d 146 4)) := fun d => q_gI rfl rfl
theorem z146_9 : ∀ (d : Mem) (v : Int), pF (mkH d) 146 1 4 (.int (J v)) = some (mkH (up d 146 4 v)) := fun d v => q_pI rfl rfl
theorem z146_10 : ∀ d : Mem, gR (mkH d) 146 1 5 = some 148 := fun d => q_gR rfl rfl
theorem z146_11 : ∀ d : Mem, gR (mkH d) 146 1 6 = some 149 := fun d => q_gR rfl rfl
theorem z146_12 : ∀ d : Mem, gR (mkH d) 146 1 7 = some 150 := fun d => q_gR rfl rfl
theorem z146_13 : ∀ d : Mem, gI (mkH d) 146 1 8 = some (J (d 146 8)) := fun d => q_gI rfl rfl
theorem z146_14 : ∀ (d : Mem) (v : Int), pF (mkH d) 146 1 8 (.int (J v)) = some (mkH (up d 146 8 v)) := fun d v => q_pI rfl rfl
theorem z3_0 : ∀ (d : Mem) (i : Int), 0 ≤ i → i < 16 → aI (mkH d) 3 (J i) = some (J (d 3 i)) := fun d i h0 h1 => q_aI (len := 16) rfl (by decide) h0 h1
theorem z3_1 : ∀ (d : Mem) (i v : Int), 0 ≤ i → i < 16 → sI (mkH d) 3 (J i) (J v) = some (mkH (up d 3 i v)) := fun d i v h0 h1 => q_sI (len := 16) rfl (by decide) h0 h1
theorem z4_0 : ∀ (d : Mem) (i : Int), 0 ≤ i → i < 16 → aI (mkH d) 4 (J i) = some (J (d 4 i)) := fun d i h0 h1 => q_aI (len := 16) rfl (by decide) h0 h1
theorem z4_1 : ∀ (d : Mem) (i v : Int), 0 ≤ i → i < 16 → sI (mkH d) 4 (J i) (J v) = some (mkH (up d 4 i v)) := fun d i v h0 h1 => q_sI (len := 16) rfl (by decide) h0 h1
theorem z5_0 : ∀ (d : Mem) (i : Int), 0 ≤ i → i < 16 → aI (mkH d) 5 (J i) = some (J (d 5 i)) := fun d i h0 h1 => q_aI (len := 16) rfl (by decide) h0 h1
theorem z5_1 : ∀ (d : Mem) (i v : Int), 0 ≤ i → i < 16 → sI (mkH d) 5 (J i) (J v) = some (mkH (up d 5 i v)) := fun d i v h0 h1 => q_sI (len := 16) rfl (by decide) h0 h1
theorem z32_0 : ∀ (d : Mem) (i : Int), 0 ≤ i → i < 16 → aI (mkH d) 32 (J i) = some (J (d 32 i)) := fun d i h0 h1 => q_aI (len := 16) rfl (by decide) h0 h1
theorem z32_1 : ∀ (d : Mem) (i v : Int), 0 ≤ i → i < 16 → sI (mkH d) 32 (J i) (J v) = some (mkH (up d 32 i v)) := fun d i v h0 h1 => q_sI (len := 16) rfl (by decide) h0 h1
theorem z33_0 : ∀ (d : Mem) (i : Int), 0 ≤ i → i < 16 → aI (mkH d) 33 (J i) = some (J (d 33 i)) := fun d i h0 h1 => q_aI (len := 16) rfl (by decide) h0 h1
theorem z33_1 : ∀ (d : Mem) (i v : Int), 0 ≤ i → i < 16 → sI (mkH d) 33 (J i) (J v) = some (mkH (up d 33 i v)) := fun d i v h0 h1 => q_sI (len := 16) rfl (by decide) h0 h1
theorem z34_0 : ∀ (d : Mem) (i : Int), 0 ≤ i → i < 16 → aI (mkH d) 34 (J i) = some (J (d 34 i)) := fun d i h0 h1 => q_aI (len := 16) rfl (by decide) h0 h1
theorem z34_1 : ∀ (d : Mem) (i v : Int), 0 ≤ i → i < 16 → sI (mkH d) 34 (J i) (J v) = some (mkH (up d 34 i v)) := fun d i v h0 h1 => q_sI (len := 16) rfl (by decide) h0 h1
theorem z79_0 : ∀ (d : Mem) (i : Int), 0 ≤ i → i < 16 → aI (mkH d) 79 (J i) = some (J (d 79 i)) := fun d i h0 h1 => q_aI (len := 16) rfl (by decide) h0 h1
theorem z79_1 : ∀ (d : Mem) (i v : Int), 0 ≤ i → i < 16 → sI (mkH d) 79 (J i) (J v) = some (mkH (up d 79 i v)) := fun d i v h0 h1 => q_sI (len := 16) rfl (by decide) h0 h1
theorem z80_0 : ∀ (d : Mem) (i : Int), 0 ≤ i → i < 16 → aI (mkH d) 80 (J i) = some (J (d 80 i)) := fun d i h0 h1 => q_aI (len := 16) rfl (by decide) h0 h1
theorem z80_1 : ∀ (d : Mem) (i v : Int), 0 ≤ i → i < 16 → sI (mkH d) 80 (J i) (J v) = some (mkH (up d 80 i v)) := fun d i v h0 h1 => q_sI (len := 16) rfl (by decide) h0 h1
theorem z81_0 : ∀ (d : Mem) (i : Int), 0 ≤ i → i < 16 → aI (mkH d) 81 (J i) = some (J (d 81 i)) := fun d i h0 h1 => q_aI (len := 16) rfl (by decide) h0 h1
theorem z81_1 : ∀ (d : Mem) (i v : Int), 0 ≤ i → i < 16 → sI (mkH d) 81 (J i) (J v) = some (mkH (up d 81 i v)) := fun d i v h0 h1 => q_sI (len := 16) rfl (by decide) h0 h1
theorem z145_0 : ∀ (d : Mem) (i : Int), 0 ≤ i → i < 16 → aI (mkH d) 145 (J i) = some (J (d 145 i)) := fun d i h0 h1 => q_aI (len := 16) rfl (by decide) h0 h1
theorem z145_1 : ∀ (d : Mem) (i v : Int), 0 ≤ i → i < 16 → sI (mkH d) 145 (J i) (J v) = some (mkH (up d 145 i v)) := fun d i v h0 h1 => q_sI (len := 16) rfl (by decide) h0 h1
theorem z60_0 : ∀ (d : Mem) (i : Int), 0 ≤ i → i < 6 → aI (mkH d) 60 (J i) = some (J (d 60 i)) := fun d i h0 h1 => q_aI (len := 6) rfl (by decide) h0 h1
theorem z60_1 : ∀ (d : Mem) (i v : Int), 0 ≤ i → i < 6 → sI (mkH d) 60 (J i) (J v) = some (mkH (up d 60 i v)) := fun d i v h0 h1 => q_sI (len := 6) rfl (by decide) h0 h1
theorem z61_0 : ∀ (d : Mem) (i : Int), 0 ≤ i → i < 6 → aI (mkH d) 61 (J i) = some (J (d 61 i)) := fun d i h0 h1 => q_aI (len := 6) rfl (by decide) h0 h1
theorem z61_1 : ∀ (d : Mem) (i v : Int), 0 ≤ i → i < 6 → sI (mkH d) 61 (J i) (J v) = some (mkH (up d 61 i v)) := fun d i v h0 h1 => q_sI (len := 6) rfl (by decide) h0 h1
theorem z107_0 : ∀ (d : Mem) (i : Int), 0 ≤ i → i < 6 → aI (mkH d) 107 (J i) = some (J (d 107 i)) := fun d i h0 h1 => q_aI (len := 6) rfl (by decide) h0 h1
theorem z107_1 : ∀ (d : Mem) (i v : Int), 0 ≤ i → i < 6 → sI (mkH d) 107 (J i) (J v) = some (mkH (up d 107 i v)) := fun d i v h0 h1 => q_sI (len := 6) rfl (by decide) h0 h1
theorem z108_0 : ∀ (d : Mem) (i : Int), 0 ≤ i → i < 6 → aI (mkH d) 108 (J i) = some (J (d 108 i)) := fun d i h0 h1 => q_aI (len := 6) rfl (by decide) h0 h1
theorem z108_1 : ∀ (d : Mem) (i v : Int), 0 ≤ i → i < 6 → sI (mkH d) 108 (J i) (J v) = some (mkH (up d 108 i v)) := fun d i v h0 h1 => q_sI (len := 6) rfl (by decide) h0 h1
theorem z76_0 : ∀ (d : Mem) (i : Int), 0 ≤ i → i < 12 → aI (mkH d) 76 (J i) = some (J (d 76 i)) := fun d i h0 h1 => q_aI (len := 12) rfl (by decide) h0 h1
theorem z76_1 : ∀ (d : Mem) (i v : Int), 0 ≤ i → i < 12 → sI (mkH d) 76 (J i) (J v) = some (mkH (up d 76 i v)) := fun d i v h0 h1 => q_sI (len := 12) rfl (by decide) h0 h1
theorem z123_0 : ∀ (d : Mem) (i : Int), 0 ≤ i → i < 12 → aI (mkH d) 123 (J i) = some (J (d 123 i)) := fun d i h0 h1 => q_aI (len := 12) rfl (by decide) h0 h1
theorem z123_1 : ∀ (d : Mem) (i v : Int), 0 ≤ i → i < 12 → sI (mkH d) 123 (J i) (J v) = some (mkH (up d 123 i v)) := fun d i v h0 h1 => q_sI (len := 12) rfl (by decide) h0 h1
theorem z149_0 : ∀ (d : Mem) (i : Int), 0 ≤ i → i < 12 → aI (mkH d) 149 (J i) = some (J (d 149 i)) := fun d i h0 h1 => q_aI (len := 12) rfl (by decide) h0 h1
theorem z149_1 : ∀ (d : Mem) (i v : Int), 0 ≤ i → i < 12 → sI (mkH d) 149 (J i) (J v) = some (mkH (up d 149 i v)) := fun d i v h0 h1 => q_sI (len := 12) rfl (by decide) h0 h1
theorem z150_0 : ∀ (d : Mem) (i : Int), 0 ≤ i → i < 12 → aI (mkH d) 150 (J i) = some (J (d 150 i)) := fun d i h0 h1 => q_aI (len := 12) rfl (by decide) h0 h1
theorem z150_1 : ∀ (d : Mem) (i v : Int), 0 ≤ i → i < 12 → sI (mkH d) 150 (J i) (J v) = some (mkH (up d 150 i v)) := fun d i v h0 h1 => q_sI (len := 12) rfl (by decide) h0 h1
theorem z127_0 : ∀ (d : Mem) (i : Int), 0 ≤ i → i < 3 → aI (mkH d) 127 (J i) = some (J (d 127 i)) := fun d i h0 h1 => q_aI (len := 3) rfl (by decide) h0 h1
theorem z127_1 : ∀ (d : Mem) (i v : Int), 0 ≤ i → i < 3 → sI (mkH d) 127 (J i) (J v) = some (mkH (up d 127 i v)) := fun d i v h0 h1 => q_sI (len := 3) rfl (by decide) h0 h1
theorem z130_0 : ∀ (d : Mem) (i : Int), 0 ≤ i → i < 7 → aI (mkH d) 130 (J i) = some (J (d 130 i)) := fun d i h0 h1 => q_aI (len := 7) rfl (by decide) h0 h1
theorem z130_1 : ∀ (d : Mem) (i v : Int), 0 ≤ i → i < 7 → sI (mkH d) 130 (J i) (J v) = some (mkH (up d 130 i v)) := fun d i v h0 h1 => q_sI (len := 7) rfl (by decide) h0 h1
theorem z132_0 : ∀ (d : Mem) (i : Int), 0 ≤ i → i < 8 → aI (mkH d) 132 (J i) = some (J (d 132 i)) := fun d i h0 h1 => q_aI (len := 8) rfl (by decide) h0 h1
theorem z132_1 : ∀ (d : Mem) (i v : Int), 0 ≤ i → i < 8 → sI (mkH d) 132 (J i) (J v) = some (mkH (up d 132 i v)) := fun d i v h0 h1 => q_sI (len := 8) rfl (by decide) h0 h1
theorem z133_0 : ∀ (d : Mem) (i : Int), 0 ≤ i → i < 8 → aL (mkH d) 133 (J i) = some (K (d 133 i)) := fun d i h0 h1 => q_aL (len := 8) rfl (by decide) h0 h1
theorem z133_1 : ∀ (d : Mem) (i v : Int), 0 ≤ i → i < 8 → sL (mkH d) 133 (J i) (K v) = some (mkH (up d 133 i v)) := fun d i v h0 h1 => q_sL (len := 8) rfl (by decide) h0 h1
theorem z134_0 : ∀ (d : Mem) (i : Int), 0 ≤ i → i < 8 → aL (mkH d) 134 (J i) = some (K (d 134 i)) := fun d i h0 h1 => q_aL (len := 8) rfl (by decide) h0 h1
theorem z134_1 : ∀ (d : Mem) (i v : Int), 0 ≤ i → i < 8 → sL (mkH d) 134 (J i) (K v) = some (mkH (up d 134 i v)) := fun d i v h0 h1 => q_sL (len := 8) rfl (by decide) h0 h1
theorem z135_0 : ∀ (d : Mem) (i : Int), 0 ≤ i → i < 8 → aZ (mkH d) 135 (J i) = some (J (d 135 i)) := fun d i h0 h1 => q_aZ (len := 8) rfl (by decide) h0 h1
theorem z135_1 : ∀ (d : Mem) (i : Int), 0 ≤ i → i < 8 → sZ (mkH d) 135 (J i) (J 0) = some (mkH (up d 135 i 0)) := fun d i h0 h1 => q_sZ (len := 8) rfl (by decide) h0 h1 (Or.inl rfl)
theorem z135_2 : ∀ (d : Mem) (i : Int), 0 ≤ i → i < 8 → sZ (mkH d) 135 (J i) (J 1) = some (mkH (up d 135 i 1)) := fun d i h0 h1 => q_sZ (len := 8) rfl (by decide) h0 h1 (Or.inr rfl)
theorem z148_0 : ∀ (d : Mem) (i : Int), 0 ≤ i → i < 12 → aL (mkH d) 148 (J i) = some (K (d 148 i)) := fun d i h0 h1 => q_aL (len := 12) rfl (by decide) h0 h1
theorem z148_1 : ∀ (d : Mem) (i v : Int), 0 ≤ i → i < 12 → sL (mkH d) 148 (J i) (K v) = some (mkH (up d 148 i v)) := fun d i v h0 h1 => q_sL (len := 12) rfl (by decide) h0 h1
theorem z2_0 : ∀ (d : Mem) (i : Int), 0 ≤ i → i < 12 → aR (mkH d) 2 3 (J i) = some (gA 1 i) := fun d i h0 h1 => q_aR (len := 12) (b := 6) (m := 2) rfl rfl (by decide) (by decide) h0 h1
theorem z31_0 : ∀ (d : Mem) (i : Int), 0 ≤ i → i < 12 → aR (mkH d) 31 3 (J i) = some (gA 30 i) := fun d i h0 h1 => q_aR (len := 12) (b := 35) (m := 2) rfl rfl (by decide) (by decide) h0 h1
theorem z78_0 : ∀ (d : Mem) (i : Int), 0 ≤ i → i < 12 → aR (mkH d) 78 3 (J i) = some (gA 77 i) := fun d i h0 h1 => q_aR (len := 12) (b := 82) (m := 2) rfl rfl (by decide) (by decide) h0 h1
theorem z63_0 : ∀ (d : Mem) (i : Int), 0 ≤ i → i < 12 → aR (mkH d) 63 5 (J i) = some (rA 62 i) := fun d i h0 h1 => by
    have e := q_aR (d := d) (a := 63) (t := 5) (len := 12) (b := 64) (m := 1) rfl rfl (by decide) (by decide) h0 h1
    rw [e]
    simp [rA]
theorem z110_0 : ∀ (d : Mem) (i : Int), 0 ≤ i → i < 12 → aR (mkH d) 110 5 (J i) = some (rA 109 i) := fun d i h0 h1 => by
    have e := q_aR (d := d) (a := 110) (t := 5) (len := 12) (b := 111) (m := 1) rfl rfl (by decide) (by decide) h0 h1
    rw [e]
    simp [rA]
theorem z124_0 : ∀ (d : Mem) (i : Int), 0 ≤ i → i < 8 → aR (mkH d) 124 4 (J i) = some (sA i) := fun d i h0 h1 => q_aR (len := 8) (b := 151) (m := 4) rfl rfl (by decide) (by decide) h0 h1
theorem z147_0 : ∀ (d : Mem) (i : Int), 0 ≤ i → i < 12 → 0 ≤ d 147 i → aR (mkH d) 147 3 (J i) = some (d 147 i).toNat := fun d i h0 h1 hv => q_aV (len := 12) rfl rfl (by decide) (by decide) h0 h1 hv
theorem z183_0 : ∀ d : Mem, isO (mkH d) 183 11 = some () := fun d => q_isO rfl
theorem z183_1 : ∀ d : Mem, gR (mkH d) 183 11 0 = some 184 := fun d => q_gR rfl rfl
theorem z183_2 : ∀ d : Mem, gR (mkH d) 183 11 1 = some 185 := fun d => q_gR rfl rfl
theorem z183_3 : ∀ d : Mem, gR (mkH d) 183 11 2 = some 186 := fun d => q_gR rfl rfl
theorem z183_4 : ∀ d : Mem, gR (mkH d) 183 11 3 = some 187 := fun d => q_gR rfl rfl
theorem z183_5 : ∀ d : Mem, gR (mkH d) 183 11 4 = some 188 := fun d => q_gR rfl rfl
theorem z183_6 : ∀ d : Mem, gR (mkH d) 183 11 5 = some 189 := fun d => q_gR rfl rfl
theorem z183_7 : ∀ d : Mem, gR (mkH d) 183 11 6 = some 190 := fun d => q_gR rfl rfl
theorem z183_8 : ∀ d : Mem, gR (mkH d) 183 11 7 = some 191 := fun d => q_gR rfl rfl
theorem z183_9 : ∀ d : Mem, gR (mkH d) 183 11 8 = some 192 := fun d => q_gR rfl rfl
theorem z183_10 : ∀ d : Mem, gR (mkH d) 183 11 9 = some 193 := fun d => q_gR rfl rfl
theorem z183_11 : ∀ d : Mem, gI (mkH d) 183 11 10 = some (J (d 183 10)) := fun d => q_gI rfl rfl
theorem z183_12 : ∀ (d : Mem) (v : Int), pF (mkH d) 183 11 10 (.int (J v)) = some (mkH (up d 183 10 v)) := fun d v => q_pI rfl rfl
theorem z183_13 : ∀ d : Mem, gI (mkH d) 183 11 11 = some (J (d 183 11)) := fun d => q_gI rfl rfl
theorem z183_14 : ∀ (d : Mem) (v : Int), pF (mkH d) 183 11 11 (.int (J v)) = some (mkH (up d 183 11 v)) := fun d v => q_pI rfl rfl
theorem z183_15 : ∀ d : Mem, gI (mkH d) 183 11 12 = some (J (d 183 12)) := fun d => q_gI rfl rfl
theorem z183_16 : ∀ (d : Mem) (v : Int), pF (mkH d) 183 11 12 (.int (J v)) = some (mkH (up d 183 12 v)) := fun d v => q_pI rfl rfl
theorem z183_17 : ∀ d : Mem, gI (mkH d) 183 11 13 = some (J (d 183 13)) := fun d => q_gI rfl rfl
theorem z183_18 : ∀ (d : Mem) (v : Int), pF (mkH d) 183 11 13 (.int (J v)) = some (mkH (up d 183 13 v)) := fun d v => q_pI rfl rfl
theorem z183_19 : ∀ d : Mem, gI (mkH d) 183 11 14 = some (J (d 183 14)) := fun d => q_gI rfl rfl
theorem z183_20 : ∀ (d : Mem) (v : Int), pF (mkH d) 183 11 14 (.int (J v)) = some (mkH (up d 183 14 v)) := fun d v => q_pI rfl rfl
theorem z183_21 : ∀ d : Mem, gI (mkH d) 183 11 15 = some (J (d 183 15)) := fun d => q_gI rfl rfl
theorem z183_22 : ∀ (d : Mem) (v : Int), pF (mkH d) 183 11 15 (.int (J v)) = some (mkH (up d 183 15 v)) := fun d v => q_pI rfl rfl
theorem z183_23 : ∀ d : Mem, gR (mkH d) 183 11 16 = some (d 183 16).toNat := fun d => q_gV rfl rfl
theorem z183_24 : ∀ (d : Mem) (r : Nat), pF (mkH d) 183 11 16 (.ref r) = some (mkH (up d 183 16 r)) := fun d r => q_pR rfl rfl
theorem z183_25 : ∀ d : Mem, gR (mkH d) 183 11 17 = some 194 := fun d => q_gR rfl rfl
theorem z183_26 : ∀ d : Mem, gR (mkH d) 183 11 18 = some 195 := fun d => q_gR rfl rfl
theorem z183_27 : ∀ d : Mem, gR (mkH d) 183 11 19 = some 196 := fun d => q_gR rfl rfl
theorem z183_28 : ∀ d : Mem, gR (mkH d) 183 11 20 = some 197 := fun d => q_gR rfl rfl
theorem z183_29 : ∀ d : Mem, gR (mkH d) 183 11 21 = some 198 := fun d => q_gR rfl rfl
theorem z183_30 : ∀ d : Mem, gL (mkH d) 183 11 22 = some (K (d 183 22)) := fun d => q_gL rfl rfl
theorem z183_31 : ∀ (d : Mem) (v : Int), pF (mkH d) 183 11 22 (.long (K v)) = some (mkH (up d 183 22 v)) := fun d v => q_pL rfl rfl
theorem z183_32 : ∀ d : Mem, gL (mkH d) 183 11 23 = some (K (d 183 23)) := fun d => q_gL rfl rfl
theorem z183_33 : ∀ (d : Mem) (v : Int), pF (mkH d) 183 11 23 (.long (K v)) = some (mkH (up d 183 23 v)) := fun d v => q_pL rfl rfl
theorem z183_34 : ∀ d : Mem, gR (mkH d) 183 11 24 = some 199 := fun d => q_gR rfl rfl
theorem z183_35 : ∀ d : Mem, gI (mkH d) 183 11 25 = some (J (d 183 25)) := fun d => q_gI rfl rfl
theorem z183_36 : ∀ (d : Mem) (v : Int), pF (mkH d) 183 11 25 (.int (J v)) = some (mkH (up d 183 25 v)) := fun d v => q_pI rfl rfl
theorem z183_37 : ∀ d : Mem, gI (mkH d) 183 11 26 = some (J (d 183 26)) := fun d => q_gI rfl rfl
theorem z183_38 : ∀ (d : Mem) (v : Int), pF (mkH d) 183 11 26 (.int (J v)) = some (mkH (up d 183 26 v)) := fun d v => q_pI rfl rfl
theorem z183_39 : ∀ d : Mem, gI (mkH d) 183 11 27 = some (J (d 183 27)) := fun d => q_gI rfl rfl
theorem z183_40 : ∀ (d : Mem) (v : Int), pF (mkH d) 183 11 27 (.int (J v)) = some (mkH (up d 183 27 v)) := fun d v => q_pI rfl rfl
theorem z183_41 : ∀ d : Mem, gR (mkH d) 183 11 28 = some 200 := fun d => q_gR rfl rfl
theorem z183_42 : ∀ d : Mem, gR (mkH d) 183 11 29 = some 201 := fun d => q_gR rfl rfl
theorem z184_0 : ∀ (d : Mem) (i : Int), 0 ≤ i → i < 16 → aI (mkH d) 184 (J i) = some (J (d 184 i)) := fun d i h0 h1 => q_aI (len := 16) rfl (by decide) h0 h1
theorem z184_1 : ∀ (d : Mem) (i v : Int), 0 ≤ i → i < 16 → sI (mkH d) 184 (J i) (J v) = some (mkH (up d 184 i v)) := fun d i v h0 h1 => q_sI (len := 16) rfl (by decide) h0 h1
theorem z185_0 : ∀ (d : Mem) (i : Int), 0 ≤ i → i < 1744 → aI (mkH d) 185 (J i) = some (J (d 185 i)) := fun d i h0 h1 => q_aI (len := 1744) rfl (by decide) h0 h1
theorem z185_1 : ∀ (d : Mem) (i v : Int), 0 ≤ i → i < 1744 → sI (mkH d) 185 (J i) (J v) = some (mkH (up d 185 i v)) := fun d i v h0 h1 => q_sI (len := 1744) rfl (by decide) h0 h1
theorem z186_0 : ∀ (d : Mem) (i : Int), 0 ≤ i → i < 1744 → aI (mkH d) 186 (J i) = some (J (d 186 i)) := fun d i h0 h1 => q_aI (len := 1744) rfl (by decide) h0 h1
theorem z186_1 : ∀ (d : Mem) (i v : Int), 0 ≤ i → i < 1744 → sI (mkH d) 186 (J i) (J v) = some (mkH (up d 186 i v)) := fun d i v h0 h1 => q_sI (len := 1744) rfl (by decide) h0 h1
theorem z187_0 : ∀ (d : Mem) (i : Int), 0 ≤ i → i < 1744 → aI (mkH d) 187 (J i) = some (J (d 187 i)) := fun d i h0 h1 => q_aI (len := 1744) rfl (by decide) h0 h1
theorem z187_1 : ∀ (d : Mem) (i v : Int), 0 ≤ i → i < 1744 → sI (mkH d) 187 (J i) (J v) = some (mkH (up d 187 i v)) := fun d i v h0 h1 => q_sI (len := 1744) rfl (by decide) h0 h1
theorem z191_0 : ∀ (d : Mem) (i : Int), 0 ≤ i → i < 960 → aI (mkH d) 191 (J i) = some (J (d 191 i)) := fun d i h0 h1 => q_aI (len := 960) rfl (by decide) h0 h1
theorem z191_1 : ∀ (d : Mem) (i v : Int), 0 ≤ i → i < 960 → sI (mkH d) 191 (J i) (J v) = some (mkH (up d 191 i v)) := fun d i v h0 h1 => q_sI (len := 960) rfl (by decide) h0 h1
theorem z194_0 : ∀ (d : Mem) (i : Int), 0 ≤ i → i < 3 → aI (mkH d) 194 (J i) = some (J (d 194 i)) := fun d i h0 h1 => q_aI (len := 3) rfl (by decide) h0 h1
theorem z194_1 : ∀ (d : Mem) (i v : Int), 0 ≤ i → i < 3 → sI (mkH d) 194 (J i) (J v) = some (mkH (up d 194 i v)) := fun d i v h0 h1 => q_sI (len := 3) rfl (by decide) h0 h1
theorem z195_0 : ∀ (d : Mem) (i : Int), 0 ≤ i → i < 8 → aI (mkH d) 195 (J i) = some (J (d 195 i)) := fun d i h0 h1 => q_aI (len := 8) rfl (by decide) h0 h1
theorem z195_1 : ∀ (d : Mem) (i v : Int), 0 ≤ i → i < 8 → sI (mkH d) 195 (J i) (J v) = some (mkH (up d 195 i v)) := fun d i v h0 h1 => q_sI (len := 8) rfl (by decide) h0 h1
theorem z196_0 : ∀ (d : Mem) (i : Int), 0 ≤ i → i < 8 → aL (mkH d) 196 (J i) = some (K (d 196 i)) := fun d i h0 h1 => q_aL (len := 8) rfl (by decide) h0 h1
theorem z196_1 : ∀ (d : Mem) (i v : Int), 0 ≤ i → i < 8 → sL (mkH d) 196 (J i) (K v) = some (mkH (up d 196 i v)) := fun d i v h0 h1 => q_sL (len := 8) rfl (by decide) h0 h1
theorem z197_0 : ∀ (d : Mem) (i : Int), 0 ≤ i → i < 8 → aL (mkH d) 197 (J i) = some (K (d 197 i)) := fun d i h0 h1 => q_aL (len := 8) rfl (by decide) h0 h1
theorem z197_1 : ∀ (d : Mem) (i v : Int), 0 ≤ i → i < 8 → sL (mkH d) 197 (J i) (K v) = some (mkH (up d 197 i v)) := fun d i v h0 h1 => q_sL (len := 8) rfl (by decide) h0 h1
theorem z198_0 : ∀ (d : Mem) (i : Int), 0 ≤ i → i < 8 → aZ (mkH d) 198 (J i) = some (J (d 198 i)) := fun d i h0 h1 => q_aZ (len := 8) rfl (by decide) h0 h1
theorem z198_1 : ∀ (d : Mem) (i : Int), 0 ≤ i → i < 8 → sZ (mkH d) 198 (J i) (J 0) = some (mkH (up d 198 i 0)) := fun d i h0 h1 => q_sZ (len := 8) rfl (by decide) h0 h1 (Or.inl rfl)
theorem z198_2 : ∀ (d : Mem) (i : Int), 0 ≤ i → i < 8 → sZ (mkH d) 198 (J i) (J 1) = some (mkH (up d 198 i 1)) := fun d i h0 h1 => q_sZ (len := 8) rfl (by decide) h0 h1 (Or.inr rfl)
theorem z199_0 : ∀ (d : Mem) (i : Int), 0 ≤ i → i < 16 → aI (mkH d) 199 (J i) = some (J (d 199 i)) := fun d i h0 h1 => q_aI (len := 16) rfl (by decide) h0 h1
theorem z199_1 : ∀ (d : Mem) (i v : Int), 0 ≤ i → i < 16 → sI (mkH d) 199 (J i) (J v) = some (mkH (up d 199 i v)) := fun d i v h0 h1 => q_sI (len := 16) rfl (by decide) h0 h1
theorem z200_0 : ∀ (d : Mem) (i : Int), 0 ≤ i → i < 1200 → aL (mkH d) 200 (J i) = some (K (d 200 i)) := fun d i h0 h1 => q_aL (len := 1200) rfl (by decide) h0 h1
theorem z200_1 : ∀ (d : Mem) (i v : Int), 0 ≤ i → i < 1200 → sL (mkH d) 200 (J i) (K v) = some (mkH (up d 200 i v)) := fun d i v h0 h1 => q_sL (len := 1200) rfl (by decide) h0 h1
theorem z201_0 : ∀ (d : Mem) (i : Int), 0 ≤ i → i < 1200 → aI (mkH d) 201 (J i) = some (J (d 201 i)) := fun d i h0 h1 => q_aI (len := 1200) rfl (by decide) h0 h1
theorem z201_1 : ∀ (d : Mem) (i v : Int), 0 ≤ i → i < 1200 → sI (mkH d) 201 (J i) (J v) = some (mkH (up d 201 i v)) := fun d i v h0 h1 => q_sI (len := 1200) rfl (by decide) h0 h1
theorem z202_0 : ∀ (d : Mem) (i : Int), 0 ≤ i → i < 1 → aL (mkH d) 202 (J i) = some (K (d 202 i)) := fun d i h0 h1 => q_aL (len := 1) rfl (by decide) h0 h1
theorem z202_1 : ∀ (d : Mem) (i v : Int), 0 ≤ i → i < 1 → sL (mkH d) 202 (J i) (K v) = some (mkH (up d 202 i v)) := fun d i v h0 h1 => q_sL (len := 1) rfl (by decide) h0 h1
theorem z188_0 : ∀ (d : Mem) (i : Int), 0 ≤ i → i < 8 → aI (mkH d) 188 (J i) = some (J (d 188 i)) := fun d i h0 h1 => q_aI (len := 8) rfl (by decide) h0 h1
theorem z188_1 : ∀ (d : Mem) (i v : Int), 0 ≤ i → i < 8 → sI (mkH d) 188 (J i) (J v) = some (mkH (up d 188 i v)) := fun d i v h0 h1 => q_sI (len := 8) rfl (by decide) h0 h1
theorem z189_0 : ∀ (d : Mem) (i : Int), 0 ≤ i → i < 8 → aI (mkH d) 189 (J i) = some (J (d 189 i)) := fun d i h0 h1 => q_aI (len := 8) rfl (by decide) h0 h1
theorem z189_1 : ∀ (d : Mem) (i v : Int), 0 ≤ i → i < 8 → sI (mkH d) 189 (J i) (J v) = some (mkH (up d 189 i v)) := fun d i v h0 h1 => q_sI (len := 8) rfl (by decide) h0 h1
theorem z190_0 : ∀ (d : Mem) (i : Int), 0 ≤ i → i < 8 → aI (mkH d) 190 (J i) = some (J (d 190 i)) := fun d i h0 h1 => q_aI (len := 8) rfl (by decide) h0 h1
theorem z190_1 : ∀ (d : Mem) (i v : Int), 0 ≤ i → i < 8 → sI (mkH d) 190 (J i) (J v) = some (mkH (up d 190 i v)) := fun d i v h0 h1 => q_sI (len := 8) rfl (by decide) h0 h1
theorem z192_0 : ∀ (d : Mem) (i : Int), 0 ≤ i → i < 8 → aI (mkH d) 192 (J i) = some (J (d 192 i)) := fun d i h0 h1 => q_aI (len := 8) rfl (by decide) h0 h1
theorem z192_1 : ∀ (d : Mem) (i v : Int), 0 ≤ i → i < 8 → sI (mkH d) 192 (J i) (J v) = some (mkH (up d 192 i v)) := fun d i v h0 h1 => q_sI (len := 8) rfl (by decide) h0 h1
theorem z193_0 : ∀ (d : Mem) (i : Int), 0 ≤ i → i < 8 → aI (mkH d) 193 (J i) = some (J (d 193 i)) := fun d i h0 h1 => q_aI (len := 8) rfl (by decide) h0 h1
theorem z193_1 : ∀ (d : Mem) (i v : Int), 0 ≤ i → i < 8 → sI (mkH d) 193 (J i) (J v) = some (mkH (up d 193 i v)) := fun d i v h0 h1 => q_sI (len := 8) rfl (by decide) h0 h1
