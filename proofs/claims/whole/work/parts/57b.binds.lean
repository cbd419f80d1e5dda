/-! the rules for a bind (printed by wip/whole/pure/mk_bind.py) -/
theorem bind_of {α β : Type} {o : Option α} {a : α} (h : o = some a) (f : α → Option β) : o.bind f = f a := by
  rw [h]
  exact bindS a f
theorem z0_0b {β : Type} (f : Unit → Option β) : ∀ (d : Mem), (isO (mkH d) 0 10).bind f = f () := fun d  => bind_of (z0_0 d ) f
theorem z0_1b {β : Type} (f : Nat → Option β) : ∀ (d : Mem), (gR (mkH d) 0 10 0).bind f = f 1 := fun d  => bind_of (z0_1 d ) f
theorem z0_2b {β : Type} (f : Nat → Option β) : ∀ (d : Mem), (gR (mkH d) 0 10 1).bind f = f 30 := fun d  => bind_of (z0_2 d ) f
theorem z0_3b {β : Type} (f : Nat → Option β) : ∀ (d : Mem), (gR (mkH d) 0 10 2).bind f = f 59 := fun d  => bind_of (z0_3 d ) f
theorem z0_4b {β : Type} (f : Nat → Option β) : ∀ (d : Mem), (gR (mkH d) 0 10 3).bind f = f 62 := fun d  => bind_of (z0_4 d ) f
theorem z0_5b {β : Type} (f : Nat → Option β) : ∀ (d : Mem), (gR (mkH d) 0 10 4).bind f = f 77 := fun d  => bind_of (z0_5 d ) f
theorem z0_6b {β : Type} (f : Nat → Option β) : ∀ (d : Mem), (gR (mkH d) 0 10 5).bind f = f 106 := fun d  => bind_of (z0_6 d ) f
theorem z0_7b {β : Type} (f : Nat → Option β) : ∀ (d : Mem), (gR (mkH d) 0 10 6).bind f = f 109 := fun d  => bind_of (z0_7 d ) f
theorem z0_8b {β : Type} (f : Int32 → Option β) : ∀ (d : Mem), (gI (mkH d) 0 10 7).bind f = f (J (d 0 7)) := fun d  => bind_of (z0_8 d ) f
theorem z0_9b {β : Type} (f : Hp → Option β) : ∀ (d : Mem) (v : Int), (pF (mkH d) 0 10 7 (.int (J v))).bind f = f (mkH (up d 0 7 v)) := fun d v  => bind_of (z0_9 d v ) f
theorem z0_10b {β : Type} (f : Nat → Option β) : ∀ (d : Mem), (gR (mkH d) 0 10 8).bind f = f 124 := fun d  => bind_of (z0_10 d ) f
theorem z0_11b {β : Type} (f : Nat → Option β) : ∀ (d : Mem), (gR (mkH d) 0 10 9).bind f = f 125 := fun d  => bind_of (z0_11 d ) f
theorem z0_12b {β : Type} (f : Nat → Option β) : ∀ (d : Mem), (gR (mkH d) 0 10 10).bind f = f 128 := fun d  => bind_of (z0_12 d ) f
theorem z0_13b {β : Type} (f : Nat → Option β) : ∀ (d : Mem), (gR (mkH d) 0 10 11).bind f = f 131 := fun d  => bind_of (z0_13 d ) f
theorem z0_14b {β : Type} (f : Nat → Option β) : ∀ (d : Mem), (gR (mkH d) 0 10 12).bind f = f 136 := fun d  => bind_of (z0_14 d ) f
theorem z0_15b {β : Type} (f : Nat → Option β) : ∀ (d : Mem), (gR (mkH d) 0 10 13).bind f = f 138 := fun d  => bind_of (z0_15 d ) f
theorem z0_16b {β : Type} (f : Nat → Option β) : ∀ (d : Mem), (gR (mkH d) 0 10 14).bind f = f 140 := fun d  => bind_of (z0_16 d ) f
theorem z0_17b {β : Type} (f : Nat → Option β) : ∀ (d : Mem), (gR (mkH d) 0 10 15).bind f = f 146 := fun d  => bind_of (z0_17 d ) f
theorem z1_0b {β : Type} (f : Unit → Option β) : ∀ (d : Mem), (isO (mkH d) 1 3).bind f = f () := fun d  => bind_of (z1_0 d ) f
theorem z1_1b {β : Type} (f : Nat → Option β) : ∀ (d : Mem), (gR (mkH d) 1 3 0).bind f = f 2 := fun d  => bind_of (z1_1 d ) f
theorem z1_2b {β : Type} (f : Int32 → Option β) : ∀ (d : Mem), (gI (mkH d) 1 3 1).bind f = f (J (d 1 1)) := fun d  => bind_of (z1_2 d ) f
theorem z1_3b {β : Type} (f : Hp → Option β) : ∀ (d : Mem) (v : Int), (pF (mkH d) 1 3 1 (.int (J v))).bind f = f (mkH (up d 1 1 v)) := fun d v  => bind_of (z1_3 d v ) f
theorem z1_4b {β : Type} (f : Nat → Option β) : ∀ (d : Mem), (gR (mkH d) 1 3 2).bind f = f 3 := fun d  => bind_of (z1_4 d ) f
theorem z1_5b {β : Type} (f : Nat → Option β) : ∀ (d : Mem), (gR (mkH d) 1 3 3).bind f = f 4 := fun d  => bind_of (z1_5 d ) f
theorem z1_6b {β : Type} (f : Nat → Option β) : ∀ (d : Mem), (gR (mkH d) 1 3 4).bind f = f 5 := fun d  => bind_of (z1_6 d ) f
theorem z1_7b {β : Type} (f : Int32 → Option β) : ∀ (d : Mem), (gI (mkH d) 1 3 5).bind f = f (J (d 1 5)) := fun d  => bind_of (z1_7 d ) f
theorem z1_8b {β : Type} (f : Hp → Option β) : ∀ (d : Mem) (v : Int), (pF (mkH d) 1 3 5 (.int (J v))).bind f = f (mkH (up d 1 5 v)) := fun d v  => bind_of (z1_8 d v ) f
theorem z30_0b {β : Type} (f : Unit → Option β) : ∀ (d : Mem), (isO (mkH d) 30 3).bind f = f () := fun d  => bind_of (z30_0 d ) f
theorem z30_1b {β : Type} (f : Nat → Option β) : ∀ (d : Mem), (gR (mkH d) 30 3 0).bind f = f 31 := fun d  => bind_of (z30_1 d ) f
theorem z30_2b {β : Type} (f : Int32 → Option β) : ∀ (d : Mem), (gI (mkH d) 30 3 1).bind f = f (J (d 30 1)) := fun d  => bind_of (z30_2 d ) f
theorem z30_3b {β : Type} (f : Hp → Option β) : ∀ (d : Mem) (v : Int), (pF (mkH d) 30 3 1 (.int (J v))).bind f = f (mkH (up d 30 1 v)) := fun d v  => bind_of (z30_3 d v ) f
theorem z30_4b {β : Type} (f : Nat → Option β) : ∀ (d : Mem), (gR (mkH d) 30 3 2).bind f = f 32 := fun d  => bind_of (z30_4 d ) f
theorem z30_5b {β : Type} (f : Nat → Option β) : ∀ (d : Mem), (gR (mkH d) 30 3 3).bind f = f 33 := fun d  => bind_of (z30_5 d ) f
theorem z30_6b {β : Type} (f : Nat → Option β) : ∀ (d : Mem), (gR (mkH d) 30 3 4).bind f = f 34 := fun d  => bind_of (z30_6 d ) f
theorem z30_7b {β : Type} (f : Int32 → Option β) : ∀ (d : Mem), (gI (mkH d) 30 3 5).bind f = f (J (d 30 5)) := fun d  => bind_of (z30_7 d ) f
theorem z30_8b {β : Type} (f : Hp → Option β) : ∀ (d : Mem) (v : Int), (pF (mkH d) 30 3 5 (.int (J v))).bind f = f (mkH (up d 30 5 v)) := fun d v  => bind_of (z30_8 d v ) f
theorem z77_0b {β : Type} (f : Unit → Option β) : ∀ (d : Mem), (isO (mkH d) 77 3).bind f = f () := fun d  => bind_of (z77_0 d ) f
theorem z77_1b {β : Type} (f : Nat → Option β) : ∀ (d : Mem), (gR (mkH d) 77 3 0).bind f = f 78 := fun d  => bind_of (z77_1 d ) f
theorem z77_2b {β : Type} (f : Int32 → Option β) : ∀ (d : Mem), (gI (mkH d) 77 3 1).bind f = f (J (d 77 1)) := fun d  => bind_of (z77_2 d ) f
theorem z77_3b {β : Type} (f : Hp → Option β) : ∀ (d : Mem) (v : Int), (pF (mkH d) 77 3 1 (.int (J v))).bind f = f (mkH (up d 77 1 v)) := fun d v  => bind_of (z77_3 d v ) f
theorem z77_4b {β : Type} (f : Nat → Option β) : ∀ (d : Mem), (gR (mkH d) 77 3 2).bind f = f 79 := fun d  => bind_of (z77_4 d ) f
theorem z77_5b {β : Type} (f : Nat → Option β) : ∀ (d : Mem), (gR (mkH d) 77 3 3).bind f = f 80 := fun d  => bind_of (z77_5 d ) f
theorem z77_6b {β : Type} (f : Nat → Option β) : ∀ (d : Mem), (gR (mkH d) 77 3 4).bind f = f 81 := fun d  => bind_of (z77_6 d ) f
theorem z77_7b {β : Type} (f : Int32 → Option β) : ∀ (d : Mem), (gI (mkH d) 77 3 5).bind f = f (J (d 77 5)) := fun d  => bind_of (z77_7 d ) f
theorem z77_8b {β : Type} (f : Hp → Option β) : ∀ (d : Mem) (v : Int), (pF (mkH d) 77 3 5 (.int (J v))).bind f = f (mkH (up d 77 5 v)) := fun d v  => bind_of (z77_8 d v ) f
theorem z59_0b {β : Type} (f : Unit → Option β) : ∀ (d : Mem), (isO (mkH d) 59 2).bind f = f () := fun d  => bind_of (z59_0 d ) f
theorem z59_1b {β : Type} (f : Nat → Option β) : ∀ (d : Mem), (gR (mkH d) 59 2 0).bind f = f 60 := fun d  => bind_of (z59_1 d ) f
theorem z59_2b {β : Type} (f : Nat → Option β) : ∀ (d : Mem), (gR (mkH d) 59 2 1).bind f = f 61 := fun d  => bind_of (z59_2 d ) f
theorem z59_3b {β : Type} (f : Int32 → Option β) : ∀ (d : Mem), (gI (mkH d) 59 2 2).bind f = f (J (d 59 2)) := fun d  => bind_of (z59_3 d ) f
theorem z59_4b {β : Type} (f : Hp → Option β) : ∀ (d : Mem) (v : Int), (pF (mkH d) 59 2 2 (.int (J v))).bind f = f (mkH (up d 59 2 v)) := fun d v  => bind_of (z59_4 d v ) f
theorem z106_0b {β : Type} (f : Unit → Option β) : ∀ (d : Mem), (isO (mkH d) 106 2).bind f = f () := fun d  => bind_of (z106_0 d ) f
theorem z106_1b {β : Type} (f : Nat → Option β) : ∀ (d : Mem), (gR (mkH d) 106 2 0).bind f = f 107 := fun d  => bind_of (z106_1 d ) f
theorem z106_2b {β : Type} (f : Nat → Option β) : ∀ (d : Mem), (gR (mkH d) 106 2 1).bind f = f 108 := fun d  => bind_of (z106_2 d ) f
theorem z106_3b {β : Type} (f : Int32 → Option β) : ∀ (d : Mem), (gI (mkH d) 106 2 2).bind f = f (J (d 106 2)) := fun d  => bind_of (z106_3 d ) f
theorem z106_4b {β : Type} (f : Hp → Option β) : ∀ (d : Mem) (v : Int), (pF (mkH d) 106 2 2 (.int (J v))).bind f = f (mkH (up d 106 2 v)) := fun d v  => bind_of (z106_4 d v ) f
theorem z62_0b {β : Type} (f : Unit → Option β) : ∀ (d : Mem), (isO (mkH d) 62 5).bind f = f () := fun d  => bind_of (z62_0 d ) f
theorem z62_1b {β : Type} (f : Nat → Option β) : ∀ (d : Mem), (gR (mkH d) 62 5 0).bind f = f 63 := fun d  => bind_of (z62_1 d ) f
theorem z62_2b {β : Type} (f : Nat → Option β) : ∀ (d : Mem), (gR (mkH d) 62 5 1).bind f = f 76 := fun d  => bind_of (z62_2 d ) f
theorem z62_3b {β : Type} (f : Int32 → Option β) : ∀ (d : Mem), (gI (mkH d) 62 5 2).bind f = f (J (d 62 2)) := fun d  => bind_of (z62_3 d ) f
theorem z62_4b {β : Type} (f : Hp → Option β) : ∀ (d : Mem) (v : Int), (pF (mkH d) 62 5 2 (.int (J v))).bind f = f (mkH (up d 62 2 v)) := fun d v  => bind_of (z62_4 d v ) f
theorem z109_0b {β : Type} (f : Unit → Option β) : ∀ (d : Mem), (isO (mkH d) 109 5).bind f = f () := fun d  => bind_of (z109_0 d ) f
theorem z109_1b {β : Type} (f : Nat → Option β) : ∀ (d : Mem), (gR (mkH d) 109 5 0).bind f = f 110 := fun d  => bind_of (z109_1 d ) f
theorem z109_2b {β : Type} (f : Nat → Option β) : ∀ (d : Mem), (gR (mkH d) 109 5 1).bind f = f 123 := fun d  => bind_of (z109_2 d ) f
theorem z109_3b {β : Type} (f : Int32 → Option β) : ∀ (d : Mem), (gI (mkH d) 109 5 2).bind f = f (J (d 109 2)) := fun d  => bind_of (z109_3 d ) f
theorem z109_4b {β : Type} (f : Hp → Option β) : ∀ (d : Mem) (v : Int), (pF (mkH d) 109 5 2 (.int (J v))).bind f = f (mkH (up d 109 2 v)) := fun d v  => bind_of (z109_4 d v ) f
theorem z125_0b {β : Type} (f : Unit → Option β) : ∀ (d : Mem), (isO (mkH d) 125 8).bind f = f () := fun d  => bind_of (z125_0 d ) f
theorem z125_1b {β : Type} (f : Nat → Option β) : ∀ (d : Mem), (gR (mkH d) 125 8 0).bind f = f (d 125 0).toNat := fun d  => bind_of (z125_1 d ) f
theorem z125_2b {β : Type} (f : Hp → Option β) : ∀ (d : Mem) (r : Nat), (pF (mkH d) 125 8 0 (.ref r)).bind f = f (mkH (up d 125 0 r)) := fun d r  => bind_of (z125_2 d r ) f
theorem z125_3b {β : Type} (f : Int32 → Option β) : ∀ (d : Mem), (gI (mkH d) 125 8 1).bind f = f (J (d 125 1)) := fun d  => bind_of (z125_3 d ) f
theorem z125_4b {β : Type} (f : Hp → Option β) : ∀ (d : Mem) (v : Int), (pF (mkH d) 125 8 1 (.int (J v))).bind f = f (mkH (up d 125 1 v)) := fun d v  => bind_of (z125_4 d v ) f
theorem z125_5b {β : Type} (f : Int32 → Option β) : ∀ (d : Mem), (gI (mkH d) 125 8 2).bind f = f (J (d 125 2)) := fun d  => bind_of (z125_5 d ) f
theorem z125_6b {β : Type} (f : Hp → Option β) : ∀ (d : Mem) (v : Int), (pF (mkH d) 125 8 2 (.int (J v))).bind f = f (mkH (up d 125 2 v)) := fun d v  => bind_of (z125_6 d v ) f
theorem z125_7b {β : Type} (f : Int32 → Option β) : ∀ (d : Mem), (gI (mkH d) 125 8 3).bind f = f (J (d 125 3)) := fun d  => bind_of (z125_7 d ) f
theorem z125_8b {β : Type} (f : Hp → Option β) : ∀ (d : Mem) (v : Int), (pF (mkH d) 125 8 3 (.int (J v))).bind f = f (mkH (up d 125 3 v)) := fun d v  => bind_of (z125_8 d v ) f
theorem z125_9b {β : Type} (f : Int32 → Option β) : ∀ (d : Mem), (gI (mkH d) 125 8 4).bind f = f (J (d 125 4)) := fun d  => bind_of (z125_9 d ) f
theorem z125_10b {β : Type} (f : Hp → Option β) : ∀ (d : Mem) (v : Int), (pF (mkH d) 125 8 4 (.int (J v))).bind f = f (mkH (up d 125 4 v)) := fun d v  => bind_of (z125_10 d v ) f
theorem z125_11b {β : Type} (f : Int32 → Option β) : ∀ (d : Mem), (gI (mkH d) 125 8 5).bind f = f (J (d 125 5)) := fun d  => bind_of (z125_11 d ) f
theorem z125_12b {β : Type} (f : Hp → Option β) : ∀ (d : Mem) (v : Int), (pF (mkH d) 125 8 5 (.int (J v))).bind f = f (mkH (up d 125 5 v)) := fun d v  => bind_of (z125_12 d v ) f
theorem z125_13b {β : Type} (f : Nat → Option β) : ∀ (d : Mem), (gR (mkH d) 125 8 6).bind f = f 127 := fun d  => bind_of (z125_13 d ) f
theorem z128_0b {β : Type} (f : Unit → Option β) : ∀ (d : Mem), (isO (mkH d) 128 6).bind f = f () := fun d  => bind_of (z128_0 d ) f
theorem z128_1b {β : Type} (f : Nat → Option β) : ∀ (d : Mem), (gR (mkH d) 128 6 0).bind f = f (d 128 0).toNat := fun d  => bind_of (z128_1 d ) f
theorem z128_2b {β : Type} (f : Hp → Option β) : ∀ (d : Mem) (r : Nat), (pF (mkH d) 128 6 0 (.ref r)).bind f = f (mkH (up d 128 0 r)) := fun d r  => bind_of (z128_2 d r ) f
theorem z128_3b {β : Type} (f : Int32 → Option β) : ∀ (d : Mem), (gI (mkH d) 128 6 1).bind f = f (J (d 128 1)) := fun d  => bind_of (z128_3 d ) f
theorem z128_4b {β : Type} (f : Hp → Option β) : ∀ (d : Mem) (v : Int), (pF (mkH d) 128 6 1 (.int (J v))).bind f = f (mkH (up d 128 1 v)) := fun d v  => bind_of (z128_4 d v ) f
theorem z128_5b {β : Type} (f : Int32 → Option β) : ∀ (d : Mem), (gI (mkH d) 128 6 2).bind f = f (J (d 128 2)) := fun d  => bind_of (z128_5 d ) f
theorem z128_6b {β : Type} (f : Hp → Option β) : ∀ (d : Mem) (v : Int), (pF (mkH d) 128 6 2 (.int (J v))).bind f = f (mkH (up d 128 2 v)) := fun d v  => bind_of (z128_6 d v ) f
theorem z128_7b {β : Type} (f : Int32 → Option β) : ∀ (d : Mem), (gI (mkH d) 128 6 3).bind f = f (J (d 128 3)) := fun d  => bind_of (z128_7 d ) f
theorem z128_8b {β : Type} (f : Hp → Option β) : ∀ (d : Mem) (v : Int), (pF (mkH d) 128 6 3 (.int (J v))).bind f = f (mkH (up d 128 3 v)) := fun d v  => bind_of (z128_8 d v ) f
theorem z128_9b {β : Type} (f : Nat → Option β) : ∀ (d : Mem), (gR (mkH d) 128 6 4).bind f = f 130 := fun d  => bind_of (z128_9 d ) f
theorem z131_0b {β : Type} (f : Unit → Option β) : ∀ (d : Mem), (isO (mkH d) 131 9).bind f = f () := fun d  => bind_of (z131_0 d ) f
theorem z131_1b {β : Type} (f : Nat → Option β) : ∀ (d : Mem), (gR (mkH d) 131 9 0).bind f = f 132 := fun d  => bind_of (z131_1 d ) f
theorem z131_2b {β : Type} (f : Nat → Option β) : ∀ (d : Mem), (gR (mkH d) 131 9 1).bind f = f 133 := fun d  => bind_of (z131_2 d ) f
theorem z131_3b {β : Type} (f : Nat → Option β) : ∀ (d : Mem), (gR (mkH d) 131 9 2).bind f = f 134 := fun d  => bind_of (z131_3 d ) f
theorem z131_4b {β : Type} (f : Nat → Option β) : ∀ (d : Mem), (gR (mkH d) 131 9 3).bind f = f 135 := fun d  => bind_of (z131_4 d ) f
theorem z131_5b {β : Type} (f : Int64 → Option β) : ∀ (d : Mem), (gL (mkH d) 131 9 4).bind f = f (K (d 131 4)) := fun d  => bind_of (z131_5 d ) f
theorem z131_6b {β : Type} (f : Hp → Option β) : ∀ (d : Mem) (v : Int), (pF (mkH d) 131 9 4 (.long (K v))).bind f = f (mkH (up d 131 4 v)) := fun d v  => bind_of (z131_6 d v ) f
theorem z131_7b {β : Type} (f : Int64 → Option β) : ∀ (d : Mem), (gL (mkH d) 131 9 5).bind f = f (K (d 131 5)) := fun d  => bind_of (z131_7 d ) f
theorem z131_8b {β : Type} (f : Hp → Option β) : ∀ (d : Mem) (v : Int), (pF (mkH d) 131 9 5 (.long (K v))).bind f = f (mkH (up d 131 5 v)) := fun d v  => bind_of (z131_8 d v ) f
theorem z140_0b {β : Type} (f : Unit → Option β) : ∀ (d : Mem), (isO (mkH d) 140 4).bind f = f () := fun d  => bind_of (z140_0 d ) f
theorem z140_1b {β : Type} (f : Nat → Option β) : ∀ (d : Mem), (gR (mkH d) 140 4 0).bind f = f (d 140 0).toNat := fun d  => bind_of (z140_1 d ) f
theorem z140_2b {β : Type} (f : Hp → Option β) : ∀ (d : Mem) (r : Nat), (pF (mkH d) 140 4 0 (.ref r)).bind f = f (mkH (up d 140 0 r)) := fun d r  => bind_of (z140_2 d r ) f
theorem z140_3b {β : Type} (f : Nat → Option β) : ∀ (d : Mem), (gR (mkH d) 140 4 1).bind f = f (d 140 1).toNat := fun d  => bind_of (z140_3 d ) f
theorem z140_4b {β : Type} (f : Hp → Option β) : ∀ (d : Mem) (r : Nat), (pF (mkH d) 140 4 1 (.ref r)).bind f = f (mkH (up d 140 1 r)) := fun d r  => bind_of (z140_4 d r ) f
theorem z140_5b {β : Type} (f : Int32 → Option β) : ∀ (d : Mem), (gI (mkH d) 140 4 2).bind f = f (J (d 140 2)) := fun d  => bind_of (z140_5 d ) f
theorem z140_6b {β : Type} (f : Hp → Option β) : ∀ (d : Mem) (v : Int), (pF (mkH d) 140 4 2 (.int (J v))).bind f = f (mkH (up d 140 2 v)) := fun d v  => bind_of (z140_6 d v ) f
theorem z140_7b {β : Type} (f : Nat → Option β) : ∀ (d : Mem), (gR (mkH d) 140 4 3).bind f = f 145 := fun d  => bind_of (z140_7 d ) f
theorem z146_0b {β : Type} (f : Unit → Option β) : ∀ (d : Mem), (isO (mkH d) 146 1).bind f = f () := fun d  => bind_of (z146_0 d ) f
theorem z146_1b {β : Type} (f : Nat → Option β) : ∀ (d : Mem), (gR (mkH d) 146 1 0).bind f = f 147 := fun d  => bind_of (z146_1 d ) f
theorem z146_2b {β : Type} (f : Int32 → Option β) : ∀ (d : Mem), (gI (mkH d) 146 1 1).bind f = f (J (d 146 1)) := fun d  => bind_of (z146_2 d ) f
theorem z146_3b {β : Type} (f : Hp → Option β) : ∀ (d : Mem) (v : Int), (pF (mkH d) 146 1 1 (.int (J v))).bind f = f (mkH (up d 146 1 v)) := fun d v  => bind_of (z146_3 d v ) f
theorem z146_4b {β : Type} (f : Int32 → Option β) : ∀ (d : Mem), (gI (mkH d) 146 1 2).bind f = f (J (d 146 2)) := fun d  => bind_of (z146_4 d ) f
theorem z146_5b {β : Type} (f : Hp → Option β) : ∀ (d : Mem) (v : Int), (pF (mkH d) 146 1 2 (.int (J v))).bind f = f (mkH (up d 146 2 v)) := fun d v  => bind_of (z146_5 d v ) f
theorem z146_6b {β : Type} (f : Int64 → Option β) : ∀ (d : Mem), (gL (mkH d) 146 1 3).bind f = f (K (d 146 3)) := fun d  => bind_of (z146_6 d ) f
theorem z146_7b {β : Type} (f : Hp → Option β) : ∀ (d : Mem) (v : Int), (pF (mkH d) 146 1 3 (.long (K v))).bind f = f (mkH (up d 146 3 v)) := fun d v  => bind_of (z146_7 d v ) f
theorem z146_8b {β : Type} (f : Int32 → Option β) : ∀ (d : Mem), (gI (mkH d) 146 1 4).bind f = f (J (d 146 4)) := fun d  => bind_of (z146_8 d ) f
theorem z146_9b {β : Type} (f : Hp → Option β) : ∀ (d : Mem) (v : Int), (pF (mkH d) 146 1 4 (.int (J v))).bind f = f (mkH (up d 146 4 v)) := fun d v  => bind_of (z146_9 d v ) f
theorem z146_10b {β : Type} (f : Nat → Option β) : ∀ (d : Mem), (gR (mkH d) 146 1 5).bind f = f 148 := fun d  => bind_of (z146_10 d ) f
theorem z146_11b {β : Type} (f : Nat → Option β) : ∀ (d : Mem), (gR (mkH d) 146 1 6).bind f = f 149 := fun d  => bind_of (z146_11 d ) f
theorem z146_12b {β : Type} (f : Nat → Option β) : ∀ (d : Mem), (gR (mkH d) 146 1 7).bind f = f 150 := fun d  => bind_of (z146_12 d ) f
theorem z146_13b {β : Type} (f : Int32 → Option β) : ∀ (d : Mem), (gI (mkH d) 146 1 8).bind f = f (J (d 146 8)) := fun d  => bind_of (z146_13 d ) f
theorem z146_14b {β : Type} (f : Hp → Option β) : ∀ (d : Mem) (v : Int), (pF (mkH d) 146 1 8 (.int (J v))).bind f = f (mkH (up d 146 8 v)) := fun d v  => bind_of (z146_14 d v ) f
theorem z3_0b {β : Type} (f : Int32 → Option β) : ∀ (d : Mem) (i : Int), 0 ≤ i → i < 16 → (aI (mkH d) 3 (J i)).bind f = f (J (d 3 i)) := fun d i h0 h1 => bind_of (z3_0 d i h0 h1) f
theorem z3_1b {β : Type} (f : Hp → Option β) : ∀ (d : Mem) (i v : Int), 0 ≤ i → i < 16 → (sI (mkH d) 3 (J i) (J v)).bind f = f (mkH (up d 3 i v)) := fun d i v h0 h1 => bind_of (z3_1 d i v h0 h1) f
theorem z4_0b {β : Type} (f : Int32 → Option β) : ∀ (d : Mem) (i : Int), 0 ≤ i → i < 16 → (aI (mkH d) 4 (J i)).bind f = f (J (d 4 i)) := fun d i h0 h1 => bind_of (z4_0 d i h0 h1) f
theorem z4_1b {β : Type} (f : Hp → Option β) : ∀ (d : Mem) (i v : Int), 0 ≤ i → i < 16 → (sI (mkH d) 4 (J i) (J v)).bind f = f (mkH (up d 4 i v)) := fun d i v h0 h1 => bind_of (z4_1 d i v h0 h1) f
theorem z5_0b {β : Type} (f : Int32 → Option β) : ∀ (d : Mem) (i : Int), 0 ≤ i → i < 16 → (aI (mkH d) 5 (J i)).bind f = f (J (d 5 i)) := fun d i h0 h1 => bind_of (z5_0 d i h0 h1) f
theorem z5_1b {β : Type} (f : Hp → Option β) : ∀ (d : Mem) (i v : Int), 0 ≤ i → i < 16 → (sI (mkH d) 5 (J i) (J v)).bind f = f (mkH (up d 5 i v)) := fun d i v h0 h1 => bind_of (z5_1 d i v h0 h1) f
theorem z32_0b {β : Type} (f : Int32 → Option β) : ∀ (d : Mem) (i : Int), 0 ≤ i → i < 16 → (aI (mkH d) 32 (J i)).bind f = f (J (d 32 i)) := fun d i h0 h1 => bind_of (z32_0 d i h0 h1) f
theorem z32_1b {β : Type} (f : Hp → Option β) : ∀ (d : Mem) (i v : Int), 0 ≤ i → i < 16 → (sI (mkH d) 32 (J i) (J v)).bind f = f (mkH (up d 32 i v)) := fun d i v h0 h1 => bind_of (z32_1 d i v h0 h1) f
theorem z33_0b {β : Type} (f : Int32 → Option β) : ∀ (d : Mem) (i : Int), 0 ≤ i → i < 16 → (aI (mkH d) 33 (J i)).bind f = f (J (d 33 i)) := fun d i h0 h1 => bind_of (z33_0 d i h0 h1) f
theorem z33_1b {β : Type} (f : Hp → Option β) : ∀ (d : Mem) (i v : Int), 0 ≤ i → i < 16 → (sI (mkH d) 33 (J i) (J v)).bind f = f (mkH (up d 33 i v)) := fun d i v h0 h1 => bind_of (z33_1 d i v h0 h1) f
theorem z34_0b {β : Type} (f : Int32 → Option β) : ∀ (d : Mem) (i : Int), 0 ≤ i → i < 16 → (aI (mkH d) 34 (J i)).bind f = f (J (d 34 i)) := fun d i h0 h1 => bind_of (z34_0 d i h0 h1) f
theorem z34_1b {β : Type} (f : Hp → Option β) : ∀ (d : Mem) (i v : Int), 0 ≤ i → i < 16 → (sI (mkH d) 34 (J i) (J v)).bind f = f (mkH (up d 34 i v)) := fun d i v h0 h1 => bind_of (z34_1 d i v h0 h1) f
theorem z79_0b {β : Type} (f : Int32 → Option β) : ∀ (d : Mem) (i : Int), 0 ≤ i → i < 16 → (aI (mkH d) 79 (J i)).bind f = f (J (d 79 i)) := fun d i h0 h1 => bind_of (z79_0 d i h0 h1) f
theorem z79_1b {β : Type} (f : Hp → Option β) : ∀ (d : Mem) (i v : Int), 0 ≤ i → i < 16 → (sI (mkH d) 79 (J i) (J v)).bind f = f (mkH (up d 79 i v)) := fun d i v h0 h1 => bind_of (z79_1 d i v h0 h1) f
theorem z80_0b {β : Type} (f : Int32 → Option β) : ∀ (d : Mem) (i : Int), 0 ≤ i → i < 16 → (aI (mkH d) 80 (J i)).bind f = f (J (d 80 i)) := fun d i h0 h1 => bind_of (z80_0 d i h0 h1) f
theorem z80_1b {β : Type} (f : Hp → Option β) : ∀ (d : Mem) (i v : Int), 0 ≤ i → i < 16 → (sI (mkH d) 80 (J i) (J v)).bind f = f (mkH (up d 80 i v)) := fun d i v h0 h1 => bind_of (z80_1 d i v h0 h1) f
theorem z81_0b {β : Type} (f : Int32 → Option β) : ∀ (d : Mem) (i : Int), 0 ≤ i → i < 16 → (aI (mkH d) 81 (J i)).bind f = f (J (d 81 i)) := fun d i h0 h1 => bind_of (z81_0 d i h0 h1) f
theorem z81_1b {β : Type} (f : Hp → Option β) : ∀ (d : Mem) (i v : Int), 0 ≤ i → i < 16 → (sI (mkH d) 81 (J i) (J v)).bind f = f (mkH (up d 81 i v)) := fun d i v h0 h1 => bind_of (z81_1 d i v h0 h1) f
theorem z145_0b {β : Type} (f : Int32 → Option β) : ∀ (d : Mem) (i : Int), 0 ≤ i → i < 16 → (aI (mkH d) 145 (J i)).bind f = f (J (d 145 i)) := fun d i h0 h1 => bind_of (z145_0 d i h0 h1) f
theorem z145_1b {β : Type} (f : Hp → Option β) : ∀ (d : Mem) (i v : Int), 0 ≤ i → i < 16 → (sI (mkH d) 145 (J i) (J v)).bind f = f (mkH (up d 145 i v)) := fun d i v h0 h1 => bind_of (z145_1 d i v h0 h1) f
theorem z60_0b {β : Type} (f : Int32 → Option β) : ∀ (d : Mem) (i : Int), 0 ≤ i → i < 6 → (aI (mkH d) 60 (J i)).bind f = f (J (d 60 i)) := fun d i h0 h1 => bind_of (z60_0 d i h0 h1) f
theorem z60_1b {β : Type} (f : Hp → Option β) : ∀ (d : Mem) (i v : Int), 0 ≤ i → i < 6 → (sI (mkH d) 60 (J i) (J v)).bind f = f (mkH (up d 60 i v)) := fun d i v h0 h1 => bind_of (z60_1 d i v h0 h1) f
theorem z61_0b {β : Type} (f : Int32 → Option β) : ∀ (d : Mem) (i : Int), 0 ≤ i → i < 6 → (aI (mkH d) 61 (J i)).bind f = f (J (d 61 i)) := fun d i h0 h1 => bind_of (z61_0 d i h0 h1) f
theorem z61_1b {β : Type} (f : Hp → Option β) : ∀ (d : Mem) (i v : Int), 0 ≤ i → i < 6 → (sI (mkH d) 61 (J i) (J v)).bind f = f (mkH (up d 61 i v)) := fun d i v h0 h1 => bind_of (z61_1 d i v h0 h1) f
theorem z107_0b {β : Type} (f : Int32 → Option β) : ∀ (d : Mem) (i : Int), 0 ≤ i → i < 6 → (aI (mkH d) 107 (J i)).bind f = f (J (d 107 i)) := fun d i h0 h1 => bind_of (z107_0 d i h0 h1) f
theorem z107_1b {β : Type} (f : Hp → Option β) : ∀ (d : Mem) (i v : Int), 0 ≤ i → i < 6 → (sI (mkH d) 107 (J i) (J v)).bind f = f (mkH (up d 107 i v)) := fun d i v h0 h1 => bind_of (z107_1 d i v h0 h1) f
theorem z108_0b {β : Type} (f : Int32 → Option β) : ∀ (d : Mem) (i : Int), 0 ≤ i → i < 6 → (aI (mkH d) 108 (J i)).bind f = f (J (d 108 i)) := fun d i h0 h1 => bind_of (z108_0 d i h0 h1) f
theorem z108_1b {β : Type} (f : Hp → Option β) : ∀ (d : Mem) (i v : Int), 0 ≤ i → i < 6 → (sI (mkH d) 108 (J i) (J v)).bind f = f (mkH (up d 108 i v)) := fun d i v h0 h1 => bind_of (z108_1 d i v h0 h1) f
theorem z76_0b {β : Type} (f : Int32 → Option β) : ∀ (d : Mem) (i : Int), 0 ≤ i → i < 12 → (aI (mkH d) 76 (J i)).bind f = f (J (d 76 i)) := fun d i h0 h1 => bind_of (z76_0 d i h0 h1) f
theorem z76_1b {β : Type} (f : Hp → Option β) : ∀ (d : Mem) (i v : Int), 0 ≤ i → i < 12 → (sI (mkH d) 76 (J i) (J v)).bind f = f (mkH (up d 76 i v)) := fun d i v h0 h1 => bind_of (z76_1 d i v h0 h1) f
theorem z123_0b {β : Type} (f : Int32 → Option β) : ∀ (d : Mem) (i : Int), 0 ≤ i → i < 12 → (aI (mkH d) 123 (J i)).bind f = f (J (d 123 i)) := fun d i h0 h1 => bind_of (z123_0 d i h0 h1) f
theorem z123_1b {β : Type} (f : Hp → Option β) : ∀ (d : Mem) (i v : Int), 0 ≤ i → i < 12 → (sI (mkH d) 123 (J i) (J v)).bind f = f (mkH (up d 123 i v)) := fun d i v h0 h1 => bind_of (z123_1 d i v h0 h1) f
theorem z149_0b {β : Type} (f : Int32 → Option β) : ∀ (d : Mem) (i : Int), 0 ≤ i → i < 12 → (aI (mkH d) 149 (J i)).bind f = f (J (d 149 i)) := fun d i h0 h1 => bind_of (z149_0 d i h0 h1) f
theorem z149_1b {β : Type} (f : Hp → Option β) : ∀ (d : Mem) (i v : Int), 0 ≤ i → i < 12 → (sI (mkH d) 149 (J i) (J v)).bind f = f (mkH (up d 149 i v)) := fun d i v h0 h1 => bind_of (z149_1 d i v h0 h1) f
theorem z150_0b {β : Type} (f : Int32 → Option β) : ∀ (d : Mem) (i : Int), 0 ≤ i → i < 12 → (aI (mkH d) 150 (J i)).bind f = f (J (d 150 i)) := fun d i h0 h1 => bind_of (z150_0 d i h0 h1) f
theorem z150_1b {β : Type} (f : Hp → Option β) : ∀ (d : Mem) (i v : Int), 0 ≤ i → i < 12 → (sI (mkH d) 150 (J i) (J v)).bind f = f (mkH (up d 150 i v)) := fun d i v h0 h1 => bind_of (z150_1 d i v h0 h1) f
theorem z127_0b {β : Type} (f : Int32 → Option β) : ∀ (d : Mem) (i : Int), 0 ≤ i → i < 3 → (aI (mkH d) 127 (J i)).bind f = f (J (d 127 i)) := fun d i h0 h1 => bind_of (z127_0 d i h0 h1) f
theorem z127_1b {β : Type} (f : Hp → Option β) : ∀ (d : Mem) (i v : Int), 0 ≤ i → i < 3 → (sI (mkH d) 127 (J i) (J v)).bind f = f (mkH (up d 127 i v)) := fun d i v h0 h1 => bind_of (z127_1 d i v h0 h1) f
theorem z130_0b {β : Type} (f : Int32 → Option β) : ∀ (d : Mem) (i : Int), 0 ≤ i → i < 7 → (aI (mkH d) 130 (J i)).bind f = f (J (d 130 i)) := fun d i h0 h1 => bind_of (z130_0 d i h0 h1) f
theorem z130_1b {β : Type} (f : Hp → Option β) : ∀ (d : Mem) (i v : Int), 0 ≤ i → i < 7 → (sI (mkH d) 130 (J i) (J v)).bind f = f (mkH (up d 130 i v)) := fun d i v h0 h1 => bind_of (z130_1 d i v h0 h1) f
theorem z132_0b {β : Type} (f : Int32 → Option β) : ∀ (d : Mem) (i : Int), 0 ≤ i → i < 8 → (aI (mkH d) 132 (J i)).bind f = f (J (d 132 i)) := fun d i h0 h1 => bind_of (z132_0 d i h0 h1) f
theorem z132_1b {β : Type} (f : Hp → Option β) : ∀ (d : Mem) (i v : Int), 0 ≤ i → i < 8 → (sI (mkH d) 132 (J i) (J v)).bind f = f (mkH (up d 132 i v)) := fun d i v h0 h1 => bind_of (z132_1 d i v h0 h1) f
theorem z133_0b {β : Type} (f : Int64 → Option β) : ∀ (d : Mem) (i : Int), 0 ≤ i → i < 8 → (aL (mkH d) 133 (J i)).bind f = f (K (d 133 i)) := fun d i h0 h1 => bind_of (z133_0 d i h0 h1) f
theorem z133_1b {β : Type} (f : Hp → Option β) : ∀ (d : Mem) (i v : Int), 0 ≤ i → i < 8 → (sL (mkH d) 133 (J i) (K v)).bind f = f (mkH (up d 133 i v)) := fun d i v h0 h1 => bind_of (z133_1 d i v h0 h1) f
theorem z134_0b {β : Type} (f : Int64 → Option β) : ∀ (d : Mem) (i : Int), 0 ≤ i → i < 8 → (aL (mkH d) 134 (J i)).bind f = f (K (d 134 i)) := fun d i h0 h1 => bind_of (z134_0 d i h0 h1) f
theorem z134_1b {β : Type} (f : Hp → Option β) : ∀ (d : Mem) (i v : Int), 0 ≤ i → i < 8 → (sL (mkH d) 134 (J i) (K v)).bind f = f (mkH (up d 134 i v)) := fun d i v h0 h1 => bind_of (z134_1 d i v h0 h1) f
theorem z135_0b {β : Type} (f : Int32 → Option β) : ∀ (d : Mem) (i : Int), 0 ≤ i → i < 8 → (aZ (mkH d) 135 (J i)).bind f = f (J (d 135 i)) := fun d i h0 h1 => bind_of (z135_0 d i h0 h1) f
theorem z135_1b {β : Type} (f : Hp → Option β) : ∀ (d : Mem) (i : Int), 0 ≤ i → i < 8 → (sZ (mkH d) 135 (J i) (J 0)).bind f = f (mkH (up d 135 i 0)) := fun d i h0 h1 => bind_of (z135_1 d i h0 h1) f
theorem z135_2b {β : Type} (f : Hp → Option β) : ∀ (d : Mem) (i : Int), 0 ≤ i → i < 8 → (sZ (mkH d) 135 (J i) (J 1)).bind f = f (mkH (up d 135 i 1)) := fun d i h0 h1 => bind_of (z135_2 d i h0 h1) f
theorem z148_0b {β : Type} (f : Int64 → Option β) : ∀ (d : Mem) (i : Int), 0 ≤ i → i < 12 → (aL (mkH d) 148 (J i)).bind f = f (K (d 148 i)) := fun d i h0 h1 => bind_of (z148_0 d i h0 h1) f
theorem z148_1b {β : Type} (f : Hp → Option β) : ∀ (d : Mem) (i v : Int), 0 ≤ i → i < 12 → (sL (mkH d) 148 (J i) (K v)).bind f = f (mkH (up d 148 i v)) := fun d i v h0 h1 => bind_of (z148_1 d i v h0 h1) f
theorem z2_0b {β : Type} (f : Nat → Option β) : ∀ (d : Mem) (i : Int), 0 ≤ i → i < 12 → (aR (mkH d) 2 3 (J i)).bind f = f (gA 1 i) := fun d i h0 h1 => bind_of (z2_0 d i h0 h1) f
theorem z31_0b {β : Type} (f : Nat → Option β) : ∀ (d : Mem) (i : Int), 0 ≤ i → i < 12 → (aR (mkH d) 31 3 (J i)).bind f = f (gA 30 i) := fun d i h0 h1 => bind_of (z31_0 d i h0 h1) f
theorem z78_0b {β : Type} (f : Nat → Option β) : ∀ (d : Mem) (i : Int), 0 ≤ i → i < 12 → (aR (mkH d) 78 3 (J i)).bind f = f (gA 77 i) := fun d i h0 h1 => bind_of (z78_0 d i h0 h1) f
theorem z63_0b {β : Type} (f : Nat → Option β) : ∀ (d : Mem) (i : Int), 0 ≤ i → i < 12 → (aR (mkH d) 63 5 (J i)).bind f = f (rA 62 i) := fun d i h0 h1 => bind_of (z63_0 d i h0 h1) f
theorem z110_0b {β : Type} (f : Nat → Option β) : ∀ (d : Mem) (i : Int), 0 ≤ i → i < 12 → (aR (mkH d) 110 5 (J i)).bind f = f (rA 109 i) := fun d i h0 h1 => bind_of (z110_0 d i h0 h1) f
theorem z124_0b {β : Type} (f : Nat → Option β) : ∀ (d : Mem) (i : Int), 0 ≤ i → i < 8 → (aR (mkH d) 124 4 (J i)).bind f = f (sA i) := fun d i h0 h1 => bind_of (z124_0 d i h0 h1) f
theorem z147_0b {β : Type} (f : Nat → Option β) : ∀ (d : Mem) (i : Int), 0 ≤ i → i < 12 → 0 ≤ d 147 i → (aR (mkH d) 147 3 (J i)).bind f = f (d 147 i).toNat := fun d i h0 h1 h2 => bind_of (z147_0 d i h0 h1 h2) f
theorem z183_0b {β : Type} (f : Unit → Option β) : ∀ (d : Mem), (isO (mkH d) 183 11).bind f = f () := fun d  => bind_of (z183_0 d ) f
theorem z183_1b {β : Type} (f : Nat → Option β) : ∀ (d : Mem), (gR (mkH d) 183 11 0).bind f = f 184 := fun d  => bind_of (z183_1 d ) f
theorem z183_2b {β : Type} (f : Nat → Option β) : ∀ (d : Mem), (gR (mkH d) 183 11 1).bind f = f 185 := fun d  => bind_of (z183_2 d ) f
theorem z183_3b {β : Type} (f : Nat → Option β) : ∀ (d : Mem), (gR (mkH d) 183 11 2).bind f = f 186 := fun d  => bind_of (z183_3 d ) f
theorem z183_4b {β : Type} (f : Nat → Option β) : ∀ (d : Mem), (gR (mkH d) 183 11 3).bind f = f 187 := fun d  => bind_of (z183_4 d ) f
theorem z183_5b {β : Type} (f : Nat → Option β) : ∀ (d : Mem), (gR (mkH d) 183 11 4).bind f = f 188 := fun d  => bind_of (z183_5 d ) f
theorem z183_6b {β : Type} (f : Nat → Option β) : ∀ (d : Mem), (gR (mkH d) 183 11 5).bind f = f 189 := fun d  => bind_of (z183_6 d ) f
theorem z183_7b {β : Type} (f : Nat → Option β) : ∀ (d : Mem), (gR (mkH d) 183 11 6).bind f = f 190 := fun d  => bind_of (z183_7 d ) f
theorem z183_8b {β : Type} (f : Nat → Option β) : ∀ (d : Mem), (gR (mkH d) 183 11 7).bind f = f 191 := fun d  => bind_of (z183_8 d ) f
theorem z183_9b {β : Type} (f : Nat → Option β) : ∀ (d : Mem), (gR (mkH d) 183 11 8).bind f = f 192 := fun d  => bind_of (z183_9 d ) f
theorem z183_10b {β : Type} (f : Nat → Option β) : ∀ (d : Mem), (gR (mkH d) 183 11 9).bind f = f 193 := fun d  => bind_of (z183_10 d ) f
theorem z183_11b {β : Type} (f : Int32 → Option β) : ∀ (d : Mem), (gI (mkH d) 183 11 10).bind f = f (J (d 183 10)) := fun d  => bind_of (z183_11 d ) f
theorem z183_12b {β : Type} (f : Hp → Option β) : ∀ (d : Mem) (v : Int), (pF (mkH d) 183 11 10 (.int (J v))).bind f = f (mkH (up d 183 10 v)) := fun d v  => bind_of (z183_12 d v ) f
theorem z183_13b {β : Type} (f : Int32 → Option β) : ∀ (d : Mem), (gI (mkH d) 183 11 11).bind f = f (J (d 183 11)) := fun d  => bind_of (z183_13 d ) f
theorem z183_14b {β : Type} (f : Hp → Option β) : ∀ (d : Mem) (v : Int), (pF (mkH d) 183 11 11 (.int (J v))).bind f = f (mkH (up d 183 11 v)) := fun d v  => bind_of (z183_14 d v ) f
theorem z183_15b {β : Type} (f : Int32 → Option β) : ∀ (d : Mem), (gI (mkH d) 183 11 12).bind f = f (J (d 183 12)) := fun d  => bind_of (z183_15 d ) f
theorem z183_16b {β : Type} (f : Hp → Option β) : ∀ (d : Mem) (v : Int), (pF (mkH d) 183 11 12 (.int (J v))).bind f = f (mkH (up d 183 12 v)) := fun d v  => bind_of (z183_16 d v ) f
theorem z183_17b {β : Type} (f : Int32 → Option β) : ∀ (d : Mem), (gI (mkH d) 183 11 13).bind f = f (J (d 183 13)) := fun d  => bind_of (z183_17 d ) f
theorem z183_18b {β : Type} (f : Hp → Option β) : ∀ (d : Mem) (v : Int), (pF (mkH d) 183 11 13 (.int (J v))).bind f = f (mkH (up d 183 13 v)) := fun d v  => bind_of (z183_18 d v ) f
theorem z183_19b {β : Type} (f : Int32 → Option β) : ∀ (d : Mem), (gI (mkH d) 183 11 14).bind f = f (J (d 183 14)) := fun d  => bind_of (z183_19 d ) f
theorem z183_20b {β : Type} (f : Hp → Option β) : ∀ (d : Mem) (v : Int), (pF (mkH d) 183 11 14 (.int (J v))).bind f = f (mkH (up d 183 14 v)) := fun d v  => bind_of (z183_20 d v ) f
theorem z183_21b {β : Type} (f : Int32 → Option β) : ∀ (d : Mem), (gI (mkH d) 183 11 15).bind f = f (J (d 183 15)) := fun d  => bind_of (z183_21 d ) f
theorem z183_22b {β : Type} (f : Hp → Option β) : ∀ (d : Mem) (v : Int), (pF (mkH d) 183 11 15 (.int (J v))).bind f = f (mkH (up d 183 15 v)) := fun d v  => bind_of (z183_22 d v ) f
theorem z183_23b {β : Type} (f : Nat → Option β) : ∀ (d : Mem), (gR (mkH d) 183 11 16).bind f = f (d 183 16).toNat := fun d  => bind_of (z183_23 d ) f
theorem z183_24b {β : Type} (f : Hp → Option β) : ∀ (d : Mem) (r : Nat), (pF (mkH d) 183 11 16 (.ref r)).bind f = f (mkH (up d 183 16 r)) := fun d r  => bind_of (z183_24 d r ) f
theorem z183_25b {β : Type} (f : Nat → Option β) : ∀ (d : Mem), (gR (mkH d) 183 11 17).bind f = f 194 := fun d  => bind_of (z183_25 d ) f
theorem z183_26b {β : Type} (f : Nat → Option β) : ∀ (d : Mem), (gR (mkH d) 183 11 18).bind f = f 195 := fun d  => bind_of (z183_26 d ) f
theorem z183_27b {β : Type} (f : Nat → Option β) : ∀ (d : Mem), (gR (mkH d) 183 11 19).bind f = f 196 := fun d  => bind_of (z183_27 d ) f
theorem z183_28b {β : Type} (f : Nat → Option β) : ∀ (d : Mem), (gR (mkH d) 183 11 20).bind f = f 197 := fun d  => bind_of (z183_28 d ) f
theorem z183_29b {β : Type} (f : Nat → Option β) : ∀ (d : Mem), (gR (mkH d) 183 11 21).bind f = f 198 := fun d  => bind_of (z183_29 d ) f
theorem z183_30b {β : Type} (f : Int64 → Option β) : ∀ (d : Mem), (gL (mkH d) 183 11 22).bind f = f (K (d 183 22)) := fun d  => bind_of (z183_30 d ) f
theorem z183_31b {β : Type} (f : Hp → Option β) : ∀ (d : Mem) (v : Int), (pF (mkH d) 183 11 22 (.long (K v))).bind f = f (mkH (up d 183 22 v)) := fun d v  => bind_of (z183_31 d v ) f
theorem z183_32b {β : Type} (f : Int64 → Option β) : ∀ (d : Mem), (gL (mkH d) 183 11 23).bind f = f (K (d 183 23)) := fun d  => bind_of (z183_32 d ) f
theorem z183_33b {β : Type} (f : Hp → Option β) : ∀ (d : Mem) (v : Int), (pF (mkH d) 183 11 23 (.long (K v))).bind f = f (mkH (up d 183 23 v)) := fun d v  => bind_of (z183_33 d v ) f
theorem z183_34b {β : Type} (f : Nat → Option β) : ∀ (d : Mem), (gR (mkH d) 183 11 24).bind f = f 199 := fun d  => bind_of (z183_34 d ) f
theorem z183_35b {β : Type} (f : Int32 → Option β) : ∀ (d : Mem), (gI (mkH d) 183 11 25).bind f = f (J (d 183 25)) := fun d  => bind_of (z183_35 d ) f
theorem z183_36b {β : Type} (f : Hp → Option β) : ∀ (d : Mem) (v : Int), (pF (mkH d) 183 11 25 (.int (J v))).bind f = f (mkH (up d 183 25 v)) := fun d v  => bind_of (z183_36 d v ) f
theorem z183_37b {β : Type} (f : Int32 → Option β) : ∀ (d : Mem), (gI (mkH d) 183 11 26).bind f = f (J (d 183 26)) := fun d  => bind_of (z183_37 d ) f
theorem z183_38b {β : Type} (f : Hp → Option β) : ∀ (d : Mem) (v : Int), (pF (mkH d) 183 11 26 (.int (J v))).bind f = f (mkH (up d 183 26 v)) := fun d v  => bind_of (z183_38 d v ) f
theorem z183_39b {β : Type} (f : Int32 → Option β) : ∀ (d : Mem), (gI (mkH d) 183 11 27).bind f = f (J (d 183 27)) := fun d  => bind_of (z183_39 d ) f
theorem z183_40b {β : Type} (f : Hp → Option β) : ∀ (d : Mem) (v : Int), (pF (mkH d) 183 11 27 (.int (J v))).bind f = f (mkH (up d 183 27 v)) := fun d v  => bind_of (z183_40 d v ) f
theorem z183_41b {β : Type} (f : Nat → Option β) : ∀ (d : Mem), (gR (mkH d) 183 11 28).bind f = f 200 := fun d  => bind_of (z183_41 d ) f
theorem z183_42b {β : Type} (f : Nat → Option β) : ∀ (d : Mem), (gR (mkH d) 183 11 29).bind f = f 201 := fun d  => bind_of (z183_42 d ) f
theorem z184_0b {β : Type} (f : Int32 → Option β) : ∀ (d : Mem) (i : Int), 0 ≤ i → i < 16 → (aI (mkH d) 184 (J i)).bind f = f (J (d 184 i)) := fun d i h0 h1 => bind_of (z184_0 d i h0 h1) f
theorem z184_1b {β : Type} (f : Hp → Option β) : ∀ (d : Mem) (i v : Int), 0 ≤ i → i < 16 → (sI (mkH d) 184 (J i) (J v)).bind f = f (mkH (up d 184 i v)) := fun d i v h0 h1 => bind_of (z184_1 d i v h0 h1) f
theorem z185_0b {β : Type} (f : Int32 → Option β) : ∀ (d : Mem) (i : Int), 0 ≤ i → i < 1744 → (aI (mkH d) 185 (J i)).bind f = f (J (d 185 i)) := fun d i h0 h1 => bind_of (z185_0 d i h0 h1) f
theorem z185_1b {β : Type} (f : Hp → Option β) : ∀ (d : Mem) (i v : Int), 0 ≤ i → i < 1744 → (sI (mkH d) 185 (J i) (J v)).bind f = f (mkH (up d 185 i v)) := fun d i v h0 h1 => bind_of (z185_1 d i v h0 h1) f
theorem z186_0b {β : Type} (f : Int32 → Option β) : ∀ (d : Mem) (i : Int), 0 ≤ i → i < 1744 → (aI (mkH d) 186 (J i)).bind f = f (J (d 186 i)) := fun d i h0 h1 => bind_of (z186_0 d i h0 h1) f
theorem z186_1b {β : Type} (f : Hp → Option β) : ∀ (d : Mem) (i v : Int), 0 ≤ i → i < 1744 → (sI (mkH d) 186 (J i) (J v)).bind f = f (mkH (up d 186 i v)) := fun d i v h0 h1 => bind_of (z186_1 d i v h0 h1) f
theorem z187_0b {β : Type} (f : Int32 → Option β) : ∀ (d : Mem) (i : Int), 0 ≤ i → i < 1744 → (aI (mkH d) 187 (J i)).bind f = f (J (d 187 i)) := fun d i h0 h1 => bind_of (z187_0 d i h0 h1) f
theorem z187_1b {β : Type} (f : Hp → Option β) : ∀ (d : Mem) (i v : Int), 0 ≤ i → i < 1744 → (sI (mkH d) 187 (J i) (J v)).bind f = f (mkH (up d 187 i v)) := fun d i v h0 h1 => bind_of (z187_1 d i v h0 h1) f
theorem z191_0b {β : Type} (f : Int32 → Option β) : ∀ (d : Mem) (i : Int), 0 ≤ i → i < 960 → (aI (mkH d) 191 (J i)).bind f = f (J (d 191 i)) := fun d i h0 h1 => bind_of (z191_0 d i h0 h1) f
theorem z191_1b {β : Type} (f : Hp → Option β) : ∀ (d : Mem) (i v : Int), 0 ≤ i → i < 960 → (sI (mkH d) 191 (J i) (J v)).bind f = f (mkH (up d 191 i v)) := fun d i v h0 h1 => bind_of (z191_1 d i v h0 h1) f
theorem z194_0b {β : Type} (f : Int32 → Option β) : ∀ (d : Mem) (i : Int), 0 ≤ i → i < 3 → (aI (mkH d) 194 (J i)).bind f = f (J (d 194 i)) := fun d i h0 h1 => bind_of (z194_0 d i h0 h1) f
theorem z194_1b {β : Type} (f : Hp → Option β) : ∀ (d : Mem) (i v : Int), 0 ≤ i → i < 3 → (sI (mkH d) 194 (J i) (J v)).bind f = f (mkH (up d 194 i v)) := fun d i v h0 h1 => bind_of (z194_1 d i v h0 h1) f
theorem z195_0b {β : Type} (f : Int32 → Option β) : ∀ (d : Mem) (i : Int), 0 ≤ i → i < 8 → (aI (mkH d) 195 (J i)).bind f = f (J (d 195 i)) := fun d i h0 h1 => bind_of (z195_0 d i h0 h1) f
theorem z195_1b {β : Type} (f : Hp → Option β) : ∀ (d : Mem) (i v : Int), 0 ≤ i → i < 8 → (sI (mkH d) 195 (J i) (J v)).bind f = f (mkH (up d 195 i v)) := fun d i v h0 h1 => bind_of (z195_1 d i v h0 h1) f
theorem z196_0b {β : Type} (f : Int64 → Option β) : ∀ (d : Mem) (i : Int), 0 ≤ i → i < 8 → (aL (mkH d) 196 (J i)).bind f = f (K (d 196 i)) := fun d i h0 h1 => bind_of (z196_0 d i h0 h1) f
theorem z196_1b {β : Type} (f : Hp → Option β) : ∀ (d : Mem) (i v : Int), 0 ≤ i → i < 8 → (sL (mkH d) 196 (J i) (K v)).bind f = f (mkH (up d 196 i v)) := fun d i v h0 h1 => bind_of (z196_1 d i v h0 h1) f
theorem z197_0b {β : Type} (f : Int64 → Option β) : ∀ (d : Mem) (i : Int), 0 ≤ i → i < 8 → (aL (mkH d) 197 (J i)).bind f = f (K (d 197 i)) := fun d i h0 h1 => bind_of (z197_0 d i h0 h1) f
theorem z197_1b {β : Type} (f : Hp → Option β) : ∀ (d : Mem) (i v : Int), 0 ≤ i → i < 8 → (sL (mkH d) 197 (J i) (K v)).bind f = f (mkH (up d 197 i v)) := fun d i v h0 h1 => bind_of (z197_1 d i v h0 h1) f
theorem z198_0b {β : Type} (f : Int32 → Option β) : ∀ (d : Mem) (i : Int), 0 ≤ i → i < 8 → (aZ (mkH d) 198 (J i)).bind f = f (J (d 198 i)) := fun d i h0 h1 => bind_of (z198_0 d i h0 h1) f
theorem z198_1b {β : Type} (f : Hp → Option β) : ∀ (d : Mem) (i : Int), 0 ≤ i → i < 8 → (sZ (mkH d) 198 (J i) (J 0)).bind f = f (mkH (up d 198 i 0)) := fun d i h0 h1 => bind_of (z198_1 d i h0 h1) f
theorem z198_2b {β : Type} (f : Hp → Option β) : ∀ (d : Mem) (i : Int), 0 ≤ i → i < 8 → (sZ (mkH d) 198 (J i) (J 1)).bind f = f (mkH (up d 198 i 1)) := fun d i h0 h1 => bind_of (z198_2 d i h0 h1) f
theorem z199_0b {β : Type} (f : Int32 → Option β) : ∀ (d : Mem) (i : Int), 0 ≤ i → i < 16 → (aI (mkH d) 199 (J i)).bind f = f (J (d 199 i)) := fun d i h0 h1 => bind_of (z199_0 d i h0 h1) f
theorem z199_1b {β : Type} (f : Hp → Option β) : ∀ (d : Mem) (i v : Int), 0 ≤ i → i < 16 → (sI (mkH d) 199 (J i) (J v)).bind f = f (mkH (up d 199 i v)) := fun d i v h0 h1 => bind_of (z199_1 d i v h0 h1) f
theorem z200_0b {β : Type} (f : Int64 → Option β) : ∀ (d : Mem) (i : Int), 0 ≤ i → i < 1200 → (aL (mkH d) 200 (J i)).bind f = f (K (d 200 i)) := fun d i h0 h1 => bind_of (z200_0 d i h0 h1) f
theorem z200_1b {β : Type} (f : Hp → Option β) : ∀ (d : Mem) (i v : Int), 0 ≤ i → i < 1200 → (sL (mkH d) 200 (J i) (K v)).bind f = f (mkH (up d 200 i v)) := fun d i v h0 h1 => bind_of (z200_1 d i v h0 h1) f
theorem z201_0b {β : Type} (f : Int32 → Option β) : ∀ (d : Mem) (i : Int), 0 ≤ i → i < 1200 → (aI (mkH d) 201 (J i)).bind f = f (J (d 201 i)) := fun d i h0 h1 => bind_of (z201_0 d i h0 h1) f
theorem z201_1b {β : Type} (f : Hp → Option β) : ∀ (d : Mem) (i v : Int), 0 ≤ i → i < 1200 → (sI (mkH d) 201 (J i) (J v)).bind f = f (mkH (up d 201 i v)) := fun d i v h0 h1 => bind_of (z201_1 d i v h0 h1) f
theorem z202_0b {β : Type} (f : Int64 → Option β) : ∀ (d : Mem) (i : Int), 0 ≤ i → i < 1 → (aL (mkH d) 202 (J i)).bind f = f (K (d 202 i)) := fun d i h0 h1 => bind_of (z202_0 d i h0 h1) f
theorem z202_1b {β : Type} (f : Hp → Option β) : ∀ (d : Mem) (i v : Int), 0 ≤ i → i < 1 → (sL (mkH d) 202 (J i) (K v)).bind f = f (mkH (up d 202 i v)) := fun d i v h0 h1 => bind_of (z202_1 d i v h0 h1) f
theorem z188_0b {β : Type} (f : Int32 → Option β) : ∀ (d : Mem) (i : Int), 0 ≤ i → i < 8 → (aI (mkH d) 188 (J i)).bind f = f (J (d 188 i)) := fun d i h0 h1 => bind_of (z188_0 d i h0 h1) f
theorem z188_1b {β : Type} (f : Hp → Option β) : ∀ (d : Mem) (i v : Int), 0 ≤ i → i < 8 → (sI (mkH d) 188 (J i) (J v)).bind f = f (mkH (up d 188 i v)) := fun d i v h0 h1 => bind_of (z188_1 d i v h0 h1) f
theorem z189_0b {β : Type} (f : Int32 → Option β) : ∀ (d : Mem) (i : Int), 0 ≤ i → i < 8 → (aI (mkH d) 189 (J i)).bind f = f (J (d 189 i)) := fun d i h0 h1 => bind_of (z189_0 d i h0 h1) f
theorem z189_1b {β : Type} (f : Hp → Option β) : ∀ (d : Mem) (i v : Int), 0 ≤ i → i < 8 → (sI (mkH d) 189 (J i) (J v)).bind f = f (mkH (up d 189 i v)) := fun d i v h0 h1 => bind_of (z189_1 d i v h0 h1) f
theorem z190_0b {β : Type} (f : Int32 → Option β) : ∀ (d : Mem) (i : Int), 0 ≤ i → i < 8 → (aI (mkH d) 190 (J i)).bind f = f (J (d 190 i)) := fun d i h0 h1 => bind_of (z190_0 d i h0 h1) f
theorem z190_1b {β : Type} (f : Hp → Option β) : ∀ (d : Mem) (i v : Int), 0 ≤ i → i < 8 → (sI (mkH d) 190 (J i) (J v)).bind f = f (mkH (up d 190 i v)) := fun d i v h0 h1 => bind_of (z190_1 d i v h0 h1) f
theorem z192_0b {β : Type} (f : Int32 → Option β) : ∀ (d : Mem) (i : Int), 0 ≤ i → i < 8 → (aI (mkH d) 192 (J i)).bind f = f (J (d 192 i)) := fun d i h0 h1 => bind_of (z192_0 d i h0 h1) f
theorem z192_1b {β : Type} (f : Hp → Option β) : ∀ (d : Mem) (i v : Int), 0 ≤ i → i < 8 → (sI (mkH d) 192 (J i) (J v)).bind f = f (mkH (up d 192 i v)) := fun d i v h0 h1 => bind_of (z192_1 d i v h0 h1) f
theorem z193_0b {β : Type} (f : Int32 → Option β) : ∀ (d : Mem) (i : Int), 0 ≤ i → i < 8 → (aI (mkH d) 193 (J i)).bind f = f (J (d 193 i)) := fun d i h0 h1 => bind_of (z193_0 d i h0 h1) f
theorem z193_1b {β : Type} (f : Hp → Option β) : ∀ (d : Mem) (i v : Int), 0 ≤ i → i < 8 → (sI (mkH d) 193 (J i) (J v)).bind f = f (mkH (up d 193 i v)) := fun d i v h0 h1 => bind_of (z193_1 d i v h0 h1) f
theorem SG0b {β : Type} (f : Unit → Option β) : ∀ (d : Mem) (g : Nat), isG g → (isO (mkH d) g 0).bind f = f () := fun d g h0 => bind_of (SG0 d g h0) f
theorem SG1b {β : Type} (f : Int32 → Option β) : ∀ (d : Mem) (g : Nat), isG g → (gI (mkH d) g 0 0).bind f = f (J (d g 0)) := fun d g h0 => bind_of (SG1 d g h0) f
theorem SG2b {β : Type} (f : Int32 → Option β) : ∀ (d : Mem) (g : Nat), isG g → (gI (mkH d) g 0 1).bind f = f (J (d g 1)) := fun d g h0 => bind_of (SG2 d g h0) f
theorem SG3b {β : Type} (f : Int32 → Option β) : ∀ (d : Mem) (g : Nat), isG g → (gI (mkH d) g 0 2).bind f = f (J (d g 2)) := fun d g h0 => bind_of (SG3 d g h0) f
theorem SG4b {β : Type} (f : Int32 → Option β) : ∀ (d : Mem) (g : Nat), isG g → (gI (mkH d) g 0 3).bind f = f (J (d g 3)) := fun d g h0 => bind_of (SG4 d g h0) f
theorem SG5b {β : Type} (f : Nat → Option β) : ∀ (d : Mem) (g : Nat), isG g → (gR (mkH d) g 0 4).bind f = f (g + 1) := fun d g h0 => bind_of (SG5 d g h0) f
theorem SG6b {β : Type} (f : Hp → Option β) : ∀ (d : Mem) (g : Nat) (v : Int), isG g → (pF (mkH d) g 0 0 (.int (J v))).bind f = f (mkH (up d g 0 v)) := fun d g v h0 => bind_of (SG6 d g v h0) f
theorem SG7b {β : Type} (f : Hp → Option β) : ∀ (d : Mem) (g : Nat) (v : Int), isG g → (pF (mkH d) g 0 1 (.int (J v))).bind f = f (mkH (up d g 1 v)) := fun d g v h0 => bind_of (SG7 d g v h0) f
theorem SG8b {β : Type} (f : Hp → Option β) : ∀ (d : Mem) (g : Nat) (v : Int), isG g → (pF (mkH d) g 0 2 (.int (J v))).bind f = f (mkH (up d g 2 v)) := fun d g v h0 => bind_of (SG8 d g v h0) f
theorem SG9b {β : Type} (f : Hp → Option β) : ∀ (d : Mem) (g : Nat) (v : Int), isG g → (pF (mkH d) g 0 3 (.int (J v))).bind f = f (mkH (up d g 3 v)) := fun d g v h0 => bind_of (SG9 d g v h0) f
theorem SG10b {β : Type} (f : Int32 → Option β) : ∀ (d : Mem) (g : Nat) (i : Int), isG g → 0 ≤ i → i < 16 → (aI (mkH d) (g + 1) (J i)).bind f = f (J (cw d g i)) := fun d g i h0 h1 h2 => bind_of (SG10 d g i h0 h1 h2) f
theorem SG11b {β : Type} (f : Hp → Option β) : ∀ (d : Mem) (g : Nat) (i v : Int), isG g → 0 ≤ i → i < 16 → (sI (mkH d) (g + 1) (J i) (J v)).bind f = f (mkH (up d (g + 1) i v)) := fun d g i v h0 h1 h2 => bind_of (SG11 d g i v h0 h1 h2) f
theorem SG12b {β : Type} (f : Int32 → Option β) : ∀ (d : Mem) (g : Nat), isG g → (aN (mkH d) (g + 1)).bind f = f (J 16) := fun d g h0 => bind_of (SG12 d g h0) f
theorem SS0b {β : Type} (f : Unit → Option β) : ∀ (d : Mem) (g : Nat), isS g → (isO (mkH d) g 7).bind f = f () := fun d g h0 => bind_of (SS0 d g h0) f
theorem SS1b {β : Type} (f : Int32 → Option β) : ∀ (d : Mem) (g : Nat), isS g → (gI (mkH d) g 7 0).bind f = f (J (d g 0)) := fun d g h0 => bind_of (SS1 d g h0) f
theorem SS2b {β : Type} (f : Nat → Option β) : ∀ (d : Mem) (g : Nat), isS g → (gR (mkH d) g 7 1).bind f = f (g + 1) := fun d g h0 => bind_of (SS2 d g h0) f
theorem SS3b {β : Type} (f : Int32 → Option β) : ∀ (d : Mem) (g : Nat), isS g → (gI (mkH d) g 7 2).bind f = f (J (d g 2)) := fun d g h0 => bind_of (SS3 d g h0) f
theorem SS4b {β : Type} (f : Int32 → Option β) : ∀ (d : Mem) (g : Nat), isS g → (gI (mkH d) g 7 3).bind f = f (J (d g 3)) := fun d g h0 => bind_of (SS4 d g h0) f
theorem SS5b {β : Type} (f : Nat → Option β) : ∀ (d : Mem) (g : Nat), isS g → (gR (mkH d) g 7 4).bind f = f (g + 3) := fun d g h0 => bind_of (SS5 d g h0) f
theorem SS6b {β : Type} (f : Hp → Option β) : ∀ (d : Mem) (g : Nat) (v : Int), isS g → (pF (mkH d) g 7 0 (.int (J v))).bind f = f (mkH (up d g 0 v)) := fun d g v h0 => bind_of (SS6 d g v h0) f
theorem SS7b {β : Type} (f : Hp → Option β) : ∀ (d : Mem) (g : Nat) (v : Int), isS g → (pF (mkH d) g 7 2 (.int (J v))).bind f = f (mkH (up d g 2 v)) := fun d g v h0 => bind_of (SS7 d g v h0) f
theorem SS8b {β : Type} (f : Hp → Option β) : ∀ (d : Mem) (g : Nat) (v : Int), isS g → (pF (mkH d) g 7 3 (.int (J v))).bind f = f (mkH (up d g 3 v)) := fun d g v h0 => bind_of (SS8 d g v h0) f
theorem SS9b {β : Type} (f : Int32 → Option β) : ∀ (d : Mem) (g : Nat) (i : Int), isS g → 0 ≤ i → i < 120 → (aI (mkH d) (g + 3) (J i)).bind f = f (J (d (g + 3) i)) := fun d g i h0 h1 h2 => bind_of (SS9 d g i h0 h1 h2) f
theorem SS10b {β : Type} (f : Hp → Option β) : ∀ (d : Mem) (g : Nat) (i v : Int), isS g → 0 ≤ i → i < 120 → (sI (mkH d) (g + 3) (J i) (J v)).bind f = f (mkH (up d (g + 3) i v)) := fun d g i v h0 h1 h2 => bind_of (SS10 d g i v h0 h1 h2) f
theorem SS11b {β : Type} (f : Int32 → Option β) : ∀ (d : Mem) (g : Nat), isS g → (aN (mkH d) (g + 3)).bind f = f (J 120) := fun d g h0 => bind_of (SS11 d g h0) f
