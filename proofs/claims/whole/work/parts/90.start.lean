set_option maxRecDepth 100000 in
set_option maxHeartbeats 4000000 in
theorem st_0 {s : State} {a : Array Value} (hs : ∀ c ∈ flatC (Jvm.Cond.and given_1 narrow_1), c.before a s = true) (hts : ∀ w ∈ lw_tbl, w.before a s = true) : ∃ t : Nat, va_Z (roC 0).1 (roC 0).2.1 "[I" (.ref t) (fun q => s.heap.size ≤ q) s s.heap ∧ va_T .int t (roC 0).2.2.1 (fun k => .int ((roC 0).2.2.2 k)) (fun q => s.heap.size ≤ q) s s.heap := by
  have hA : ∀ q : Nat, q < s.heap.size → ¬ (fun q : Nat => s.heap.size ≤ q) q := fun q h h2 => absurd h (Nat.not_lt.mpr h2)
  obtain ⟨t, ht, hT⟩ := va_Tof (tm := .static RX0 "HARD_BY_KIND" "[I") (ty := .int) (N := 5) (f := fun k => .int ((roC 0).2.2.2 k)) (A := fun q => s.heap.size ≤ q) (by decide) (hs _ (by decide +kernel)) (va_eqt (hs (.eq (.length (.static RX0 "HARD_BY_KIND" "[I")) (.int 5)) (by decide +kernel))) (fun j hj => by
    match j, hj with
    | 0, _ => exact va_eqt (hs (.eq (.elem (.static RX0 "HARD_BY_KIND" "[I") (.int 0)) (.int 10)) (by decide +kernel))
    | 1, _ => exact va_eqt (hs (.eq (.elem (.static RX0 "HARD_BY_KIND" "[I") (.int 1)) (.int 20)) (by decide +kernel))
    | 2, _ => exact va_eqt (hs (.eq (.elem (.static RX0 "HARD_BY_KIND" "[I") (.int 2)) (.int 5)) (by decide +kernel))
    | 3, _ => exact va_eqt (hs (.eq (.elem (.static RX0 "HARD_BY_KIND" "[I") (.int 3)) (.int 25)) (by decide +kernel))
    | 4, _ => exact va_eqt (hs (.eq (.elem (.static RX0 "HARD_BY_KIND" "[I") (.int 4)) (.int 10)) (by decide +kernel))
    | k + 5, h => omega) hA
  exact ⟨t, va_Zof (hts _ (List.mem_of_getElem? (i := 585) (by decide +kernel))) (hts _ (List.mem_of_getElem? (i := 91) (by decide +kernel))) ht hA, hT⟩
set_option maxRecDepth 100000 in
set_option maxHeartbeats 4000000 in
theorem st_1 {s : State} {a : Array Value} (hs : ∀ c ∈ flatC (Jvm.Cond.and given_1 narrow_1), c.before a s = true) (hts : ∀ w ∈ lw_tbl, w.before a s = true) : ∃ t : Nat, va_Z (roC 1).1 (roC 1).2.1 "[I" (.ref t) (fun q => s.heap.size ≤ q) s s.heap ∧ va_T .int t (roC 1).2.2.1 (fun k => .int ((roC 1).2.2.2 k)) (fun q => s.heap.size ≤ q) s s.heap := by
  have hA : ∀ q : Nat, q < s.heap.size → ¬ (fun q : Nat => s.heap.size ≤ q) q := fun q h h2 => absurd h (Nat.not_lt.mpr h2)
  obtain ⟨t, ht, hT⟩ := va_Tof (tm := .static RX0 "STIFF_BY_KIND" "[I") (ty := .int) (N := 5) (f := fun k => .int ((roC 1).2.2.2 k)) (A := fun q => s.heap.size ≤ q) (by decide) (hs _ (by decide +kernel)) (va_eqt (hs (.eq (.length (.static RX0 "STIFF_BY_KIND" "[I")) (.int 5)) (by decide +kernel))) (fun j hj => by
    match j, hj with
    | 0, _ => exact va_eqt (hs (.eq (.elem (.static RX0 "STIFF_BY_KIND" "[I") (.int 0)) (.int 8)) (by decide +kernel))
    | 1, _ => exact va_eqt (hs (.eq (.elem (.static RX0 "STIFF_BY_KIND" "[I") (.int 1)) (.int 12)) (by decide +kernel))
    | 2, _ => exact va_eqt (hs (.eq (.elem (.static RX0 "STIFF_BY_KIND" "[I") (.int 2)) (.int 6)) (by decide +kernel))
    | 3, _ => exact va_eqt (hs (.eq (.elem (.static RX0 "STIFF_BY_KIND" "[I") (.int 3)) (.int 12)) (by decide +kernel))
    | 4, _ => exact va_eqt (hs (.eq (.elem (.static RX0 "STIFF_BY_KIND" "[I") (.int 4)) (.int 16)) (by decide +kernel))
    | k + 5, h => omega) hA
  exact ⟨t, va_Zof (hts _ (List.mem_of_getElem? (i := 591) (by decide +kernel))) (hts _ (List.mem_of_getElem? (i := 91) (by decide +kernel))) ht hA, hT⟩
set_option maxRecDepth 100000 in
set_option maxHeartbeats 4000000 in
theorem st_2 {s : State} {a : Array Value} (hs : ∀ c ∈ flatC (Jvm.Cond.and given_1 narrow_1), c.before a s = true) (hts : ∀ w ∈ lw_tbl, w.before a s = true) : ∃ t : Nat, va_Z (roC 2).1 (roC 2).2.1 "[I" (.ref t) (fun q => s.heap.size ≤ q) s s.heap ∧ va_T .int t (roC 2).2.2.1 (fun k => .int ((roC 2).2.2.2 k)) (fun q => s.heap.size ≤ q) s s.heap := by
  have hA : ∀ q : Nat, q < s.heap.size → ¬ (fun q : Nat => s.heap.size ≤ q) q := fun q h h2 => absurd h (Nat.not_lt.mpr h2)
  obtain ⟨t, ht, hT⟩ := va_Tof (tm := .static RX5 "COS" "[I") (ty := .int) (N := 16) (f := fun k => .int ((roC 2).2.2.2 k)) (A := fun q => s.heap.size ≤ q) (by decide) (hs _ (by decide +kernel)) (va_eqt (hs (.eq (.length (.static RX5 "COS" "[I")) (.int 16)) (by decide +kernel))) (fun j hj => by
    match j, hj with
    | 0, _ => exact va_eqt (hs (.eq (.elem (.static RX5 "COS" "[I") (.int 0)) (.int 1000)) (by decide +kernel))
    | 1, _ => exact va_eqt (hs (.eq (.elem (.static RX5 "COS" "[I") (.int 1)) (.int 924)) (by decide +kernel))
    | 2, _ => exact va_eqt (hs (.eq (.elem (.static RX5 "COS" "[I") (.int 2)) (.int 707)) (by decide +kernel))
    | 3, _ => exact va_eqt (hs (.eq (.elem (.static RX5 "COS" "[I") (.int 3)) (.int 383)) (by decide +kernel))
    | 4, _ => exact va_eqt (hs (.eq (.elem (.static RX5 "COS" "[I") (.int 4)) (.int 0)) (by decide +kernel))
    | 5, _ => exact va_eqt (hs (.eq (.elem (.static RX5 "COS" "[I") (.int 5)) (.int (-383))) (by decide +kernel))
    | 6, _ => exact va_eqt (hs (.eq (.elem (.static RX5 "COS" "[I") (.int 6)) (.int (-707))) (by decide +kernel))
    | 7, _ => exact va_eqt (hs (.eq (.elem (.static RX5 "COS" "[I") (.int 7)) (.int (-924))) (by decide +kernel))
    | 8, _ => exact va_eqt (hs (.eq (.elem (.static RX5 "COS" "[I") (.int 8)) (.int (-1000))) (by decide +kernel))
    | 9, _ => exact va_eqt (hs (.eq (.elem (.static RX5 "COS" "[I") (.int 9)) (.int (-924))) (by decide +kernel))
    | 10, _ => exact va_eqt (hs (.eq (.elem (.static RX5 "COS" "[I") (.int 10)) (.int (-707))) (by decide +kernel))
    | 11, _ => exact va_eqt (hs (.eq (.elem (.static RX5 "COS" "[I") (.int 11)) (.int (-383))) (by decide +kernel))
    | 12, _ => exact va_eqt (hs (.eq (.elem (.static RX5 "COS" "[I") (.int 12)) (.int 0)) (by decide +kernel))
    | 13, _ => exact va_eqt (hs (.eq (.elem (.static RX5 "COS" "[I") (.int 13)) (.int 383)) (by decide +kernel))
    | 14, _ => exact va_eqt (hs (.eq (.elem (.static RX5 "COS" "[I") (.int 14)) (.int 707)) (by decide +kernel))
    | 15, _ => exact va_eqt (hs (.eq (.elem (.static RX5 "COS" "[I") (.int 15)) (.int 924)) (by decide +kernel))
    | k + 16, h => omega) hA
  exact ⟨t, va_Zof (hts _ (List.mem_of_getElem? (i := 820) (by decide +kernel))) (hts _ (List.mem_of_getElem? (i := 98) (by decide +kernel))) ht hA, hT⟩
set_option maxRecDepth 100000 in
set_option maxHeartbeats 4000000 in
theorem st_3 {s : State} {a : Array Value} (hs : ∀ c ∈ flatC (Jvm.Cond.and given_1 narrow_1), c.before a s = true) (hts : ∀ w ∈ lw_tbl, w.before a s = true) : ∃ t : Nat, va_Z (roC 3).1 (roC 3).2.1 "[I" (.ref t) (fun q => s.heap.size ≤ q) s s.heap ∧ va_T .int t (roC 3).2.2.1 (fun k => .int ((roC 3).2.2.2 k)) (fun q => s.heap.size ≤ q) s s.heap := by
  have hA : ∀ q : Nat, q < s.heap.size → ¬ (fun q : Nat => s.heap.size ≤ q) q := fun q h h2 => absurd h (Nat.not_lt.mpr h2)
  obtain ⟨t, ht, hT⟩ := va_Tof (tm := .static RX7 "FIELD_SIGNS" "[I") (ty := .int) (N := 7) (f := fun k => .int ((roC 3).2.2.2 k)) (A := fun q => s.heap.size ≤ q) (by decide) (hs _ (by decide +kernel)) (va_eqt (hs (.eq (.length (.static RX7 "FIELD_SIGNS" "[I")) (.int 7)) (by decide +kernel))) (fun j hj => by
    match j, hj with
    | 0, _ => exact va_eqt (hs (.eq (.elem (.static RX7 "FIELD_SIGNS" "[I") (.int 0)) (.int 101)) (by decide +kernel))
    | 1, _ => exact va_eqt (hs (.eq (.elem (.static RX7 "FIELD_SIGNS" "[I") (.int 1)) (.int 103)) (by decide +kernel))
    | 2, _ => exact va_eqt (hs (.eq (.elem (.static RX7 "FIELD_SIGNS" "[I") (.int 2)) (.int 119)) (by decide +kernel))
    | 3, _ => exact va_eqt (hs (.eq (.elem (.static RX7 "FIELD_SIGNS" "[I") (.int 3)) (.int 108)) (by decide +kernel))
    | 4, _ => exact va_eqt (hs (.eq (.elem (.static RX7 "FIELD_SIGNS" "[I") (.int 4)) (.int 114)) (by decide +kernel))
    | 5, _ => exact va_eqt (hs (.eq (.elem (.static RX7 "FIELD_SIGNS" "[I") (.int 5)) (.int 116)) (by decide +kernel))
    | 6, _ => exact va_eqt (hs (.eq (.elem (.static RX7 "FIELD_SIGNS" "[I") (.int 6)) (.int 117)) (by decide +kernel))
    | k + 7, h => omega) hA
  exact ⟨t, va_Zof (hts _ (List.mem_of_getElem? (i := 914) (by decide +kernel))) (hts _ (List.mem_of_getElem? (i := 96) (by decide +kernel))) ht hA, hT⟩
set_option maxRecDepth 100000 in
set_option maxHeartbeats 4000000 in
theorem st_ex {s : State} {a : Array Value} (hs : ∀ c ∈ flatC (Jvm.Cond.and given_1 narrow_1), c.before a s = true) (hts : ∀ w ∈ lw_tbl, w.before a s = true) : ExF s.heap.size s := by
  have hA : ∀ q : Nat, q < s.heap.size → ¬ (fun q : Nat => s.heap.size ≤ q) q := fun q h h2 => absurd h (Nat.not_lt.mpr h2)
  refine ⟨vx_Zqof (hts _ (List.mem_of_getElem? (i := 1168) (by decide +kernel))) (hts _ (List.mem_of_getElem? (i := 105) (by decide +kernel))) (hs _ (by decide +kernel)) hA, vx_Zqof (hts _ (List.mem_of_getElem? (i := 1170) (by decide +kernel))) (hts _ (List.mem_of_getElem? (i := 105) (by decide +kernel))) (hs _ (by decide +kernel)) hA, fun w hw => va_Nw.of (xB_on w hw) (hts w (xt w hw)), va_Nc.of (hs _ (by decide +kernel)), ?_, ?_, ?_⟩
  · obtain ⟨q, _, _, _, h1, -⟩ := Cond.exactly_spec (hs (.exactly (.string RX0 79) "java/lang/String") (by decide +kernel))
    exact ⟨q, vk_R.of (hts _ (List.mem_of_getElem? (i := 1181) (by decide +kernel))) h1⟩
  · obtain ⟨q, _, _, _, h1, -⟩ := Cond.exactly_spec (hs (.exactly (.string RX11 385) "java/lang/String") (by decide +kernel))
    exact ⟨q, vk_R.of (hts _ (List.mem_of_getElem? (i := 1230) (by decide +kernel))) h1⟩
  · obtain ⟨q, _, _, _, h1, -⟩ := Cond.exactly_spec (hs (.exactly (.string RX11 395) "java/lang/String") (by decide +kernel))
    exact ⟨q, vk_R.of (hts _ (List.mem_of_getElem? (i := 1237) (by decide +kernel))) h1⟩
theorem arr_of {s : State} {a : Array Value} {ty : FieldType} (h : (Cond.arrayClass ty).before a s = true) (hty : ∀ C, ty ≠ .object C) : ∃ cA, ArrOfT s cA ty ∧ va_RA s cA ty := by
  obtain ⟨cA, kA, comp, h1, h2, h3⟩ := Cond.arrayClass_spec h
  refine ⟨cA, fun n z => ⟨(fun k h => by cases h), kA, h2, comp, h3⟩, ?_⟩
  cases ty with
  | object C => exact absurd rfl (hty C)
  | _ => exact h1
theorem arr_ofO {s : State} {a : Array Value} {C : String} (h : (Cond.arrayOver (.object C)).before a s = true) : ∃ cA, ArrOfT s cA (.object C) ∧ va_RA s cA (.object C) := by
  obtain ⟨comp, cA, kA, h1, h2, h3, h4, h5⟩ := Cond.arrayOver_spec h
  exact ⟨cA, fun n z => ⟨(fun k h => by cases h), kA, h3, comp, h4⟩, kA, comp, h3, h4, h1, h5⟩
theorem arr_ofA {s : State} {a : Array Value} {t : FieldType} (h : (Cond.arrayOver (.array t)).before a s = true) : ∃ cA, ArrOfT s cA (.array t) ∧ va_RA s cA (.array t) := by
  obtain ⟨comp, cA, kA, h1, h2, h3, h4, h5⟩ := arrayOver_specB h
  exact ⟨cA, fun n z => ⟨(fun k h => by cases h), kA, h3, comp, h4⟩, h5⟩
theorem TT_tbl : ∀ w ∈ TT, w ∈ lw_tbl := fun _ h => (List.mem_filter.mp h).1
set_option maxRecDepth 100000 in
set_option maxHeartbeats 4000000 in
theorem ns_tbl : ∀ q ∈ NsL, Cond.methodLinkNest q.1 q.2.1 q.2.2.1 q.2.2.2 ∈ lw_tbl := by decide +kernel
set_option maxRecDepth 100000 in
set_option maxHeartbeats 4000000 in
theorem whole_start {p : Program} {e : Env} {s : State} {m : MethodId} {below : List Frame} {meth : Method} {c : Code} (l : Launch) (hflags : l.flags = flags0) {b L : Nat} {xs : Nat → Int32} (hL : L ≤ 3072) (C0 : lw_At p s m meth c b L xs) : W p l e room_1 s m #[Value.ref b] below meth c s.heap [] 0 0 (lw_Z below #[Value.ref b] s) (entryFrame m ([Value.ref b] : List Value).toArray 8) := by
  obtain ⟨hx, hb, hr, hml, hown, hts, hX, hbl, hlocks, hgv⟩ := id C0
  have hs := flat_of_before _ hgv
  obtain ⟨t0, z0, a0⟩ := st_0 hs hts
  obtain ⟨t1, z1, a1⟩ := st_1 hs hts
  obtain ⟨t2, z2, a2⟩ := st_2 hs hts
  obtain ⟨t3, z3, a3⟩ := st_3 hs hts
  obtain ⟨c0, i0, hk0⟩ := u_known (C := RX0) (T := TX0) (N := 5) (n := 5) hts (fun w hw => TT_tbl w (inT_X0 w hw)) (hts _ (List.mem_of_getElem? (i := 126) (by decide +kernel)))
  obtain ⟨c1, i1, hk1⟩ := u_known (C := RX1) (T := TX1) (N := 9) (n := 9) hts (fun w hw => TT_tbl w (inT_X1 w hw)) (hts _ (List.mem_of_getElem? (i := 339) (by decide +kernel)))
  obtain ⟨c2, i2, hk2⟩ := u_known (C := RX2) (T := TX2) (N := 3) (n := 3) hts (fun w hw => TT_tbl w (inT_X2 w hw)) (hts _ (List.mem_of_getElem? (i := 189) (by decide +kernel)))
  obtain ⟨c3, i3, hk3⟩ := u_known (C := RX3) (T := TX3) (N := 6) (n := 6) hts (fun w hw => TT_tbl w (inT_X3 w hw)) (hts _ (List.mem_of_getElem? (i := 119) (by decide +kernel)))
  obtain ⟨c4, i4, hk4⟩ := u_known (C := RX5) (T := TX5) (N := 4) (n := 4) hts (fun w hw => TT_tbl w (inT_X5 w hw)) (hts _ (List.mem_of_getElem? (i := 317) (by decide +kernel)))
  obtain ⟨c5, i5, hk5⟩ := u_known (C := RX6) (T := TX6) (N := 3) (n := 3) hts (fun w hw => TT_tbl w (inT_X6 w hw)) (hts _ (List.mem_of_getElem? (i := 206) (by decide +kernel)))
  obtain ⟨c6, i6, hk6⟩ := u_known (C := RX7) (T := TX7) (N := 5) (n := 5) hts (fun w hw => TT_tbl w (inT_X7 w hw)) (hts _ (List.mem_of_getElem? (i := 273) (by decide +kernel)))
  obtain ⟨c7, i7, hk7⟩ := u_known (C := RX8) (T := TX8) (N := 5) (n := 5) hts (fun w hw => TT_tbl w (inT_X8 w hw)) (hts _ (List.mem_of_getElem? (i := 374) (by decide +kernel)))
  obtain ⟨c8, i8, hk8⟩ := u_known (C := RX9) (T := TX9) (N := 7) (n := 7) hts (fun w hw => TT_tbl w (inT_X9 w hw)) (hts _ (List.mem_of_getElem? (i := 229) (by decide +kernel)))
  obtain ⟨c9, i9, hk9⟩ := u_known (C := RX10) (T := TX10) (N := 6) (n := 6) hts (fun w hw => TT_tbl w (inT_X10 w hw)) (hts _ (List.mem_of_getElem? (i := 288) (by decide +kernel)))
  obtain ⟨c10, i10, hk10⟩ := u_known (C := RX11) (T := TX11) (N := 16) (n := 16) hts (fun w hw => TT_tbl w (inT_X11 w hw)) (hts _ (List.mem_of_getElem? (i := 111) (by decide +kernel)))
  obtain ⟨c11, i11, hk11⟩ := u_known (C := RX12) (T := TX12) (N := 30) (n := 30) hts (fun w hw => TT_tbl w (inT_X12 w hw)) (hts _ (List.mem_of_getElem? (i := 1240) (by decide +kernel)))
  obtain ⟨y0, hy0⟩ := arr_of (ty := .int) (hts _ (List.mem_of_getElem? (i := 156) (by decide +kernel))) (fun C h => by cases h)
  obtain ⟨y1, hy1⟩ := arr_of (ty := .long) (hts _ (List.mem_of_getElem? (i := 312) (by decide +kernel))) (fun C h => by cases h)
  obtain ⟨y2, hy2⟩ := arr_of (ty := .boolean) (hts _ (List.mem_of_getElem? (i := 313) (by decide +kernel))) (fun C h => by cases h)
  obtain ⟨y3, hy3⟩ := arr_ofO (C := RX0) (hts _ (List.mem_of_getElem? (i := 125) (by decide +kernel)))
  obtain ⟨y4, hy4⟩ := arr_ofO (C := RX8) (hts _ (List.mem_of_getElem? (i := 227) (by decide +kernel)))
  obtain ⟨y5, hy5⟩ := arr_ofA (t := .int) (hts _ (List.mem_of_getElem? (i := 212) (by decide +kernel)))
  obtain ⟨cA, hcA⟩ : ∃ cA : Nat → ClassId, cA = fun k => if k = 0 then y0 else if k = 1 then y1 else if k = 2 then y2 else if k = 3 then y3 else if k = 4 then y4 else y5 := ⟨_, rfl⟩
  obtain ⟨D, hD⟩ : ∃ D : va_G, D = (fun k => if k = 0 then c0 else if k = 1 then c1 else if k = 2 then c2 else if k = 3 then c3 else if k = 4 then c4 else if k = 5 then c5 else if k = 6 then c6 else if k = 7 then c7 else if k = 8 then c8 else if k = 9 then c9 else if k = 10 then c10 else c11, fun k => if k = 0 then i0 else if k = 1 then i1 else if k = 2 then i2 else if k = 3 then i3 else if k = 4 then i4 else if k = 5 then i5 else if k = 6 then i6 else if k = 7 then i7 else if k = 8 then i8 else if k = 9 then i9 else if k = 10 then i10 else i11) := ⟨_, rfl⟩
  obtain ⟨ad, had⟩ : ∃ ad : Nat → Nat, ad = fun k => if k = BB then t0 else if k = BB + 1 then t1 else if k = BB + 2 then t2 else if k = BB + 3 then t3 else b := ⟨_, rfl⟩
  have hK : va_K D clz (tyz cA) s := by
    subst hD
    subst hcA
    refine ⟨fun k q hq => ?_, fun k q hq => ?_⟩
    · match k, hq with
      | 0, hq => cases hq; exact hk0
      | 1, hq => cases hq; exact hk1
      | 2, hq => cases hq; exact hk2
      | 3, hq => cases hq; exact hk3
      | 4, hq => cases hq; exact hk4
      | 5, hq => cases hq; exact hk5
      | 6, hq => cases hq; exact hk6
      | 7, hq => cases hq; exact hk7
      | 8, hq => cases hq; exact hk8
      | 9, hq => cases hq; exact hk9
      | 10, hq => cases hq; exact hk10
      | 11, hq => cases hq; exact hk11
      | k + 12, hq => simp [clz] at hq
    · match k, hq with
      | 0, hq => cases hq; exact hy0
      | 1, hq => cases hq; exact hy1
      | 2, hq => cases hq; exact hy2
      | 3, hq => cases hq; exact hy3
      | 4, hq => cases hq; exact hy4
      | 5, hq => cases hq; exact hy5
      | k + 6, hq => simp [tyz] at hq
  have hSt : StF s.heap.size ad s := by
    intro j hj
    subst had
    match j, hj with
    | 0, _ => exact ⟨z0, a0⟩
    | 1, _ => exact ⟨z1, a1⟩
    | 2, _ => exact ⟨z2, a2⟩
    | 3, _ => exact ⟨z3, a3⟩
  have hNs : NsF s := ⟨fun q hq => va_Nw.of rfl (hts _ (ns_tbl q hq)), va_AO.of (hts _ (List.mem_of_getElem? (i := 125) (by decide +kernel))), va_AO.of (hts _ (List.mem_of_getElem? (i := 227) (by decide +kernel))), va_AOA.of (hts _ (List.mem_of_getElem? (i := 212) (by decide +kernel)))⟩
  have hSc : ScZ L xs (p, l, e, room_1, s, m, #[Value.ref b], below, meth, c, D, cA, ad, 0, 203, s.heap.size, lw_Z below #[Value.ref b] s) := by
    have e4 : ad (BB + 4) = b := by subst had; rfl
    show va_X (ad (BB + 4)) L xs s s.heap ∧ ad (BB + 4) < s.heap.size ∧ ad (BB + 4) < s.heap.size
    rw [e4]
    exact ⟨hX, hbl, hbl⟩
  have hEx : ExZ (p, l, e, room_1, s, m, #[Value.ref b], below, meth, c, D, cA, ad, 0, 203, s.heap.size, lw_Z below #[Value.ref b] s) := by
    refine ⟨?_, st_ex hs hts⟩
    show l.stackTraces = false
    unfold Launch.stackTraces
    rw [hflags]
    decide +kernel
  have k := s_L_law (Z := (p, l, e, room_1, s, m, #[Value.ref b], below, meth, c, D, cA, ad, 0, 203, s.heap.size, lw_Z below #[Value.ref b] s)) hL
    ⟨hx, hb, hml, hown, fun w hw => hts w (TT_tbl w hw), hK, ⟨hSt, hNs⟩, Nat.le_refl _, hlocks, Nat.zero_le _, by show 406 ≤ 2048; decide, by show 64 * 406 ≤ 84000; decide, by show 203 - 0 + 512 ≤ 601024; decide, by show 1744 * (203 - 0) + 8 * 512 ≤ 7293034; decide⟩
    (N2 := 203) (n := 0) ⟨Nat.le_refl _, by decide⟩ hEx hSc (b := b) ⟨rfl, rfl, rfl, hr, rfl, hb⟩ (law_pure hL)
  have hl := lv_entry ([.ref b]) (n := 8) (Nat.le_of_ble_eq_true rfl)
  rw [lg_entry_eq]
  generalize (lg_sl ([.ref b]) ++ List.replicate (8 - (lg_sl ([.ref b])).length) Slot.unset).toArray = ls at hl ⊢
  have e4 : ad (BB + 4) = b := by subst had; rfl
  have hl2 : lv_has ls c.maxLocals (lmap ad [(0, .ref (BB + 4))]) := by
    rw [hml]
    show lv_has ls 8 [(0, .ref (ad (BB + 4)))]
    rw [e4]
    exact hl
  have hRep : Rep D cA s.heap.size ad 0 (fun _ => none) s.heap := ⟨fun i => ⟨fun h => (nomatch h), fun h => absurd h (Nat.not_lt_zero i)⟩, fun i ob h => (nomatch h), by decide, fun k q h => by simp [wl] at h, ⟨fun i j x y h => by simp [wl] at h, fun k q h => by simp [wl] at h⟩⟩
  exact k ad s.heap [] ls (fun _ _ => rfl) (Nat.le_refl 0) (Nat.zero_le _) ⟨Or.inr (Nat.le_add_right _ _), trivial⟩ trivial hRep va_S.rf hl2
