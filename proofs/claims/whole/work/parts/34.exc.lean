/-! the four methods that throw or catch -/
def ExF (z0 : Nat) (U : State) : Prop := vx_Zq Bundle.tN "UNASSIGNED_STACK" Bundle.steD (fun q => z0 ≤ q) U U.heap ∧ vx_Zq Bundle.tN "SUPPRESSED_SENTINEL" Bundle.listD (fun q => z0 ≤ q) U U.heap ∧ (∀ w ∈ xB, va_Nw w U) ∧ va_Nc xISE xIAE U ∧ (∃ sa, vk_R RX0 79 "this gear fails" sa U) ∧ (∃ sa, vk_R RX11 385 "no such shelf" sa U) ∧ (∃ sa, vk_R RX11 395 "no row, or no such place in it" sa U)
theorem xB_cases {P : Cond → Prop} (h1 : ∀ C D, P (.castable C D)) (h2 : ∀ y, P (.declares y)) : ∀ w ∈ xB, P w := by
  intro w hw
  simp only [xB, List.mem_cons, List.not_mem_nil, or_false] at hw
  rcases hw with rfl | rfl | rfl | rfl | rfl | rfl | rfl | rfl <;> first | exact h1 _ _ | exact h2 _
theorem xB_warm {s U : State} (hW : s.WarmedH U.vm) (h : ∀ w ∈ xB, va_Nw w s) : ∀ w ∈ xB, va_Nw w U := fun w hw =>
  xB_cases (P := fun w => va_Nw w s → va_Nw w U) (fun _ _ => va_Nw.warmC hW) (fun _ => va_Nw.warmD hW) w hw (h w hw)
theorem xB_on : ∀ w ∈ xB, w.onTables = true := xB_cases (P := fun w => w.onTables = true) (fun _ _ => rfl) (fun _ => rfl)
theorem ExF.go {z0 : Nat} {s U : State} {H : Heap} {locs : List Loc} (h : ExF z0 s) (hS : va_S (fun q => z0 ≤ q) s.heap H locs) (hU : U.heap = H) (hW : s.WarmedH U.vm) : ExF z0 U := by
  obtain ⟨h1, h2, h3, h4, ⟨a, h5⟩, ⟨b, h6⟩, c, h7⟩ := h
  refine ⟨?_, ?_, xB_warm hW h3, h4.moved hW.alike, ⟨a, h5.warm hW⟩, ⟨b, h6.warm hW⟩, c, h7.warm hW⟩
  · rw [hU]
    exact (h1.moved hW.alike).kept hS.2.1
  · rw [hU]
    exact (h2.moved hW.alike).kept hS.2.1
theorem ExF.same {z0 : Nat} {U V : State} (h : ExF z0 U) (hv : U.vm = V.vm) (hh : U.heap = V.heap) : ExF z0 V := by
  obtain ⟨h1, h2, h3, h4, ⟨a, h5⟩, ⟨b, h6⟩, c, h7⟩ := h
  have ha : U.vm.Alike V.vm := by rw [hv]; exact Vm.Alike.refl _
  exact ⟨hh ▸ h1.moved ha, hh ▸ h2.moved ha, fun w hw => (h3 w hw).same (xB_on w hw) hv, h4.moved ha, ⟨a, h5.same hv.symm⟩, ⟨b, h6.same hv.symm⟩, c, h7.same hv.symm⟩
def ExZ : Zc → Prop
  | (_, l, _, _, s, _, _, _, _, _, _, _, _, _, _, z0, _) => l.stackTraces = false ∧ ExF z0 s
def TabZ (t : List ExceptionTableEntry) : Zc → Prop
  | (_, _, _, _, _, _, _, _, _, c, _, _, _, _, _, _, _) => c.exceptionTable.toList = t
def PcX (D : va_G) (cA : Nat → ClassId) (z0 : Nat) (ad0 : Nat → Nat) (args : List Value) (n0 : Nat) (h : Hp) : Array Value → State → Prop := fun v U => PcE D cA z0 ad0 args n0 h v U ∧ ExF z0 U
theorem PcX_blind {D : va_G} {cA : Nat → ClassId} {z0 : Nat} {as : List Value} {ad : Nat → Nat} {n : Nat} {h : Hp} : FrameBlind (PcX D cA z0 ad as n h) := fun a U g mk q => ⟨PcE_blind a U g mk q.1, q.2.same (V := U.calling g mk a) rfl rfl⟩
/-- a call that answers (.inl) or throws an exception of a class (.inr), and leaves the heap as it was -/
def QcX (D : va_G) (cA : Nat → ClassId) (z0 : Nat) (ad0 : Nat → Nat) (n0 : Nat) (h : Hp) : Option Value ⊕ String → Array Value → State → Outcome → State → Prop
  | .inl r => QcE D cA z0 ad0 n0 r n0 h
  | .inr _ => fun _ _ _ _ => False
def XcX (D : va_G) (cA : Nat → ClassId) (z0 : Nat) (ad0 : Nat → Nat) (n0 : Nat) (h : Hp) : Option Value ⊕ String → String → State → State → Prop
  | .inl _ => fun _ _ _ => False
  | .inr E => fun E' st t => E' = E ∧ Rep D cA z0 ad0 n0 h t.heap ∧ va_F (fun q => z0 ≤ q) st t
def rmX (d : Nat) : Room := { frames := d, cells := 1, slots := 8, locals := 64 * d }
def EvX (d : Nat) (y : MethodName) (b : ByteArray) (maxL : Nat) (ret : Option FieldType) (args : List Value) (n : Nat) (h : Hp) (o : Option Value ⊕ String) : Prop :=
  ∀ (l : Launch) (D : va_G) (cA : Nat → ClassId) (z0 : Nat) (ad : Nat → Nat), l.stackTraces = false → vx_Met l y (.code y b maxL ret :: TT) (rmX d) (PcX D cA z0 ad args n h) (QcX D cA z0 ad n h o) (XcX D cA z0 ad n h o) 1 8 (fun q => z0 ≤ q)
def EvY (d : Nat) (y : MethodName) (b : ByteArray) (maxL : Nat) (ret : Option FieldType) (hh : List (Nat × Nat × Nat × Nat)) (args : List Value) (n : Nat) (h : Hp) (r : Option Value) (h' : Hp) : Prop :=
  ∀ (l : Launch) (D : va_G) (cA : Nat → ClassId) (z0 : Nat) (ad : Nat → Nat), l.stackTraces = false → Met l y (.codeWith y b maxL ret hh :: TT) (rmX d) (PcX D cA z0 ad args n h) (QcE D cA z0 ad n r n h') 1 8 (fun q => z0 ≤ q)
def FX (ret : Option FieldType) (o : Option Value ⊕ String) (n' : Nat) (h' : Hp) : Zc → Prop
  | (_, _, _, _, s, _, args, below, meth, _, D, cA, ad0, n0, _, z0, F) => F = vx_MQ below (QcX D cA z0 ad0 n0 h' o) (XcX D cA z0 ad0 n0 h' o) args s 1 8 (fun q => z0 ≤ q) ∧ meth.sig.returnType = ret ∧ n0 = n'
def FY (ret : Option FieldType) (r : Option Value) (n' : Nat) (h' : Hp) : Zc → Prop
  | (_, _, _, _, s, _, args, below, meth, _, D, cA, ad0, n0, _, z0, F) => F = MQ below (QcE D cA z0 ad0 n0 r n0 h') args s 1 8 (fun q => z0 ≤ q) ∧ meth.sig.returnType = ret ∧ n0 = n'
theorem EvX_of {d : Nat} {y : MethodName} {b : ByteArray} {maxL : Nat} {ret : Option FieldType} {as : List Value} {n : Nat} {h : Hp} {o : Option Value ⊕ String} (own : String) (hown : y.cls = own) (hy : plainName y.cls = true) (hlen : (lg_sl as).length ≤ maxL)
    (body : ∀ Z : Zc, Fx b own maxL d 1 Z → FX ret o n h Z → ExZ Z → (∀ e, TabZ e Z → e = []) → R Z 0 (lv_args 0 as) [] n h 0) : EvX d y b maxL ret as n h o := by
  subst hown
  intro l D cA z0 ad hl0
  refine vx_ofW (cc := b) (maxL := maxL) (ret := ret) hy rfl ?_
  intro p e s m args below meth c s₁ B hml htab hv
  obtain ⟨⟨rfl, hz, hso, hR, hK, hSt, hNs⟩, hEx⟩ := hv
  have hts : ∀ w ∈ TT, w.before _ s = true := fun w hw => atoms_spec (ws := .code y b maxL ret :: TT) B.pre w (List.mem_cons_of_mem _ hw)
  have hown : s.vm.findClass y.cls = some m.cls := findClass_of_methodNamed B.named
  have k := body (p, l, e, rmX d, s, m, (as.map (cv ad)).toArray, below, meth, c, D, cA, ad, n, n, z0, vx_MQ below (QcX D cA z0 ad n h o) (XcX D cA z0 ad n h o) (as.map (cv ad)).toArray s 1 8 (fun q => z0 ≤ q))
    ⟨B.exec, B.bytes, hml, hown, hts, hK, ⟨hSt, hNs⟩, hz, B.notSynchronized, Nat.le_refl _, Nat.le_refl _, Nat.le_refl _, by show n - n + 1 ≤ 1; omega, by show 1744 * (n - n) + 8 * 1 ≤ 8; omega⟩ ⟨rfl, B.returns, rfl⟩ ⟨hl0, hEx⟩ (fun e he => by
      cases e with
      | nil => rfl
      | cons a t => exact absurd (htab a (by rw [show c.exceptionTable.toList = a :: t from he]; exact List.mem_cons_self)) id)
  have hl := lv_entry (as.map (cv ad)) (n := maxL) (by rw [lg_sl_len]; exact hlen)
  rw [lg_entry_eq]
  rw [lv_args_map] at hl
  have k2 := k ad s.heap [] _ (fun _ _ => rfl) (Nat.le_refl n) (Nat.le_refl n) (lv_args_ok 0 hso) trivial hR va_S.rf (by rw [hml]; exact hl)
  have e1 : (n - n) + 0 = 0 := by omega
  have e2 : 1744 * (n - n) + 8 * 0 = 0 := by omega
  rw [e1, e2] at k2
  exact k2
theorem EvY_of {d : Nat} {y : MethodName} {b : ByteArray} {maxL : Nat} {ret : Option FieldType} {hh : List (Nat × Nat × Nat × Nat)} {as : List Value} {n : Nat} {h h' : Hp} {r : Option Value} (own : String) (hown : y.cls = own) (hy : plainName y.cls = true) (hlen : (lg_sl as).length ≤ maxL)
    (body : ∀ Z : Zc, Fx b own maxL d 1 Z → FY ret r n h' Z → ExZ Z → TabZ (tableOf hh) Z → R Z 0 (lv_args 0 as) [] n h 0) : EvY d y b maxL ret hh as n h r h' := by
  subst hown
  intro l D cA z0 ad hl0
  refine va_MetW (cc := b) (maxL := maxL) (ret := ret) hy rfl ?_
  intro p e s m args below meth c s₁ B hml hv
  obtain ⟨⟨rfl, hz, hso, hR, hK, hSt, hNs⟩, hEx⟩ := hv
  have hts0 := atoms_spec (ws := .codeWith y b maxL ret hh :: TT) B.pre
  have hts : ∀ w ∈ TT, w.before _ s = true := fun w hw => hts0 w (List.mem_cons_of_mem _ hw)
  have hown : s.vm.findClass y.cls = some m.cls := findClass_of_methodNamed B.named
  have htab := vx_table (x := y) B (hts0 _ List.mem_cons_self)
  have k := body (p, l, e, rmX d, s, m, (as.map (cv ad)).toArray, below, meth, c, D, cA, ad, n, n, z0, MQ below (QcE D cA z0 ad n r n h') (as.map (cv ad)).toArray s 1 8 (fun q => z0 ≤ q))
    ⟨B.exec, B.bytes, hml, hown, hts, hK, ⟨hSt, hNs⟩, hz, B.notSynchronized, Nat.le_refl _, Nat.le_refl _, Nat.le_refl _, by show n - n + 1 ≤ 1; omega, by show 1744 * (n - n) + 8 * 1 ≤ 8; omega⟩ ⟨rfl, B.returns, rfl⟩ ⟨hl0, hEx⟩ htab
  have hl := lv_entry (as.map (cv ad)) (n := maxL) (by rw [lg_sl_len]; exact hlen)
  rw [lg_entry_eq]
  rw [lv_args_map] at hl
  have k2 := k ad s.heap [] _ (fun _ _ => rfl) (Nat.le_refl n) (Nat.le_refl n) (lv_args_ok 0 hso) trivial hR va_S.rf (by rw [hml]; exact hl)
  have e1 : (n - n) + 0 = 0 := by omega
  have e2 : 1744 * (n - n) + 8 * 0 = 0 := by omega
  rw [e1, e2] at k2
  exact k2
section XR
variable {Z : Zc} {cc : ByteArray} {own : String} {nL d X : Nat}
theorem rx_ret (hZ : Fx cc own nL d X Z) {pc n : Nat} {ls : List (Nat × Value)} {h : Hp} (hF : FX none (.inl none) n h Z) (hd : decode cc pc = .ok (.return_, 1)) : R Z pc ls [] n h 0 := by
  obtain ⟨p, l, e, Rm, s, m, args, below, meth, c, D, cA, ad0, n0, N1, z0, F⟩ := Z
  obtain ⟨hx, hb, hml, hown, hts, hK, hSt, hz, hlk, hN, hd1, hd2, hc1, hs1⟩ := hZ
  obtain ⟨rfl, hr, rfl⟩ := hF
  intro ad H locs la ha h1 h2 hl0 hs0 hR hS hl
  refine W.widen (k := 1) (n := 8) (by omega) (by omega) (vx_ret ?_)
  exact W.vret hx hb hr (fun t ht hW => ⟨⟨ad, ha, rfl, fun v q => (nomatch q), by rw [ht]; exact hR, h1⟩, hS.F ht⟩) hS.2.2 hd hlk
theorem rx_lret (hZ : Fx cc own nL d X Z) {pc n : Nat} {ls : List (Nat × Value)} {h : Hp} {v : Int64} (hF : FX (some .long) (.inl (some (.long v))) n h Z) (hd : decode cc pc = .ok (.lreturn, 1)) : R Z pc ls [.long v] n h 0 := by
  obtain ⟨p, l, e, Rm, s, m, args, below, meth, c, D, cA, ad0, n0, N1, z0, F⟩ := Z
  obtain ⟨hx, hb, hml, hown, hts, hK, hSt, hz, hlk, hN, hd1, hd2, hc1, hs1⟩ := hZ
  obtain ⟨rfl, hr, rfl⟩ := hF
  intro ad H locs la ha h1 h2 hl0 hs0 hR hS hl
  refine W.widen (k := 1) (n := 8) (by omega) (by omega) (vx_ret ?_)
  exact W.lret hx hb hr (fun t ht hW => ⟨⟨ad, ha, rfl, fun w q => by cases q; trivial, by rw [ht]; exact hR, h1⟩, hS.F ht⟩) hS.2.2 hd hlk
theorem ry_iret (hZ : Fx cc own nL d X Z) {pc n x : Nat} {ls : List (Nat × Value)} {h : Hp} {v : Int32} (hF : FY (some .int) (some (.int v)) n h Z) (hx1 : x ≤ 1) (hd : decode cc pc = .ok (.ireturn, 1)) : R Z pc ls [.int v] n h x := by
  obtain ⟨p, l, e, Rm, s, m, args, below, meth, c, D, cA, ad0, n0, N1, z0, F⟩ := Z
  obtain ⟨hx, hb, hml, hown, hts, hK, hSt, hz, hlk, hN, hd1, hd2, hc1, hs1⟩ := hZ
  obtain ⟨rfl, hr, rfl⟩ := hF
  intro ad H locs la ha h1 h2 hl0 hs0 hR hS hl
  refine W.widen (k := 1) (n := 8) (by omega) (by omega) ?_
  exact W.iret hx hb hr (fun t ht hW => ⟨⟨ad, ha, rfl, fun w q => by cases q; trivial, by rw [ht]; exact hR, h1⟩, hS.F ht⟩) hS.2.2 hd hlk
theorem Rep.old {D : va_G} {cA : Nat → ClassId} {z0 : Nat} {ad : Nat → Nat} {n : Nat} {h : Hp} {H H1 : Heap} (r : Rep D cA z0 ad n h H) (hk : ∀ q : Nat, q < H.size → H1[q]? = H[q]?) : Rep D cA z0 ad n h H1 :=
  ⟨r.1, r.2.1, r.2.2.1, r.2.2.2.1.kept (fun k q hq => hk q.1 (r.2.2.2.1 k q hq).lt), r.2.2.2.2⟩
theorem rx_throwS (hZ : Fx cc own nL d X Z) (hE : ExZ Z) (hT : ∀ e, TabZ e Z → e = []) {pc n : Nat} {ls : List (Nat × Value)} {st : List Value} {h : Hp} {ret : Option FieldType} {cls text : String} {ik is ic : Nat} (hF : FX ret (.inr cls) n h Z)
    (hcls : Bundle.fit cls = true) (hnm : ∀ n ∈ xnm, Bundle.fit n = true) (w1 : Cond.classLink own ik cls ∈ TT) (w2 : Cond.initialized cls ∈ TT) (hstr : ∀ z0 U, ExF z0 U → ∃ sa, vk_R own is text sa U)
    (hg : ∀ w ∈ (vx_atS own ic cls xnm).filter goodWord, w ∈ lw_tbl) (hng : ∀ w ∈ (vx_atS own ic cls xnm).filter (fun w => !goodWord w), w ∈ xB) (hot : ∀ w ∈ Cond.classLink own ik cls :: Cond.initialized cls :: vx_atS own ic cls xnm, vx_ot w = true)
    (d0 : decode cc pc = .ok (.new ik, 3)) (d3 : decode cc (pc + 3) = .ok (.dup, 1)) (d4 : decode cc (pc + 4) = .ok (.ldc is, 2)) (d6 : decode cc (pc + 6) = .ok (.invokespecial ic, 3)) (d9 : decode cc (pc + 9) = .ok (.athrow, 1)) (hd6 : 6 ≤ d) (hX : 1 ≤ X) (hcat : (st.map fun v => v.category).sum ≤ 8) : R Z pc ls st n h 0 := by
  obtain ⟨p, l, e, Rm, s, m, args, below, meth, c, D, cA, ad0, n0, N1, z0, F⟩ := Z
  obtain ⟨hx, hb, hml, hown, hts, hK, hSt, hz, hlk, hN, hd1, hd2, hc1, hs1⟩ := hZ
  obtain ⟨rfl, hr, rfl⟩ := hF
  obtain ⟨hE1, hE2⟩ := hE
  intro ad H locs la ha h1 h2 hl0 hs0 hR hS hl
  have hcat := cat_le5 (ad := ad) hcat
  obtain ⟨sa, hsa⟩ := hstr z0 s hE2
  have ht0 := hT _ rfl
  refine vx_throwS hx hb hE1 (names := xnm) hown hcls hnm (hts _ w1) (hts _ w2) hsa ?_ hot hE2.1 hE2.2.1 hS hl.1 d0 d3 d4 d6 d9 ?_ ?_ ?_ ?_ ?_ hlk ?_ hS.2.2 ?_ ?_
  · exact vx_hat (B := xB) (fun w hw => hts w (List.mem_filter.mpr ⟨hg w hw, (List.mem_filter.mp hw).2⟩)) hng (fun w hw => va_Nw.use (xB_on w hw) (hE2.2.2.1 w hw))
  · intro x hx
    rw [ht0] at hx
    cases hx
  · show 2 + 3 < Rm.frames
    omega
  · show _ + (13 * (2 + 1) + 43) ≤ Rm.locals
    omega
  · omega
  · omega
  · intro t hvm hsz hk
    refine ⟨rfl, ?_, ⟨Nat.le_trans hS.1 hsz, fun q g1 g2 => by rw [hk q (Nat.lt_of_lt_of_le g1 hS.1)]; exact hS.2.1 q g1 g2⟩⟩
    have hao : ∀ i, (i < n0 ∨ BB ≤ i) → ad0 i = ad i := fun i hi => (ha i hi).symm
    have hR2 := hR.old hk
    refine ⟨hR2.1, hR2.2.1, hR2.2.2.1, ?_, ?_⟩
    · rw [wl_ext hao hR.2.1]; exact hR2.2.2.2.1
    · rw [wl_ext hao hR.2.1]; exact hR2.2.2.2.2
  · omega
  · omega
theorem rx_throwSW (hZ : Fx cc own nL d X Z) (hE : ExZ Z) (hT : ∀ e, TabZ e Z → e = []) {pc n : Nat} {ls : List (Nat × Value)} {st : List Value} {h : Hp} {ret : Option FieldType} {cls text : String} {ik is ic : Nat} (hF : FX ret (.inr cls) n h Z)
    (hcls : Bundle.fit cls = true) (hnm : ∀ n ∈ xnm, Bundle.fit n = true) (w1 : Cond.classLink own ik cls ∈ TT) (w2 : Cond.initialized cls ∈ TT) (hstr : ∀ z0 U, ExF z0 U → ∃ sa, vk_R own is text sa U)
    (hg : ∀ w ∈ (vx_atS own ic cls xnm).filter goodWord, w ∈ lw_tbl) (hng : ∀ w ∈ (vx_atS own ic cls xnm).filter (fun w => !goodWord w), w ∈ xB) (hot : ∀ w ∈ Cond.classLink own ik cls :: Cond.initialized cls :: vx_atS own ic cls xnm, vx_ot w = true)
    (d0 : decode cc pc = .ok (.new ik, 3)) (d3 : decode cc (pc + 3) = .ok (.dup, 1)) (d4 : decode cc (pc + 4) = .ok (.ldc_w is, 3)) (d7 : decode cc (pc + 7) = .ok (.invokespecial ic, 3)) (d10 : decode cc (pc + 10) = .ok (.athrow, 1)) (hd6 : 6 ≤ d) (hX : 1 ≤ X) (hcat : (st.map fun v => v.category).sum ≤ 8) : R Z pc ls st n h 0 := by
  obtain ⟨p, l, e, Rm, s, m, args, below, meth, c, D, cA, ad0, n0, N1, z0, F⟩ := Z
  obtain ⟨hx, hb, hml, hown, hts, hK, hSt, hz, hlk, hN, hd1, hd2, hc1, hs1⟩ := hZ
  obtain ⟨rfl, hr, rfl⟩ := hF
  obtain ⟨hE1, hE2⟩ := hE
  intro ad H locs la ha h1 h2 hl0 hs0 hR hS hl
  have hcat := cat_le5 (ad := ad) hcat
  obtain ⟨sa, hsa⟩ := hstr z0 s hE2
  have ht0 := hT _ rfl
  refine vx_throwSW hx hb hE1 (names := xnm) hown hcls hnm (hts _ w1) (hts _ w2) hsa ?_ hot hE2.1 hE2.2.1 hS hl.1 d0 d3 d4 d7 d10 ?_ ?_ ?_ ?_ ?_ hlk ?_ hS.2.2 ?_ ?_
  · exact vx_hat (B := xB) (fun w hw => hts w (List.mem_filter.mpr ⟨hg w hw, (List.mem_filter.mp hw).2⟩)) hng (fun w hw => va_Nw.use (xB_on w hw) (hE2.2.2.1 w hw))
  · intro x hx
    rw [ht0] at hx
    cases hx
  · show 2 + 3 < Rm.frames
    omega
  · show _ + (13 * (2 + 1) + 43) ≤ Rm.locals
    omega
  · omega
  · omega
  · intro t hvm hsz hk
    refine ⟨rfl, ?_, ⟨Nat.le_trans hS.1 hsz, fun q g1 g2 => by rw [hk q (Nat.lt_of_lt_of_le g1 hS.1)]; exact hS.2.1 q g1 g2⟩⟩
    have hao : ∀ i, (i < n0 ∨ BB ≤ i) → ad0 i = ad i := fun i hi => (ha i hi).symm
    have hR2 := hR.old hk
    refine ⟨hR2.1, hR2.2.1, hR2.2.2.1, ?_, ?_⟩
    · rw [wl_ext hao hR.2.1]; exact hR2.2.2.2.1
    · rw [wl_ext hao hR.2.1]; exact hR2.2.2.2.2
  · omega
  · omega
end XR
