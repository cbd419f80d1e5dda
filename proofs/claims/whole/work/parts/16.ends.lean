/-! returns, and a method's contract out of its walk -/
section RET
variable {Z : Zc} {cc : ByteArray} {own : String} {nL d X : Nat}
theorem bz_narrow {v : Int32} (h : bz v = some ()) : narrow .boolean (.int v) = .int v := by
  unfold bz at h
  split at h
  · rename_i q
    rcases q with rfl | rfl <;> decide
  · cases h
theorem r_ret (hZ : Fx cc own nL d X Z) {pc n : Nat} {ls : List (Nat × Value)} {h : Hp} (hF : FE none none n h Z) (hd : decode cc pc = .ok (.return_, 1)) : R Z pc ls [] n h 0 := by
  obtain ⟨p, l, e, Rm, s, m, args, below, meth, c, D, cA, ad0, n0, N1, z0, F⟩ := Z
  obtain ⟨hx, hb, hml, hown, hts, hK, hSt, hz, hlk, hN, hd1, hd2, hc1, hs1⟩ := hZ
  obtain ⟨rfl, hr⟩ := hF
  intro ad H locs la ha h1 h2 hl0 hs0 hR hS hl
  exact W.vret hx hb hr (fun t ht hW => ⟨⟨ad, ha, rfl, fun v q => (nomatch q), by rw [ht]; exact hR, h1⟩, hS.F ht⟩) hS.2.2 hd hlk
theorem r_iret (hZ : Fx cc own nL d X Z) {pc n : Nat} {ls : List (Nat × Value)} {h : Hp} {v : Int32} (hF : FE (some .int) (some (.int v)) n h Z) (hd : decode cc pc = .ok (.ireturn, 1)) : R Z pc ls [.int v] n h 0 := by
  obtain ⟨p, l, e, Rm, s, m, args, below, meth, c, D, cA, ad0, n0, N1, z0, F⟩ := Z
  obtain ⟨hx, hb, hml, hown, hts, hK, hSt, hz, hlk, hN, hd1, hd2, hc1, hs1⟩ := hZ
  obtain ⟨rfl, hr⟩ := hF
  intro ad H locs la ha h1 h2 hl0 hs0 hR hS hl
  exact W.iret hx hb hr (fun t ht hW => ⟨⟨ad, ha, rfl, fun w q => by cases q; trivial, by rw [ht]; exact hR, h1⟩, hS.F ht⟩) hS.2.2 hd hlk
theorem r_zret (hZ : Fx cc own nL d X Z) {pc n : Nat} {ls : List (Nat × Value)} {h : Hp} {v : Int32} (hF : FE (some .boolean) (some (.int v)) n h Z) (hv : bz v = some ()) (hd : decode cc pc = .ok (.ireturn, 1)) : R Z pc ls [.int v] n h 0 := by
  obtain ⟨p, l, e, Rm, s, m, args, below, meth, c, D, cA, ad0, n0, N1, z0, F⟩ := Z
  obtain ⟨hx, hb, hml, hown, hts, hK, hSt, hz, hlk, hN, hd1, hd2, hc1, hs1⟩ := hZ
  obtain ⟨rfl, hr⟩ := hF
  intro ad H locs la ha h1 h2 hl0 hs0 hR hS hl
  exact W.zret hx hb hr (bz_narrow hv) (fun t ht hW => ⟨⟨ad, ha, rfl, fun w q => by cases q; trivial, by rw [ht]; exact hR, h1⟩, hS.F ht⟩) hS.2.2 hd hlk
theorem r_lret (hZ : Fx cc own nL d X Z) {pc n : Nat} {ls : List (Nat × Value)} {h : Hp} {v : Int64} (hF : FE (some .long) (some (.long v)) n h Z) (hd : decode cc pc = .ok (.lreturn, 1)) : R Z pc ls [.long v] n h 0 := by
  obtain ⟨p, l, e, Rm, s, m, args, below, meth, c, D, cA, ad0, n0, N1, z0, F⟩ := Z
  obtain ⟨hx, hb, hml, hown, hts, hK, hSt, hz, hlk, hN, hd1, hd2, hc1, hs1⟩ := hZ
  obtain ⟨rfl, hr⟩ := hF
  intro ad H locs la ha h1 h2 hl0 hs0 hR hS hl
  exact W.lret hx hb hr (fun t ht hW => ⟨⟨ad, ha, rfl, fun w q => by cases q; trivial, by rw [ht]; exact hR, h1⟩, hS.F ht⟩) hS.2.2 hd hlk
end RET
theorem lv_args_map (ad : Nat → Nat) : ∀ (i : Nat) (as : List Value), lv_args i (as.map (cv ad)) = lmap ad (lv_args i as)
  | _, [] => rfl
  | i, v :: as => by
    simp only [List.map_cons, lv_args, lmap, cv_cat]
    rw [lv_args_map ad _ as]
    rfl
theorem lv_args_ok {n : Nat} : ∀ (i : Nat) {as : List Value}, sok n as → lok n (lv_args i as)
  | _, [], _ => trivial
  | _, _ :: _, h => ⟨h.1, lv_args_ok _ h.2⟩
theorem lg_sl_len (ad : Nat → Nat) : ∀ (as : List Value), (lg_sl (as.map (cv ad))).length = (lg_sl as).length
  | [] => rfl
  | v :: as => by
    have ih := lg_sl_len ad as
    cases v <;> simp_all [lg_sl, cv, Value.category]
theorem Ev_of {d : Nat} {y : MethodName} {b : ByteArray} {maxL : Nat} {ret : Option FieldType} {as : List Value} {n n' : Nat} {h h' : Hp} {r : Option Value} (own : String) (hown : y.cls = own) (hy : plainName y.cls = true) (hlen : (lg_sl as).length ≤ maxL) (hnn : n ≤ n') (hB : n' = n ∨ n' ≤ BB)
    (body : ∀ Z : Zc, Fx b own maxL d 0 Z → FE ret r n' h' Z → (n' ≤ BB → NX n' Z) → (y.name = "<init>" → Ini Z) → R Z 0 (lv_args 0 as) [] n h 0) : Ev d y b maxL ret as n h r n' h' := by
  subst hown
  intro l D cA z0 ad
  refine Met.ofW (cc := b) (maxL := maxL) (ret := ret) hy rfl ?_
  intro p e s m args below meth c s₁ B hml hv
  obtain ⟨rfl, hz, hso, hR, hK, hSt, hNs⟩ := hv
  have hts : ∀ w ∈ TT, w.before _ s = true := fun w hw => atoms_spec (ws := .code y b maxL ret :: TT) B.pre w (List.mem_cons_of_mem _ hw)
  have hown : s.vm.findClass y.cls = some m.cls := findClass_of_methodNamed B.named
  have hnm : meth.name = y.name := (name_of_methodNamed B.named B.method).1
  have k := body (p, l, e, rmE d n n', s, m, (as.map (cv ad)).toArray, below, meth, c, D, cA, ad, n, n', z0, MQ below (QcE D cA z0 ad n r n' h') (as.map (cv ad)).toArray s (n' - n) (1744 * (n' - n)) (fun q => z0 ≤ q))
    ⟨B.exec, B.bytes, hml, hown, hts, hK, ⟨hSt, hNs⟩, hz, B.notSynchronized, hnn, Nat.le_refl _, Nat.le_refl _, Nat.le_refl _, Nat.le_refl _⟩ ⟨rfl, B.returns⟩ (fun q => ⟨Nat.le_refl _, q⟩) (fun q => hnm.trans q)
  have hl := lv_entry (as.map (cv ad)) (n := maxL) (by rw [lg_sl_len]; exact hlen)
  rw [lg_entry_eq]
  rw [lv_args_map] at hl
  have k2 := k ad s.heap [] _ (fun _ _ => rfl) (Nat.le_refl n) hnn (lv_args_ok 0 hso) trivial hR va_S.rf (by rw [hml]; exact hl)
  have e1 : (n - n) + 0 = 0 := by omega
  have e2 : 1744 * (n - n) + 8 * 0 = 0 := by omega
  rw [e1, e2] at k2
  exact k2
section MATH
variable {Z : Zc} {cc : ByteArray} {own : String} {nL d X : Nat}
def WM (own : String) (idx : Nat) (y : MethodName) (b : ByteArray) (k : Nat) (ret : FieldType) : Prop := Cond.methodLink own idx y ∈ TT ∧ Cond.static y ∈ TT ∧ Cond.initialized "java/lang/Math" ∈ TT ∧ Cond.code y b k (some ret) ∈ TT
theorem cat_le5 {ad : Nat → Nat} {st : List Value} (h : (st.map fun v => v.category).sum ≤ 8) : ((st.map (cv ad)).map fun v => v.category).sum ≤ 8 := cat_le h
theorem r_max (hZ : Fx cc own nL d X Z) {pc n x idx : Nat} {ls : List (Nat × Value)} {st : List Value} {h : Hp} {a b : Int32} (hd : decode cc pc = .ok (.invokestatic idx, 3)) (hw : WM own idx Lib.Math.max.name Lib.Math.max.code 2 .int) (hd0 : 0 < d) (hcat : (st.map fun v => v.category).sum ≤ 8) (hx0 : x ≤ X) (kk : R Z (pc + 3) ls (.int (if a < b then b else a) :: st) n h x) : R Z pc ls (.int b :: .int a :: st) n h x := by
  obtain ⟨p, l, e, Rm, s, m, args, below, meth, c, D, cA, ad0, n0, N1, z0, F⟩ := Z
  obtain ⟨hx, hb, hml, hown, hts, hK, hSt, hz, hlk, hN, hd1, hd2, hc1, hs1⟩ := hZ
  intro ad H locs la ha h1 h2 hl0 hs0 hR hS hl
  have hcat := cat_le5 (ad := ad) hcat
  exact va_mmax hx hb hl.1.symm hown (hts _ hw.1) (hts _ hw.2.1) (hts _ hw.2.2.1) (hts _ hw.2.2.2) (by omega) (by omega) (by omega) (by omega) hd (kk ad H locs la ha h1 h2 hl0 ⟨trivial, hs0.2.2⟩ hR hS hl)
theorem r_min (hZ : Fx cc own nL d X Z) {pc n x idx : Nat} {ls : List (Nat × Value)} {st : List Value} {h : Hp} {a b : Int32} (hd : decode cc pc = .ok (.invokestatic idx, 3)) (hw : WM own idx Lib.Math.min.name Lib.Math.min.code 2 .int) (hd0 : 0 < d) (hcat : (st.map fun v => v.category).sum ≤ 8) (hx0 : x ≤ X) (kk : R Z (pc + 3) ls (.int (if b < a then b else a) :: st) n h x) : R Z pc ls (.int b :: .int a :: st) n h x := by
  obtain ⟨p, l, e, Rm, s, m, args, below, meth, c, D, cA, ad0, n0, N1, z0, F⟩ := Z
  obtain ⟨hx, hb, hml, hown, hts, hK, hSt, hz, hlk, hN, hd1, hd2, hc1, hs1⟩ := hZ
  intro ad H locs la ha h1 h2 hl0 hs0 hR hS hl
  have hcat := cat_le5 (ad := ad) hcat
  exact va_mmin hx hb hl.1.symm hown (hts _ hw.1) (hts _ hw.2.1) (hts _ hw.2.2.1) (hts _ hw.2.2.2) (by omega) (by omega) (by omega) (by omega) hd (kk ad H locs la ha h1 h2 hl0 ⟨trivial, hs0.2.2⟩ hR hS hl)
theorem r_minL (hZ : Fx cc own nL d X Z) {pc n x idx : Nat} {ls : List (Nat × Value)} {st : List Value} {h : Hp} {a b : Int64} (hd : decode cc pc = .ok (.invokestatic idx, 3)) (hw : WM own idx Lib.MathLoose.min_long.x Lib.MathLoose.min_long.code 4 .long) (hd0 : 0 < d) (hcat : (st.map fun v => v.category).sum ≤ 8) (hx0 : x ≤ X) (kk : R Z (pc + 3) ls (.long (if b < a then b else a) :: st) n h x) : R Z pc ls (.long b :: .long a :: st) n h x := by
  obtain ⟨p, l, e, Rm, s, m, args, below, meth, c, D, cA, ad0, n0, N1, z0, F⟩ := Z
  obtain ⟨hx, hb, hml, hown, hts, hK, hSt, hz, hlk, hN, hd1, hd2, hc1, hs1⟩ := hZ
  intro ad H locs la ha h1 h2 hl0 hs0 hR hS hl
  have hcat := cat_le5 (ad := ad) hcat
  exact va_mmin_long hx hb hl.1.symm hown (hts _ hw.1) (hts _ hw.2.1) (hts _ hw.2.2.1) (hts _ hw.2.2.2) (by omega) (by omega) (by omega) (by omega) hd (kk ad H locs la ha h1 h2 hl0 ⟨trivial, hs0.2.2⟩ hR hS hl)
theorem r_absL (hZ : Fx cc own nL d X Z) {pc n x idx : Nat} {ls : List (Nat × Value)} {st : List Value} {h : Hp} {a : Int64} (hd : decode cc pc = .ok (.invokestatic idx, 3)) (hw : WM own idx Lib.MathLoose.abs_long.x Lib.MathLoose.abs_long.code 2 .long) (hd0 : 0 < d) (hcat : (st.map fun v => v.category).sum ≤ 8) (hx0 : x ≤ X) (kk : R Z (pc + 3) ls (.long (if 0 < a then a else -a) :: st) n h x) : R Z pc ls (.long a :: st) n h x := by
  obtain ⟨p, l, e, Rm, s, m, args, below, meth, c, D, cA, ad0, n0, N1, z0, F⟩ := Z
  obtain ⟨hx, hb, hml, hown, hts, hK, hSt, hz, hlk, hN, hd1, hd2, hc1, hs1⟩ := hZ
  intro ad H locs la ha h1 h2 hl0 hs0 hR hS hl
  have hcat := cat_le5 (ad := ad) hcat
  exact va_mabs_long hx hb hl.1.symm hown (hts _ hw.1) (hts _ hw.2.1) (hts _ hw.2.2.1) (hts _ hw.2.2.2) (by omega) (by omega) (by omega) (by omega) hd (kk ad H locs la ha h1 h2 hl0 ⟨trivial, hs0.2⟩ hR hS hl)
/-- System.arraycopy of ints -/
def cpI (h : Hp) (a : Nat) (sp : Int32) (b : Nat) (dp n : Int32) : Option Hp := match h a, h b with
  | some (0, .inr (n0, .inl f)), some (0, .inr (n1, .inl g)) => if 0 ≤ sp.toInt ∧ 0 ≤ dp.toInt ∧ 0 ≤ n.toInt ∧ sp.toInt + n.toInt ≤ n0 ∧ dp.toInt + n.toInt ≤ n1 then some (va_up h b (some (0, .inr (n1, .inl (va_cpy f g sp.toNatClampNeg dp.toNatClampNeg n.toNatClampNeg))))) else none
  | _, _ => none
theorem nclamp {x : Int32} (h : 0 ≤ x.toInt) : (x.toNatClampNeg : Int) = x.toInt := by
  show ((x.toInt.toNat : Nat) : Int) = x.toInt
  omega
theorem cpI_spec {h h' : Hp} {a b : Nat} {sp dp n : Int32} (q : cpI h a sp b dp n = some h') : ∃ n0 n1 f g, h a = some (0, .inr (n0, .inl f)) ∧ h b = some (0, .inr (n1, .inl g)) ∧ ¬ sp < 0 ∧ ¬ dp < 0 ∧ ¬ n < 0 ∧ sp.toNatClampNeg + n.toNatClampNeg ≤ n0 ∧ dp.toNatClampNeg + n.toNatClampNeg ≤ n1 ∧ h' = va_up h b (some (0, .inr (n1, .inl (va_cpy f g sp.toNatClampNeg dp.toNatClampNeg n.toNatClampNeg)))) := by
  unfold cpI at q
  split at q
  · rename_i n0 f n1 g e1 e2
    split at q
    · rename_i hc
      obtain ⟨c1, c2, c3, c4, c5⟩ := hc
      cases q
      have k1 := nclamp c1
      have k2 := nclamp c2
      have k3 := nclamp c3
      refine ⟨n0, n1, f, g, e1, e2, ?_, ?_, ?_, ?_, ?_, rfl⟩
      · rw [Int32.lt_iff_toInt_lt, Int32.toInt_zero]; omega
      · rw [Int32.lt_iff_toInt_lt, Int32.toInt_zero]; omega
      · rw [Int32.lt_iff_toInt_lt, Int32.toInt_zero]; omega
      · omega
      · omega
    · cases q
  · cases q
def WC (own : String) (idx : Nat) : Prop := Cond.methodLink own idx arraycopyName ∈ TT ∧ Cond.native arraycopyName ∈ TT ∧ Cond.static arraycopyName ∈ TT ∧ Cond.initialized "java/lang/System" ∈ TT
theorem r_cpI (hZ : Fx cc own nL d X Z) {pc n x idx : Nat} {ls : List (Nat × Value)} {st : List Value} {h h' : Hp} {a b : Nat} {sp dp k : Int32} (hd : decode cc pc = .ok (.invokestatic idx, 3)) (hw : WC own idx) (hg : cpI h a sp b dp k = some h') (hd0 : 0 < d) (hcat : (st.map fun v => v.category).sum ≤ 8) (kk : R Z (pc + 3) ls st n h' x) : R Z pc ls (.int k :: .int dp :: .ref b :: .int sp :: .ref a :: st) n h x := by
  obtain ⟨n0', n1', f, g, e1, e2, c1, c2, c3, c4, c5, rfl⟩ := cpI_spec hg
  obtain ⟨p, l, e, Rm, s, m, args, below, meth, c, D, cA, ad0, n0, N1, z0, F⟩ := Z
  obtain ⟨hx, hb, hml, hown, hts, hK, hSt, hz, hlk, hN, hd1, hd2, hc1, hs1⟩ := hZ
  intro ad H locs la ha h1 h2 hl0 hs0 hR hS hl
  have hcat := cat_le5 (ad := ad) hcat
  have hnw : nativeFrameWords "java/lang/System" "arraycopy" 5 ≤ 40 := by decide
  exact va_copyi hx hb hl.1.symm hown (hts _ hw.1) (hts _ hw.2.1) (hts _ hw.2.2.1) (hts _ hw.2.2.2) hK hR.2.2.2.1 hR.2.2.2.2 hS a b 0 0 (hR.at e1) (hR.at e2) rfl rfl rfl c1 c2 c3 c4 c5 (fun i _ => rfl) (by omega) (by omega) hd (fun H1 locs1 hP1 hD1 hS1 => kk ad H1 locs1 la ha h1 h2 hl0 hs0.2.2.2.2.2 (hR.set e2 (o1 := (0, .inr (n1', .inl (va_cpy f g sp.toNatClampNeg dp.toNatClampNeg k.toNatClampNeg)))) trivial hP1 hD1) hS1 hl)
end MATH
