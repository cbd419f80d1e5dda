/-! rows that make objects and arrays -/
section AL
variable {Z : Zc} {cc : ByteArray} {own : String} {nL d X : Nat}
def nref : Value → Bool
  | .ref _ => false
  | _ => true
theorem nref_all {fs : List Value} (h : fs.all nref = true) : ∀ v ∈ fs, ∀ a, v ≠ .ref a := by
  intro v hv a e
  have := List.all_eq_true.mp h v hv
  rw [e] at this
  cases this
/-- the words for a new object of the class ci -/
def WN (own : String) (idx ci : Nat) (fs : List Value) : Prop :=
  ∃ (C : String) (T : u_T) (N : Nat) (ty0 : Nat → FieldType), clz[ci]? = some (C, T, N) ∧ (∀ w ∈ u_ws C T N, w ∈ TT) ∧ (∀ k, k < N → parseFieldDescriptor (T k).2.2.1 = some (ty0 k)) ∧ Cond.classLink own idx C ∈ TT ∧ Cond.instantiable C N ∈ TT ∧ Cond.initialized C ∈ TT ∧ (∀ j, j < N → defaultValue (ty0 j) = vp_V fs j) ∧ N ≤ 1744 ∧ fs.all nref = true
theorem vp_V_map (ad : Nat → Nat) (fs : List Value) (h : ∀ v ∈ fs, ∀ a, v ≠ .ref a) : fs.map (cv ad) = fs := by
  rw [show fs = fs.map id from (List.map_id fs).symm]
  rw [List.map_map]
  apply List.map_congr_left
  intro v hv
  cases v <;> first | rfl | exact absurd rfl (h _ hv _)
theorem sok_of {n : Nat} : ∀ {fs : List Value}, (∀ v ∈ fs, ∀ a, v ≠ .ref a) → sok n fs
  | [], _ => trivial
  | v :: fs, h => ⟨by cases v <;> first | trivial | exact absurd rfl (h _ List.mem_cons_self _), sok_of fun w hw => h w (List.mem_cons_of_mem _ hw)⟩
theorem r_new (hZ : Fx cc own nL d X Z) {N2 : Nat} (hN : NX N2 Z) {pc n x idx ci : Nat} {fs : List Value} {ls : List (Nat × Value)} {st : List Value} {h : Hp} (hw : WN own idx ci fs) (hd : decode cc pc = .ok (.new idx, 3)) (hn : n + 1 ≤ N2) (hx0 : x ≤ X) (kk : R Z (pc + 3) ls (.ref n :: st) (n + 1) (va_up h n (some (ci, .inl fs))) x) : R Z pc ls st n h x := by
  obtain ⟨p, l, e, Rm, s, m, args, below, meth, c, D, cA, ad0, n0, N1, z0, F⟩ := Z
  obtain ⟨hx, hb, hml, hown, hts, hK, hSt, hz, hlk, hN0, hd1, hd2, hc1, hs1⟩ := hZ
  obtain ⟨C, T, N, ty0, hc, hin, hty, w1, w2, w3, hfs, hN', hnr⟩ := hw
  have hnr := nref_all hnr
  obtain ⟨hN1, hN2⟩ := hN
  intro ad H locs la ha h1 h2 hl0 hs0 hR hS hl
  refine va_new (D := D) (ci := ci) (fs := fs) hx hb hts hin ty0 hty hown (hts _ w1) (hts _ w2) (hts _ w3) hK hR.2.2.2.1 hR.2.2.2.2 hS (fun q hq => Nat.le_trans hz hq) hc hfs (by omega) (by omega) hd (fun q H1 hP1 hD1 hS1 => ?_)
  have e1 : (Sum.inr (ci, fs) : va_E) = ce cA ad (ci, .inl fs) := by
    show _ = Sum.inr (ci, fs.map (cv ad))
    rw [vp_V_map ad fs hnr]
  rw [e1] at hP1 hD1
  have k := push_R kk ha h1 (by omega) (by omega) hl0 hs0 (sok_of hnr) hR.1 hR.2.1 hP1 hD1 hS1 hl
  have e2 : (n + 1 - n0) + x = (n - n0) + x + 1 := by omega
  rw [e2] at k
  exact W.widen (Nat.le_refl _) (by omega) k
theorem aty (cA : Nat → ClassId) {D : va_G} {s : State} {t0 : Nat} {ty : FieldType} {c1 : ClassId} (hK : va_K D clz (tyz cA) s) (ht : (tyz cA)[t0]? = some (cA t0, ty)) (hK1 : va_K D clz (tyz cA ++ [(c1, ty)]) s) : c1 = cA t0 := by
  have g1 := (hK.2 t0 _ ht).2
  have g2 := (hK1.2 (tyz cA).length (c1, ty) (by simp)).2
  dsimp only at g1 g2
  cases ty with
  | object C =>
    obtain ⟨_, _, -, -, -, f1⟩ := g1
    obtain ⟨_, _, -, -, -, f2⟩ := g2
    rw [f1] at f2
    exact (Option.some.inj f2).symm
  | _ =>
    have f1 : s.vm.findClass _ = some _ := g1
    have f2 : s.vm.findClass _ = some _ := g2
    rw [f1] at f2
    exact (Option.some.inj f2).symm
theorem r_newarr (hZ : Fx cc own nL d X Z) {N2 : Nat} (hN : NX N2 Z) {pc n x : Nat} {ls : List (Nat × Value)} {st : List Value} {h : Hp} {atype : ArrayType} (ty : FieldType) (t0 : Nat) {a0 : vp_A} {k : Int32} {len : Nat} (hw : Cond.arrayClass (newarray.typeOf atype) ∈ TT) (hty : newarray.typeOf atype = ty) (ht : ∀ cA, (tyz cA)[t0]? = some (cA t0, ty)) (hcell : ∀ cA : ClassId, vp_cell cA a0 = arrV cA len (fun _ => defaultValue ty)) (hca : ∀ ad, ca ad a0 = a0) (hok : ook n (t0, .inr a0)) (hk : ¬ k < 0) (hk2 : k.toNatClampNeg = len) (hlen : len ≤ 1744) (hby : len * componentBytes ty ≤ 536870912) (hd : decode cc pc = .ok (.newarray atype, 2)) (hn : n + 1 ≤ N2) (hx0 : x ≤ X)
    (kk : R Z (pc + 2) ls (.ref n :: st) (n + 1) (va_up h n (some (t0, .inr a0))) x) : R Z pc ls (.int k :: st) n h x := by
  obtain ⟨p, l, e, Rm, s, m, args, below, meth, c, D, cA, ad0, n0, N1, z0, F⟩ := Z
  obtain ⟨hx, hb, hml, hown, hts, hK, hSt, hz, hlk, hN0, hd1, hd2, hc1, hs1⟩ := hZ
  obtain ⟨hN1, hN2⟩ := hN
  intro ad H locs la ha h1 h2 hl0 hs0 hR hS hl
  refine va_newa (atype := atype) (ty := ty) (a0 := a0) (N' := len) hx hb (hts _ hw) hty hK hR.2.2.2.1 hR.2.2.2.2 hS (fun q hq => Nat.le_trans hz hq) hcell hk hk2 hby (by omega) (by omega) hd (fun q c1 H1 hK1 hP1 hD1 hS1 => ?_)
  have e0 := aty cA hK (ht cA) hK1
  subst e0
  have e1 : (Sum.inl (cA t0, a0) : va_E) = ce cA ad (t0, .inr a0) := by
    show _ = Sum.inl (cA t0, ca ad a0)
    rw [hca]
  rw [e1] at hP1 hD1
  have k := push_R kk ha h1 (by omega) (by omega) hl0 hs0.2 hok hR.1 hR.2.1 hP1 hD1 hS1 hl
  have e2 : (n + 1 - n0) + x = (n - n0) + x + 1 := by omega
  rw [e2] at k
  exact W.widen (Nat.le_refl _) (by omega) k
theorem r_newI (hZ : Fx cc own nL d X Z) {N2 : Nat} (hN : NX N2 Z) {pc n x : Nat} {ls : List (Nat × Value)} {st : List Value} {h : Hp} {k : Int32} {len : Nat} (hw : Cond.arrayClass .int ∈ TT) (hk : ¬ k < 0) (hk2 : k.toNatClampNeg = len) (hlen : len ≤ 1744) (hd : decode cc pc = .ok (.newarray .int, 2)) (hn : n + 1 ≤ N2) (hx0 : x ≤ X)
    (kk : R Z (pc + 2) ls (.ref n :: st) (n + 1) (va_up h n (some (0, .inr (len, .inl fun _ => 0)))) x) : R Z pc ls (.int k :: st) n h x :=
  r_newarr (atype := .int) (a0 := (len, .inl fun _ => 0)) hZ hN .int 0 hw rfl (fun _ => rfl) (fun _ => rfl) (fun _ => rfl) trivial hk hk2 hlen (by show len * 4 ≤ _; omega) hd hn hx0 kk
theorem r_newL (hZ : Fx cc own nL d X Z) {N2 : Nat} (hN : NX N2 Z) {pc n x : Nat} {ls : List (Nat × Value)} {st : List Value} {h : Hp} {k : Int32} {len : Nat} (hw : Cond.arrayClass .long ∈ TT) (hk : ¬ k < 0) (hk2 : k.toNatClampNeg = len) (hlen : len ≤ 1744) (hd : decode cc pc = .ok (.newarray .long, 2)) (hn : n + 1 ≤ N2) (hx0 : x ≤ X)
    (kk : R Z (pc + 2) ls (.ref n :: st) (n + 1) (va_up h n (some (1, .inr (len, .inr (.inl fun _ => 0))))) x) : R Z pc ls (.int k :: st) n h x :=
  r_newarr (atype := .long) (a0 := (len, .inr (.inl fun _ => 0))) hZ hN .long 1 hw rfl (fun _ => rfl) (fun _ => rfl) (fun _ => rfl) trivial hk hk2 hlen (by show len * 8 ≤ _; omega) hd hn hx0 kk
theorem r_newZ (hZ : Fx cc own nL d X Z) {N2 : Nat} (hN : NX N2 Z) {pc n x : Nat} {ls : List (Nat × Value)} {st : List Value} {h : Hp} {k : Int32} {len : Nat} (hw : Cond.arrayClass .boolean ∈ TT) (hk : ¬ k < 0) (hk2 : k.toNatClampNeg = len) (hlen : len ≤ 1744) (hd : decode cc pc = .ok (.newarray .boolean, 2)) (hn : n + 1 ≤ N2) (hx0 : x ≤ X)
    (kk : R Z (pc + 2) ls (.ref n :: st) (n + 1) (va_up h n (some (2, .inr (len, .inl fun _ => 0)))) x) : R Z pc ls (.int k :: st) n h x :=
  r_newarr (atype := .boolean) (a0 := (len, .inl fun _ => 0)) hZ hN .boolean 2 hw rfl (fun _ => rfl) (fun _ => rfl) (fun _ => rfl) trivial hk hk2 hlen (by show len * 1 ≤ _; omega) hd hn hx0 kk
theorem r_newQ (hZ : Fx cc own nL d X Z) {N2 : Nat} (hN : NX N2 Z) {pc n x idx t0 : Nat} {ls : List (Nat × Value)} {st : List Value} {h : Hp} {C : String} {k : Int32} {len : Nat} (hw : Cond.classLink own idx C ∈ TT) (hw2 : C = RX0 ∨ C = RX8) (ht : ∀ cA, (tyz cA)[t0]? = some (cA t0, .object C)) (hk : ¬ k < 0) (hk2 : k.toNatClampNeg = len) (hlen : len ≤ 1744) (hd : decode cc pc = .ok (.anewarray idx, 3)) (hn : n + 1 ≤ N2) (hx0 : x ≤ X)
    (kk : R Z (pc + 3) ls (.ref n :: st) (n + 1) (va_up h n (some (t0, .inr (len, .inr (.inr (.inr (.inr fun _ => none))))))) x) : R Z pc ls (.int k :: st) n h x := by
  obtain ⟨p, l, e, Rm, s, m, args, below, meth, c, D, cA, ad0, n0, N1, z0, F⟩ := Z
  obtain ⟨hx, hb, hml, hown, hts, hK, hSt, hz, hlk, hN0, hd1, hd2, hc1, hs1⟩ := hZ
  obtain ⟨hN1, hN2⟩ := hN
  intro ad H locs la ha h1 h2 hl0 hs0 hR hS hl
  refine va_newq (N' := len) hx hb hown (hts _ hw) (hw2.elim (fun q => by rw [q]; exact hSt.2.2.1) (fun q => by rw [q]; exact hSt.2.2.2.1)) hK hR.2.2.2.1 hR.2.2.2.2 hS (fun q hq => Nat.le_trans hz hq) hk hk2 (by omega) (by omega) (by omega) hd (fun q c1 H1 hK1 hP1 hD1 hS1 => ?_)
  have e0 := aty cA hK (ht cA) hK1
  subst e0
  have k := push_R kk ha h1 (by omega) (by omega) hl0 hs0.2 (fun k r hk => nomatch hk) hR.1 hR.2.1 hP1 hD1 hS1 hl
  have e2 : (n + 1 - n0) + x = (n - n0) + x + 1 := by omega
  rw [e2] at k
  exact W.widen (Nat.le_refl _) (by omega) k
/-- Object's own constructor -/
theorem r_objinit (hZ : Fx cc own nL d X Z) {pc n x idx a : Nat} {ls : List (Nat × Value)} {st : List Value} {h : Hp} (w1 : Cond.methodLink own idx objectInit ∈ TT) (w2 : Cond.instanceMethod objectInit ∈ TT) (w3 : Cond.code objectInit ⟨#[0xb1]⟩ 1 none ∈ TT) (hd : decode cc pc = .ok (.invokespecial idx, 3)) (hd0 : 0 < d) (hcat : (st.map fun v => v.category).sum ≤ 8) (kk : R Z (pc + 3) ls st n h x) : R Z pc ls (.ref a :: st) n h x := by
  obtain ⟨p, l, e, Rm, s, m, args, below, meth, c, D, cA, ad0, n0, N1, z0, F⟩ := Z
  obtain ⟨hx, hb, hml, hown, hts, hK, hSt, hz, hlk, hN, hd1, hd2, hc1, hs1⟩ := hZ
  intro ad H locs la ha h1 h2 hl0 hs0 hR hS hl
  have hcat := cat_le5 (ad := ad) hcat
  refine W.objInit hx hb hown (hts _ w1) (hts _ w2) (hts _ w3) rfl hl.1 rfl hd (by omega) ?_ ?_
  · have hq := lv_room (m := m) (pc := pc) (ls := la) (rest := cv ad (.ref a) :: st.map (cv ad)) hcat
    show 2 * (F0 m pc la (cv ad (.ref a) :: st.map (cv ad))).monitorRoom + _ + 12 ≤ Rm.locals
    omega
  · exact kk ad H locs la ha h1 h2 hl0 hs0.2 hR hS hl
end AL
