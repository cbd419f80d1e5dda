def Ini : Zc → Prop
  | (_, _, _, _, _, _, _, _, meth, _, _, _, _, _, _, _, _) => meth.name = "<init>"
section HR
variable {Z : Zc} {cc : ByteArray} {own : String} {nL d X : Nat}
theorem r_getf (hZ : Fx cc own nL d X Z) {pc n x : Nat} {ls : List (Nat × Value)} {st : List Value} {h : Hp} {idx ci k a : Nat} {ty : FieldType} {fin : Bool} {fs : List Value} {v : Value} (hf : FL own idx ci k ty fin) (hd : decode cc pc = .ok (.getfield idx, 3)) (ho : h a = some (ci, .inl fs)) (hv : fs[k]? = some v) (kk : R Z (pc + 3) ls (v :: st) n h x) : R Z pc ls (.ref a :: st) n h x := by
  obtain ⟨p, l, e, Rm, s, m, args, below, meth, c, D, cA, ad0, n0, N1, z0, F⟩ := Z
  obtain ⟨hx, hb, hml, hown, hts, hK, hSt, hz, hlk, hN, hd1, hd2, hc1, hs1⟩ := hZ
  obtain ⟨C, ref, T, N, ty0, hc, hk, hin, hlink, hsame, -⟩ := hf
  intro ad H locs la ha h1 h2 hl0 hs0 hR hS hl
  have hv2 : (fs.map (cv ad))[k]? = some (cv ad v) := by rw [List.getElem?_map, hv]; rfl
  refine va_get (D := D) (ci := ci) hx hb hts hin hown hK hR.2.2.2.1 a (hR.at ho) hc k hk (hts _ hlink) (fun x q => ?_) hv2 hd ?_
  · rcases hsame with e | e
    · rw [e]; exact q
    · exact u_same (hts _ e) x q
  · exact kk ad H locs la ha h1 h2 hl0 ⟨sok_get (hR.2.1 a _ ho) hv, hs0.2⟩ hR hS hl
theorem r_getI (hZ : Fx cc own nL d X Z) {pc n x : Nat} {ls : List (Nat × Value)} {st : List Value} {h : Hp} {idx ci k a : Nat} {ty : FieldType} {fin : Bool} {v : Int32} (hf : FL own idx ci k ty fin) (hd : decode cc pc = .ok (.getfield idx, 3)) (hg : gI h a ci k = some v) (kk : R Z (pc + 3) ls (.int v :: st) n h x) : R Z pc ls (.ref a :: st) n h x := by
  obtain ⟨fs, ho, hv⟩ := gI_spec hg
  exact r_getf hZ hf hd ho hv kk
theorem r_getL (hZ : Fx cc own nL d X Z) {pc n x : Nat} {ls : List (Nat × Value)} {st : List Value} {h : Hp} {idx ci k a : Nat} {ty : FieldType} {fin : Bool} {v : Int64} (hf : FL own idx ci k ty fin) (hd : decode cc pc = .ok (.getfield idx, 3)) (hg : gL h a ci k = some v) (kk : R Z (pc + 3) ls (.long v :: st) n h x) : R Z pc ls (.ref a :: st) n h x := by
  obtain ⟨fs, ho, hv⟩ := gL_spec hg
  exact r_getf hZ hf hd ho hv kk
theorem r_getR (hZ : Fx cc own nL d X Z) {pc n x : Nat} {ls : List (Nat × Value)} {st : List Value} {h : Hp} {idx ci k a : Nat} {ty : FieldType} {fin : Bool} {v : Nat} (hf : FL own idx ci k ty fin) (hd : decode cc pc = .ok (.getfield idx, 3)) (hg : gR h a ci k = some v) (kk : R Z (pc + 3) ls (.ref v :: st) n h x) : R Z pc ls (.ref a :: st) n h x := by
  obtain ⟨fs, ho, hv⟩ := gR_spec hg
  exact r_getf hZ hf hd ho hv kk
theorem cv_fits (ad : Nat → Nat) (ty : FieldType) (v : Value) (h : fits ty v = true) : fits ty (cv ad v) = true := by
  cases v <;> first | exact h | (cases ty <;> first | rfl | cases h)
theorem cv_narrow (ad : Nat → Nat) (ty : FieldType) (v : Value) (h : fits ty v = true) (hn : narrow ty v = v) : narrow ty (cv ad v) = cv ad v := by
  cases v <;> first | exact hn | (cases ty <;> first | rfl | cases h)
theorem r_putf (hZ : Fx cc own nL d X Z) {pc n x : Nat} {ls : List (Nat × Value)} {st : List Value} {h h' : Hp} {idx ci k a : Nat} {ty : FieldType} {v : Value} (hf : FL own idx ci k ty false) (hd : decode cc pc = .ok (.putfield idx, 3)) (hp : pF h a ci k v = some h') (hn : narrow ty v = v) (hft : fits ty v = true) (kk : R Z (pc + 3) ls st n h' x) : R Z pc ls (v :: .ref a :: st) n h x := by
  obtain ⟨fs, ho, hj, rfl⟩ := pF_spec hp
  obtain ⟨p, l, e, Rm, s, m, args, below, meth, c, D, cA, ad0, n0, N1, z0, F⟩ := Z
  obtain ⟨hx, hb, hml, hown, hts, hK, hSt, hz, hlk, hN, hd1, hd2, hc1, hs1⟩ := hZ
  obtain ⟨C, ref, T, N, ty0, hc, hk, hin, hlink, hsame, hty, hnm, hpd, hfin, -⟩ := hf
  intro ad H locs la ha h1 h2 hl0 hs0 hR hS hl
  refine va_put (D := D) (ci := ci) (ty := ty) hx hb hts hin ty0 hty hnm hown hK hR.2.2.2.1 hR.2.2.2.2 hS a (hR.at ho) hc k hk (hts _ hlink) (fun x q => ?_) hfin hpd (cv_narrow ad ty v hft hn) (cv_fits ad ty v hft) (by simpa using hj) hd (fun H1 locs1 hP1 hD1 hS1 => ?_)
  · rcases hsame with e | e
    · rw [e]; exact q
    · exact u_same (hts _ e) x q
  · rw [← List.map_set] at hP1 hD1
    exact kk ad H1 locs1 la ha h1 h2 hl0 hs0.2.2 (hR.set ho (o1 := (ci, .inl (fs.set k v))) (sok_set (hR.2.1 a _ ho) hs0.1) hP1 hD1) hS1 hl
theorem r_putF (hZ : Fx cc own nL d X Z) (hI : Ini Z) {pc n x : Nat} {ls : List (Nat × Value)} {st : List Value} {h h' : Hp} {idx ci k a : Nat} {ty : FieldType} {v : Value} (hf : FL own idx ci k ty true) (hd : decode cc pc = .ok (.putfield idx, 3)) (hp : pF h a ci k v = some h') (hn : narrow ty v = v) (hft : fits ty v = true) (hc0 : (clz[ci]?).map (·.1) = some own) (kk : R Z (pc + 3) ls st n h' x) : R Z pc ls (v :: .ref a :: st) n h x := by
  obtain ⟨fs, ho, hj, rfl⟩ := pF_spec hp
  obtain ⟨p, l, e, Rm, s, m, args, below, meth, c, D, cA, ad0, n0, N1, z0, F⟩ := Z
  obtain ⟨hx, hb, hml, hown, hts, hK, hSt, hz, hlk, hN, hd1, hd2, hc1, hs1⟩ := hZ
  obtain ⟨C, ref, T, N, ty0, hc, hk, hin, hlink, hsame, hty, hnm, hpd, hfin, hdecl⟩ := hf
  have hCo : C = own := by rw [hc] at hc0; exact Option.some.inj hc0
  intro ad H locs la ha h1 h2 hl0 hs0 hR hS hl
  refine va_putF (D := D) (ci := ci) (ty := ty) hx hb hts hin ty0 hty hnm hown hK hR.2.2.2.1 hR.2.2.2.2 hS a (hR.at ho) hc k hk (hts _ hlink) (fun x q => ?_) hfin hI (hdecl rfl hCo) hpd (cv_narrow ad ty v hft hn) (cv_fits ad ty v hft) (by simpa using hj) hd (fun H1 locs1 hP1 hD1 hS1 => ?_)
  · rcases hsame with e | e
    · rw [e]; exact q
    · exact u_same (hts _ e) x q
  · rw [← List.map_set] at hP1 hD1
    exact kk ad H1 locs1 la ha h1 h2 hl0 hs0.2.2 (hR.set ho (o1 := (ci, .inl (fs.set k v))) (sok_set (hR.2.1 a _ ho) hs0.1) hP1 hD1) hS1 hl
theorem aI_spec {h : Hp} {a : Nat} {i v : Int32} (q : aI h a i = some v) : ∃ len f, h a = some (0, .inr (len, .inl f)) ∧ vp_in i len ∧ v = f i.toNatClampNeg := by
  unfold aI at q
  split at q
  · rename_i len f e
    split at q
    · rename_i hi
      cases q
      exact ⟨len, f, e, inb_in hi, rfl⟩
    · cases q
  · cases q
theorem aL_spec {h : Hp} {a : Nat} {i : Int32} {v : Int64} (q : aL h a i = some v) : ∃ len f, h a = some (1, .inr (len, .inr (.inl f))) ∧ vp_in i len ∧ v = f i.toNatClampNeg := by
  unfold aL at q
  split at q
  · rename_i len f e
    split at q
    · rename_i hi
      cases q
      exact ⟨len, f, e, inb_in hi, rfl⟩
    · cases q
  · cases q
theorem aZ_spec {h : Hp} {a : Nat} {i v : Int32} (q : aZ h a i = some v) : ∃ len f, h a = some (2, .inr (len, .inl f)) ∧ vp_in i len ∧ v = f i.toNatClampNeg := by
  unfold aZ at q
  split at q
  · rename_i len f e
    split at q
    · rename_i hi
      cases q
      exact ⟨len, f, e, inb_in hi, rfl⟩
    · cases q
  · cases q
theorem aR_spec {h : Hp} {a t0 : Nat} {i : Int32} {v : Nat} (q : aR h a t0 i = some v) : ∃ len f, h a = some (t0, .inr (len, .inr (.inr (.inr (.inr f))))) ∧ vp_in i len ∧ f i.toNatClampNeg = some v := by
  unfold aR at q
  split at q
  · rename_i t len f e
    split at q
    · rename_i hi
      obtain ⟨rfl, hi⟩ := hi
      exact ⟨len, f, e, inb_in hi, q⟩
    · cases q
  · cases q
theorem r_aI (hZ : Fx cc own nL d X Z) {pc n x : Nat} {ls : List (Nat × Value)} {st : List Value} {h : Hp} {a : Nat} {i v : Int32} (hd : decode cc pc = .ok (.iaload, 1)) (hg : aI h a i = some v) (kk : R Z (pc + 1) ls (.int v :: st) n h x) : R Z pc ls (.int i :: .ref a :: st) n h x := by
  obtain ⟨len, f, ho, hi, rfl⟩ := aI_spec hg
  obtain ⟨p, l, e, Rm, s, m, args, below, meth, c, D, cA, ad0, n0, N1, z0, F⟩ := Z
  obtain ⟨hx, hb, hml, hown, hts, hK, hSt, hz, hlk, hN, hd1, hd2, hc1, hs1⟩ := hZ
  intro ad H locs la ha h1 h2 hl0 hs0 hR hS hl
  exact va_iald hx hb hK hR.2.2.2.1 a 0 (hR.at ho) rfl hi hd (kk ad H locs la ha h1 h2 hl0 ⟨trivial, hs0.2.2⟩ hR hS hl)
theorem r_aL (hZ : Fx cc own nL d X Z) {pc n x : Nat} {ls : List (Nat × Value)} {st : List Value} {h : Hp} {a : Nat} {i : Int32} {v : Int64} (hd : decode cc pc = .ok (.laload, 1)) (hg : aL h a i = some v) (kk : R Z (pc + 1) ls (.long v :: st) n h x) : R Z pc ls (.int i :: .ref a :: st) n h x := by
  obtain ⟨len, f, ho, hi, rfl⟩ := aL_spec hg
  obtain ⟨p, l, e, Rm, s, m, args, below, meth, c, D, cA, ad0, n0, N1, z0, F⟩ := Z
  obtain ⟨hx, hb, hml, hown, hts, hK, hSt, hz, hlk, hN, hd1, hd2, hc1, hs1⟩ := hZ
  intro ad H locs la ha h1 h2 hl0 hs0 hR hS hl
  exact va_lald hx hb hK hR.2.2.2.1 a 1 (hR.at ho) rfl hi hd (kk ad H locs la ha h1 h2 hl0 ⟨trivial, hs0.2.2⟩ hR hS hl)
theorem r_aZ (hZ : Fx cc own nL d X Z) {pc n x : Nat} {ls : List (Nat × Value)} {st : List Value} {h : Hp} {a : Nat} {i v : Int32} (hd : decode cc pc = .ok (.baload, 1)) (hg : aZ h a i = some v) (kk : R Z (pc + 1) ls (.int v :: st) n h x) : R Z pc ls (.int i :: .ref a :: st) n h x := by
  obtain ⟨len, f, ho, hi, rfl⟩ := aZ_spec hg
  obtain ⟨p, l, e, Rm, s, m, args, below, meth, c, D, cA, ad0, n0, N1, z0, F⟩ := Z
  obtain ⟨hx, hb, hml, hown, hts, hK, hSt, hz, hlk, hN, hd1, hd2, hc1, hs1⟩ := hZ
  intro ad H locs la ha h1 h2 hl0 hs0 hR hS hl
  exact va_zald hx hb hK hR.2.2.2.1 a 2 (hR.at ho) rfl hi hd (kk ad H locs la ha h1 h2 hl0 ⟨trivial, hs0.2.2⟩ hR hS hl)
theorem r_aR (hZ : Fx cc own nL d X Z) {pc n x : Nat} {ls : List (Nat × Value)} {st : List Value} {h : Hp} {a t0 v : Nat} {i : Int32} {ty : FieldType} (hd : decode cc pc = .ok (.aaload, 1)) (hg : aR h a t0 i = some v) (ht : ∀ cA, (tyz cA)[t0]? = some (cA t0, ty)) (hty : (∃ C, ty = .object C) ∨ ty = .array .int) (kk : R Z (pc + 1) ls (.ref v :: st) n h x) : R Z pc ls (.int i :: .ref a :: st) n h x := by
  obtain ⟨len, f, ho, hi, hv⟩ := aR_spec hg
  obtain ⟨p, l, e, Rm, s, m, args, below, meth, c, D, cA, ad0, n0, N1, z0, F⟩ := Z
  obtain ⟨hx, hb, hml, hown, hts, hK, hSt, hz, hlk, hN, hd1, hd2, hc1, hs1⟩ := hZ
  intro ad H locs la ha h1 h2 hl0 hs0 hR hS hl
  have hlt : i.toNatClampNeg < len := Nat.not_le.mp fun q => hi (Or.inr q)
  have kk' : W p l e Rm s m args below meth c H locs (n - n0 + x) (1744 * (n - n0) + 8 * x) F (F0 m (pc + 1) la (cv ad (.ref v) :: st.map (cv ad))) := kk ad H locs la ha h1 h2 hl0 ⟨hR.2.1 a _ ho _ _ hv, hs0.2.2⟩ hR hS hl
  have e1 : va_rf ((f i.toNatClampNeg).map ad) = cv ad (.ref v) := by rw [hv]; rfl
  have hP := hR.2.2.2.1 a _ (hR.at ho)
  rcases hty with ⟨C, rfl⟩ | rfl
  · refine va_aldq hx hb hK hR.2.2.2.1 a t0 (hR.at ho) (ht cA) hi hd ?_
    rw [e1]
    exact kk'
  · rw [← e1] at kk'
    exact W.aald (v := va_rf ((f i.toNatClampNeg).map ad)) (ty := .array .int) hx hb hP ((hK.2 t0 _ (ht cA)).1 len (fun j => va_rf ((f j).map ad))) rfl (fun q => by cases q) (by show ¬ (i < 0 ∨ (arrV _ _ _).slots.size ≤ _); rw [arrV_size]; exact hi) (by show (arrV (cA t0) len (fun j => va_rf ((f j).map ad))).slots[_]? = _; rw [arrV_read _ _ hlt]) rfl rfl hd kk'
end HR
