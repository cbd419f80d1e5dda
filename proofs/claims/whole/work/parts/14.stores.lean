section HS
variable {Z : Zc} {cc : ByteArray} {own : String} {nL d X : Nat}
theorem sI_spec {h h' : Hp} {a : Nat} {i v : Int32} (q : sI h a i v = some h') : ∃ len f, h a = some (0, .inr (len, .inl f)) ∧ vp_in i len ∧ h' = va_up h a (some (0, .inr (len, .inl (upd f i.toNatClampNeg v)))) := by
  unfold sI at q
  split at q
  · rename_i len f e
    split at q
    · rename_i hi
      cases q
      exact ⟨len, f, e, inb_in hi, rfl⟩
    · cases q
  · cases q
theorem sL_spec {h h' : Hp} {a : Nat} {i : Int32} {v : Int64} (q : sL h a i v = some h') : ∃ len f, h a = some (1, .inr (len, .inr (.inl f))) ∧ vp_in i len ∧ h' = va_up h a (some (1, .inr (len, .inr (.inl (vp_updL f i.toNatClampNeg v))))) := by
  unfold sL at q
  split at q
  · rename_i len f e
    split at q
    · rename_i hi
      cases q
      exact ⟨len, f, e, inb_in hi, rfl⟩
    · cases q
  · cases q
theorem sZ_spec {h h' : Hp} {a : Nat} {i v : Int32} (q : sZ h a i v = some h') : ∃ len f, h a = some (2, .inr (len, .inl f)) ∧ vp_in i len ∧ h' = va_up h a (some (2, .inr (len, .inl (upd f i.toNatClampNeg (vp_nar .boolean v))))) := by
  unfold sZ at q
  split at q
  · rename_i len f e
    split at q
    · rename_i hi
      cases q
      exact ⟨len, f, e, inb_in hi, rfl⟩
    · cases q
  · cases q
theorem sR_spec {h h' : Hp} {a t0 ci v : Nat} {i : Int32} (q : sR h a t0 ci i v = some h') : ∃ len f fs, h a = some (t0, .inr (len, .inr (.inr (.inr (.inr f))))) ∧ h v = some (ci, .inl fs) ∧ vp_in i len ∧ h' = va_up h a (some (t0, .inr (len, .inr (.inr (.inr (.inr (va_up f i.toNatClampNeg (some v)))))))) := by
  unfold sR at q
  split at q
  · rename_i t len f c fs e1 e2
    split at q
    · rename_i hi
      obtain ⟨rfl, rfl, hi⟩ := hi
      cases q
      exact ⟨len, f, fs, e1, e2, inb_in hi, rfl⟩
    · cases q
  · cases q
theorem r_sI (hZ : Fx cc own nL d X Z) {pc n x : Nat} {ls : List (Nat × Value)} {st : List Value} {h h' : Hp} {a : Nat} {i v : Int32} (hd : decode cc pc = .ok (.iastore, 1)) (hp : sI h a i v = some h') (kk : R Z (pc + 1) ls st n h' x) : R Z pc ls (.int v :: .int i :: .ref a :: st) n h x := by
  obtain ⟨len, f, ho, hi, rfl⟩ := sI_spec hp
  obtain ⟨p, l, e, Rm, s, m, args, below, meth, c, D, cA, ad0, n0, N1, z0, F⟩ := Z
  obtain ⟨hx, hb, hml, hown, hts, hK, hSt, hz, hlk, hN, hd1, hd2, hc1, hs1⟩ := hZ
  intro ad H locs la ha h1 h2 hl0 hs0 hR hS hl
  exact va_iast hx hb hK hR.2.2.2.1 hR.2.2.2.2 hS a 0 (hR.at ho) rfl hi hd (fun H1 locs1 hP1 hD1 hS1 => kk ad H1 locs1 la ha h1 h2 hl0 hs0.2.2.2 (hR.set ho (o1 := (0, .inr (len, .inl (upd f i.toNatClampNeg v)))) trivial hP1 hD1) hS1 hl)
theorem r_sL (hZ : Fx cc own nL d X Z) {pc n x : Nat} {ls : List (Nat × Value)} {st : List Value} {h h' : Hp} {a : Nat} {i : Int32} {v : Int64} (hd : decode cc pc = .ok (.lastore, 1)) (hp : sL h a i v = some h') (kk : R Z (pc + 1) ls st n h' x) : R Z pc ls (.long v :: .int i :: .ref a :: st) n h x := by
  obtain ⟨len, f, ho, hi, rfl⟩ := sL_spec hp
  obtain ⟨p, l, e, Rm, s, m, args, below, meth, c, D, cA, ad0, n0, N1, z0, F⟩ := Z
  obtain ⟨hx, hb, hml, hown, hts, hK, hSt, hz, hlk, hN, hd1, hd2, hc1, hs1⟩ := hZ
  intro ad H locs la ha h1 h2 hl0 hs0 hR hS hl
  exact va_last hx hb hK hR.2.2.2.1 hR.2.2.2.2 hS a 1 (hR.at ho) rfl hi hd (fun H1 locs1 hP1 hD1 hS1 => kk ad H1 locs1 la ha h1 h2 hl0 hs0.2.2.2 (hR.set ho (o1 := (1, .inr (len, .inr (.inl (vp_updL f i.toNatClampNeg v))))) trivial hP1 hD1) hS1 hl)
theorem r_sZ (hZ : Fx cc own nL d X Z) {pc n x : Nat} {ls : List (Nat × Value)} {st : List Value} {h h' : Hp} {a : Nat} {i v : Int32} (hd : decode cc pc = .ok (.bastore, 1)) (hp : sZ h a i v = some h') (kk : R Z (pc + 1) ls st n h' x) : R Z pc ls (.int v :: .int i :: .ref a :: st) n h x := by
  obtain ⟨len, f, ho, hi, rfl⟩ := sZ_spec hp
  obtain ⟨p, l, e, Rm, s, m, args, below, meth, c, D, cA, ad0, n0, N1, z0, F⟩ := Z
  obtain ⟨hx, hb, hml, hown, hts, hK, hSt, hz, hlk, hN, hd1, hd2, hc1, hs1⟩ := hZ
  intro ad H locs la ha h1 h2 hl0 hs0 hR hS hl
  exact va_zast hx hb hK hR.2.2.2.1 hR.2.2.2.2 hS a 2 (hR.at ho) rfl hi hd (fun H1 locs1 hP1 hD1 hS1 => kk ad H1 locs1 la ha h1 h2 hl0 hs0.2.2.2 (hR.set ho (o1 := (2, .inr (len, .inl (upd f i.toNatClampNeg (vp_nar .boolean v))))) trivial hP1 hD1) hS1 hl)
theorem ca_up {ad : Nat → Nat} {f : Nat → Option Nat} {k v : Nat} : va_up (fun k => (f k).map ad) k (some (ad v)) = fun j => (va_up f k (some v) j).map ad := by
  funext j
  by_cases h : j = k
  · subst h
    rw [va_up_self, va_up_self]
    rfl
  · rw [va_up_ne _ _ h, va_up_ne _ _ h]
theorem r_sR (hZ : Fx cc own nL d X Z) {pc n x : Nat} {ls : List (Nat × Value)} {st : List Value} {h h' : Hp} {a t0 ci v : Nat} {i : Int32} {r : vw_C} (hd : decode cc pc = .ok (.aastore, 1)) (hp : sR h a t0 ci i v = some h') (hc : clz[ci]? = some r) (ht : ∀ cA, (tyz cA)[t0]? = some (cA t0, .object r.1)) (kk : R Z (pc + 1) ls st n h' x) : R Z pc ls (.ref v :: .int i :: .ref a :: st) n h x := by
  obtain ⟨len, f, fs, ho, hov, hi, rfl⟩ := sR_spec hp
  obtain ⟨p, l, e, Rm, s, m, args, below, meth, c, D, cA, ad0, n0, N1, z0, F⟩ := Z
  obtain ⟨hx, hb, hml, hown, hts, hK, hSt, hz, hlk, hN, hd1, hd2, hc1, hs1⟩ := hZ
  intro ad H locs la ha h1 h2 hl0 hs0 hR hS hl
  refine va_astq hx hb hK hR.2.2.2.1 hR.2.2.2.2 hS a t0 v ci (hR.at ho) (ht cA) (hR.at hov) hc hi hd (fun H1 locs1 hP1 hD1 hS1 => ?_)
  rw [ca_up] at hP1 hD1
  refine kk ad H1 locs1 la ha h1 h2 hl0 hs0.2.2.2 (hR.set ho (o1 := (t0, .inr (len, .inr (.inr (.inr (.inr (va_up f i.toNatClampNeg (some v)))))))) (fun k r hk => ?_) hP1 hD1) hS1 hl
  by_cases q : k = i.toNatClampNeg
  · rw [q, va_up_self] at hk
    cases hk
    exact Or.inl (hR.dom hov)
  · rw [va_up_ne f _ q] at hk
    exact hR.2.1 a _ ho k r hk
theorem r_aS (hZ : Fx cc own nL d X Z) {pc n x j : Nat} {ls : List (Nat × Value)} {st : List Value} {h : Hp} {i v : Int32} (hj : j < 4) (hd : decode cc pc = .ok (.iaload, 1)) (hg : aS j i = some v) (kk : R Z (pc + 1) ls (.int v :: st) n h x) : R Z pc ls (.int i :: .ref (BB + j) :: st) n h x := by
  unfold aS at hg
  split at hg
  · rename_i hi
    cases hg
    obtain ⟨p, l, e, Rm, s, m, args, below, meth, c, D, cA, ad0, n0, N1, z0, F⟩ := Z
    obtain ⟨hx, hb, hml, hown, hts, hK, hSt, hz, hlk, hN, hd1, hd2, hc1, hs1⟩ := hZ
    intro ad H locs la ha h1 h2 hl0 hs0 hR hS hl
    obtain ⟨-, g2⟩ := hSt.1 j hj
    have e1 : cv ad (.ref (BB + j)) = .ref (ad0 (BB + j)) := congrArg Value.ref (ha _ (Or.inr (Nat.le_add_right _ _)))
    show W p l e Rm s m args below meth c H locs _ _ F (F0 m pc la (.int i :: cv ad (.ref (BB + j)) :: st.map (cv ad)))
    rw [e1]
    exact va_ti hx hb g2 hS (inb_in hi) rfl hd (kk ad H locs la ha h1 h2 hl0 ⟨trivial, hs0.2.2⟩ hR hS hl)
  · cases hg
theorem r_nS (hZ : Fx cc own nL d X Z) {pc n x j : Nat} {ls : List (Nat × Value)} {st : List Value} {h : Hp} {v : Int32} (hj : j < 4) (hd : decode cc pc = .ok (.arraylength, 1)) (hv : Int32.ofNat (roC j).2.2.1 = v) (kk : R Z (pc + 1) ls (.int v :: st) n h x) : R Z pc ls (.ref (BB + j) :: st) n h x := by
  subst hv
  obtain ⟨p, l, e, Rm, s, m, args, below, meth, c, D, cA, ad0, n0, N1, z0, F⟩ := Z
  obtain ⟨hx, hb, hml, hown, hts, hK, hSt, hz, hlk, hN, hd1, hd2, hc1, hs1⟩ := hZ
  intro ad H locs la ha h1 h2 hl0 hs0 hR hS hl
  obtain ⟨-, g2⟩ := hSt.1 j hj
  have e1 : cv ad (.ref (BB + j)) = .ref (ad0 (BB + j)) := congrArg Value.ref (ha _ (Or.inr (Nat.le_add_right _ _)))
  show W p l e Rm s m args below meth c H locs _ _ F (F0 m pc la (cv ad (.ref (BB + j)) :: st.map (cv ad)))
  rw [e1]
  exact va_tlen hx hb g2 hS rfl hd (kk ad H locs la ha h1 h2 hl0 ⟨trivial, hs0.2⟩ hR hS hl)
theorem r_gets (hZ : Fx cc own nL d X Z) {pc n x j idx : Nat} {ls : List (Nat × Value)} {st : List Value} {h : Hp} (hj : j < 4) (hd : decode cc pc = .ok (.getstatic idx, 3)) (hlink : Cond.fieldLink own idx (roC j).1 (roC j).2.1 "[I" ∈ TT) (kk : R Z (pc + 3) ls (.ref (BB + j) :: st) n h x) : R Z pc ls st n h x := by
  obtain ⟨p, l, e, Rm, s, m, args, below, meth, c, D, cA, ad0, n0, N1, z0, F⟩ := Z
  obtain ⟨hx, hb, hml, hown, hts, hK, hSt, hz, hlk, hN, hd1, hd2, hc1, hs1⟩ := hZ
  intro ad H locs la ha h1 h2 hl0 hs0 hR hS hl
  have e1 : cv ad (.ref (BB + j)) = .ref (ad0 (BB + j)) := congrArg Value.ref (ha _ (Or.inr (Nat.le_add_right _ _)))
  refine va_gets (v := .ref (ad0 (BB + j))) hx hb (hSt.1 j hj).1 hS hown (hts _ hlink) (fun _ q => q) hd ?_
  rw [← e1]
  exact kk ad H locs la ha h1 h2 hl0 ⟨Or.inr (Nat.le_add_right _ _), hs0⟩ hR hS hl
theorem r_aN (hZ : Fx cc own nL d X Z) {pc n x : Nat} {ls : List (Nat × Value)} {st : List Value} {h : Hp} {a : Nat} {v : Int32} (hd : decode cc pc = .ok (.arraylength, 1)) (hg : aN h a = some v) (kk : R Z (pc + 1) ls (.int v :: st) n h x) : R Z pc ls (.ref a :: st) n h x := by
  unfold aN at hg
  split at hg
  · rename_i t len f ho
    split at hg
    · rename_i ht
      cases hg
      obtain ⟨p, l, e, Rm, s, m, args, below, meth, c, D, cA, ad0, n0, N1, z0, F⟩ := Z
      obtain ⟨hx, hb, hml, hown, hts, hK, hSt, hz, hlk, hN, hd1, hd2, hc1, hs1⟩ := hZ
      intro ad H locs la ha h1 h2 hl0 hs0 hR hS hl
      have e1 : Int32.ofNat (ca ad (len, f)).1 = Int32.ofNat len := by
        rcases f with f | f | f | f | f <;> rfl
      have e2 : ∃ ty, (tyz cA)[t]? = some (cA t, ty) := by
        match t, ht with
        | 0, _ => exact ⟨_, rfl⟩
        | 1, _ => exact ⟨_, rfl⟩
        | 2, _ => exact ⟨_, rfl⟩
        | 3, _ => exact ⟨_, rfl⟩
        | 4, _ => exact ⟨_, rfl⟩
        | 5, _ => exact ⟨_, rfl⟩
      obtain ⟨ty, e2⟩ := e2
      exact va_alen hx hb hK hR.2.2.2.1 a t (hR.at ho) e2 e1 hd (kk ad H locs la ha h1 h2 hl0 ⟨trivial, hs0.2⟩ hR hS hl)
    · cases hg
  · cases hg
end HS
