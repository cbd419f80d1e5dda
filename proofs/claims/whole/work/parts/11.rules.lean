def lget : List (Nat × Value) → Nat → Option Value
  | [], _ => none
  | q :: l, i => if q.1 = i then some q.2 else lget l i
theorem lget_mem : ∀ {l : List (Nat × Value)} {i : Nat} {v : Value}, lget l i = some v → (i, v) ∈ l
  | [], _, _, h => by cases h
  | q :: l, i, v, h => by
    simp only [lget] at h
    split at h
    · rename_i e
      cases h
      subst e
      exact List.mem_cons_self
    · exact List.mem_cons_of_mem _ (lget_mem h)
theorem lget_at {l : List (Nat × Value)} {i : Nat} {v : Value} {ad : Nat → Nat} {la : Array Slot} {nL : Nat} (h : lget l i = some v) (hl : lv_has la nL (lmap ad l)) : la[i]? = some (.val (cv ad v)) :=
  hl.2.2 (i, cv ad v) (List.mem_map.mpr ⟨(i, v), lget_mem h, rfl⟩)
theorem lok_mem {n : Nat} : ∀ {l : List (Nat × Value)}, lok n l → ∀ q ∈ l, vok n q.2
  | [], _, q, h => by cases h
  | _ :: l, hl, q, h => (List.mem_cons.mp h).elim (fun e => e ▸ hl.1) (fun h => lok_mem hl.2 q h)
theorem lok_of {n : Nat} : ∀ {l : List (Nat × Value)}, (∀ q ∈ l, vok n q.2) → lok n l
  | [], _ => trivial
  | _ :: l, h => ⟨h _ List.mem_cons_self, lok_of fun q hq => h q (List.mem_cons_of_mem _ hq)⟩
def lset (l : List (Nat × Value)) (i : Nat) (v : Value) : List (Nat × Value) := (i, v) :: l.filter (fun q => !(q.1 == i) && !(q.1 + 1 == i && q.2.category == 2))
def lset2 (l : List (Nat × Value)) (i : Nat) (v : Value) : List (Nat × Value) := (i, v) :: l.filter (fun q => !(q.1 == i) && (!(q.1 == i + 1) && !(q.1 + 1 == i && q.2.category == 2)))
theorem lset_map (ad : Nat → Nat) (l : List (Nat × Value)) (i : Nat) (v : Value) : (i, cv ad v) :: (lmap ad l).filter (fun q => !(q.1 == i) && !(q.1 + 1 == i && q.2.category == 2)) = lmap ad (lset l i v) := by
  simp only [lset, lmap, List.map_cons, List.filter_map]
  congr 2
  apply List.filter_congr
  intro q _
  simp [cv_cat]
theorem lset2_map (ad : Nat → Nat) (l : List (Nat × Value)) (i : Nat) (v : Value) : (i, cv ad v) :: (lmap ad l).filter (fun q => !(q.1 == i) && (!(q.1 == i + 1) && !(q.1 + 1 == i && q.2.category == 2))) = lmap ad (lset2 l i v) := by
  simp only [lset2, lmap, List.map_cons, List.filter_map]
  congr 2
  apply List.filter_congr
  intro q _
  simp [cv_cat]
theorem lset_ok {n : Nat} {l : List (Nat × Value)} {i : Nat} {v : Value} (hl : lok n l) (hv : vok n v) : lok n (lset l i v) := ⟨hv, lok_of fun q hq => lok_mem hl q (List.mem_filter.mp hq).1⟩
theorem lset2_ok {n : Nat} {l : List (Nat × Value)} {i : Nat} {v : Value} (hl : lok n l) (hv : vok n v) : lok n (lset2 l i v) := ⟨hv, lok_of fun q hq => lok_mem hl q (List.mem_filter.mp hq).1⟩
def lpick (l : List (Nat × Value)) : List Nat → List (Nat × Value)
  | [] => []
  | i :: is => match lget l i with
    | some v => (i, v) :: lpick l is
    | none => lpick l is
theorem lpick_mem {l : List (Nat × Value)} : ∀ {is : List Nat}, ∀ q ∈ lpick l is, q ∈ l
  | [], q, h => by cases h
  | i :: is, q, h => by
    simp only [lpick] at h
    split at h
    · rename_i v hv
      rcases List.mem_cons.mp h with rfl | h
      · exact lget_mem hv
      · exact lpick_mem q h
    · exact lpick_mem q h
/-- fewer locals, by their numbers -/
theorem r_pick {Z : Zc} {pc n x : Nat} {ls ls' : List (Nat × Value)} {st : List Value} {h : Hp} (is : List Nat) (hp : lpick ls is = ls') (k : R Z pc ls' st n h x) : R Z pc ls st n h x := by
  obtain ⟨p, l, e, Rm, s, m, args, below, meth, c, D, cA, ad0, n0, N1, z0, F⟩ := Z
  intro ad H locs la ha h1 h2 hl0 hs0 hR hS hl
  subst hp
  refine k ad H locs la ha h1 h2 (lok_of fun q hq => lok_mem hl0 q (lpick_mem q hq)) hs0 hR hS ⟨hl.1, hl.2.1, fun q hq => ?_⟩
  obtain ⟨q0, h0, e0⟩ := List.mem_map.mp hq
  exact hl.2.2 q (List.mem_map.mpr ⟨q0, lpick_mem q0 h0, e0⟩)
theorem r_iconst {Z : Zc} {cc : ByteArray} {own : String} {nL d X : Nat} (hZ : Fx cc own nL d X Z) {pc n x : Nat} {ls : List (Nat × Value)} {st : List Value} {h : Hp} {i : Int} {v : Int32} (hd : decode cc pc = .ok (.iconst i, 1)) (hv : Int32.ofInt i = v) (k : R Z (pc + 1) ls (.int v :: st) n h x) : R Z pc ls (st) n h x := by
  obtain ⟨p, l, e, Rm, s, m, args, below, meth, c, D, cA, ad0, n0, N1, z0, F⟩ := Z
  obtain ⟨hx, hb, hml, hown, hts, hK, hSt, hz, hlk, hN, hd1, hd2, hc1, hs1⟩ := hZ
  intro ad H locs la ha h1 h2 hl0 hs0 hR hS hl
  exact lv_iconst hx hb hd hv (k ad H locs la ha h1 h2 hl0 ⟨trivial, hs0⟩ hR hS hl)
theorem r_bipush {Z : Zc} {cc : ByteArray} {own : String} {nL d X : Nat} (hZ : Fx cc own nL d X Z) {pc n x : Nat} {ls : List (Nat × Value)} {st : List Value} {h : Hp} {i : Int} {v : Int32} (hd : decode cc pc = .ok (.bipush i, 2)) (hv : (Int8.ofInt i).toInt32 = v) (k : R Z (pc + 2) ls (.int v :: st) n h x) : R Z pc ls (st) n h x := by
  obtain ⟨p, l, e, Rm, s, m, args, below, meth, c, D, cA, ad0, n0, N1, z0, F⟩ := Z
  obtain ⟨hx, hb, hml, hown, hts, hK, hSt, hz, hlk, hN, hd1, hd2, hc1, hs1⟩ := hZ
  intro ad H locs la ha h1 h2 hl0 hs0 hR hS hl
  exact lv_bipush hx hb hd hv (k ad H locs la ha h1 h2 hl0 ⟨trivial, hs0⟩ hR hS hl)
theorem r_sipush {Z : Zc} {cc : ByteArray} {own : String} {nL d X : Nat} (hZ : Fx cc own nL d X Z) {pc n x : Nat} {ls : List (Nat × Value)} {st : List Value} {h : Hp} {i : Int} {v : Int32} (hd : decode cc pc = .ok (.sipush i, 3)) (hv : (Int16.ofInt i).toInt32 = v) (k : R Z (pc + 3) ls (.int v :: st) n h x) : R Z pc ls (st) n h x := by
  obtain ⟨p, l, e, Rm, s, m, args, below, meth, c, D, cA, ad0, n0, N1, z0, F⟩ := Z
  obtain ⟨hx, hb, hml, hown, hts, hK, hSt, hz, hlk, hN, hd1, hd2, hc1, hs1⟩ := hZ
  intro ad H locs la ha h1 h2 hl0 hs0 hR hS hl
  exact lv_sipush hx hb hd hv (k ad H locs la ha h1 h2 hl0 ⟨trivial, hs0⟩ hR hS hl)
theorem r_lconst {Z : Zc} {cc : ByteArray} {own : String} {nL d X : Nat} (hZ : Fx cc own nL d X Z) {pc n x : Nat} {ls : List (Nat × Value)} {st : List Value} {h : Hp} {i : Fin 2} {v : Int64} (hd : decode cc pc = .ok (.lconst i, 1)) (hv : Int64.ofNat (i : Nat) = v) (k : R Z (pc + 1) ls (.long v :: st) n h x) : R Z pc ls (st) n h x := by
  obtain ⟨p, l, e, Rm, s, m, args, below, meth, c, D, cA, ad0, n0, N1, z0, F⟩ := Z
  obtain ⟨hx, hb, hml, hown, hts, hK, hSt, hz, hlk, hN, hd1, hd2, hc1, hs1⟩ := hZ
  intro ad H locs la ha h1 h2 hl0 hs0 hR hS hl
  exact lv_lconst hx hb hd hv (k ad H locs la ha h1 h2 hl0 ⟨trivial, hs0⟩ hR hS hl)
theorem r_ldc {Z : Zc} {cc : ByteArray} {own : String} {nL d X : Nat} (hZ : Fx cc own nL d X Z) {pc n x : Nat} {ls : List (Nat × Value)} {st : List Value} {h : Hp} {i : Nat} {v : Int32} (hw : Cond.constant own i v ∈ TT) (hd : decode cc pc = .ok (.ldc i, 2)) (k : R Z (pc + 2) ls (.int v :: st) n h x) : R Z pc ls (st) n h x := by
  obtain ⟨p, l, e, Rm, s, m, args, below, meth, c, D, cA, ad0, n0, N1, z0, F⟩ := Z
  obtain ⟨hx, hb, hml, hown, hts, hK, hSt, hz, hlk, hN, hd1, hd2, hc1, hs1⟩ := hZ
  intro ad H locs la ha h1 h2 hl0 hs0 hR hS hl
  exact lv_ldc hx hb hown (hts _ hw) hd (k ad H locs la ha h1 h2 hl0 ⟨trivial, hs0⟩ hR hS hl)
theorem r_ldcw {Z : Zc} {cc : ByteArray} {own : String} {nL d X : Nat} (hZ : Fx cc own nL d X Z) {pc n x : Nat} {ls : List (Nat × Value)} {st : List Value} {h : Hp} {i : Nat} {v : Int32} (hw : Cond.constant own i v ∈ TT) (hd : decode cc pc = .ok (.ldc_w i, 3)) (k : R Z (pc + 3) ls (.int v :: st) n h x) : R Z pc ls (st) n h x := by
  obtain ⟨p, l, e, Rm, s, m, args, below, meth, c, D, cA, ad0, n0, N1, z0, F⟩ := Z
  obtain ⟨hx, hb, hml, hown, hts, hK, hSt, hz, hlk, hN, hd1, hd2, hc1, hs1⟩ := hZ
  intro ad H locs la ha h1 h2 hl0 hs0 hR hS hl
  exact lv_ldcw hx hb hown (hts _ hw) hd (k ad H locs la ha h1 h2 hl0 ⟨trivial, hs0⟩ hR hS hl)
theorem r_ldc2 {Z : Zc} {cc : ByteArray} {own : String} {nL d X : Nat} (hZ : Fx cc own nL d X Z) {pc n x : Nat} {ls : List (Nat × Value)} {st : List Value} {h : Hp} {i : Nat} {v : Int64} (hw : Cond.constantLong own i v ∈ TT) (hd : decode cc pc = .ok (.ldc2_w i, 3)) (k : R Z (pc + 3) ls (.long v :: st) n h x) : R Z pc ls (st) n h x := by
  obtain ⟨p, l, e, Rm, s, m, args, below, meth, c, D, cA, ad0, n0, N1, z0, F⟩ := Z
  obtain ⟨hx, hb, hml, hown, hts, hK, hSt, hz, hlk, hN, hd1, hd2, hc1, hs1⟩ := hZ
  intro ad H locs la ha h1 h2 hl0 hs0 hR hS hl
  exact lv_ldc2 hx hb hown (hts _ hw) hd (k ad H locs la ha h1 h2 hl0 ⟨trivial, hs0⟩ hR hS hl)
theorem r_iload_n {Z : Zc} {cc : ByteArray} {own : String} {nL d X : Nat} (hZ : Fx cc own nL d X Z) {pc n x : Nat} {ls : List (Nat × Value)} {st : List Value} {h : Hp} {i : Fin 4} {v : Int32} (hd : decode cc pc = .ok (.iload_n i, 1)) (hv : lget ls (i : Nat) = some (.int v)) (k : R Z (pc + 1) ls (.int v :: st) n h x) : R Z pc ls (st) n h x := by
  obtain ⟨p, l, e, Rm, s, m, args, below, meth, c, D, cA, ad0, n0, N1, z0, F⟩ := Z
  obtain ⟨hx, hb, hml, hown, hts, hK, hSt, hz, hlk, hN, hd1, hd2, hc1, hs1⟩ := hZ
  intro ad H locs la ha h1 h2 hl0 hs0 hR hS hl
  exact lv_iload_n hx hb hd rfl (lget_at hv hl) (k ad H locs la ha h1 h2 hl0 ⟨trivial, hs0⟩ hR hS hl)
theorem r_iload {Z : Zc} {cc : ByteArray} {own : String} {nL d X : Nat} (hZ : Fx cc own nL d X Z) {pc n x : Nat} {ls : List (Nat × Value)} {st : List Value} {h : Hp} {i : Nat} {v : Int32} (hd : decode cc pc = .ok (.iload i, 2)) (hv : lget ls i = some (.int v)) (k : R Z (pc + 2) ls (.int v :: st) n h x) : R Z pc ls (st) n h x := by
  obtain ⟨p, l, e, Rm, s, m, args, below, meth, c, D, cA, ad0, n0, N1, z0, F⟩ := Z
  obtain ⟨hx, hb, hml, hown, hts, hK, hSt, hz, hlk, hN, hd1, hd2, hc1, hs1⟩ := hZ
  intro ad H locs la ha h1 h2 hl0 hs0 hR hS hl
  exact lv_iload hx hb hd (lget_at hv hl) (k ad H locs la ha h1 h2 hl0 ⟨trivial, hs0⟩ hR hS hl)
theorem r_lload_n {Z : Zc} {cc : ByteArray} {own : String} {nL d X : Nat} (hZ : Fx cc own nL d X Z) {pc n x : Nat} {ls : List (Nat × Value)} {st : List Value} {h : Hp} {i : Fin 4} {v : Int64} (hd : decode cc pc = .ok (.lload_n i, 1)) (hv : lget ls (i : Nat) = some (.long v)) (k : R Z (pc + 1) ls (.long v :: st) n h x) : R Z pc ls (st) n h x := by
  obtain ⟨p, l, e, Rm, s, m, args, below, meth, c, D, cA, ad0, n0, N1, z0, F⟩ := Z
  obtain ⟨hx, hb, hml, hown, hts, hK, hSt, hz, hlk, hN, hd1, hd2, hc1, hs1⟩ := hZ
  intro ad H locs la ha h1 h2 hl0 hs0 hR hS hl
  exact lv_lload_n hx hb hd rfl (lget_at hv hl) (k ad H locs la ha h1 h2 hl0 ⟨trivial, hs0⟩ hR hS hl)
theorem r_lload {Z : Zc} {cc : ByteArray} {own : String} {nL d X : Nat} (hZ : Fx cc own nL d X Z) {pc n x : Nat} {ls : List (Nat × Value)} {st : List Value} {h : Hp} {i : Nat} {v : Int64} (hd : decode cc pc = .ok (.lload i, 2)) (hv : lget ls i = some (.long v)) (k : R Z (pc + 2) ls (.long v :: st) n h x) : R Z pc ls (st) n h x := by
  obtain ⟨p, l, e, Rm, s, m, args, below, meth, c, D, cA, ad0, n0, N1, z0, F⟩ := Z
  obtain ⟨hx, hb, hml, hown, hts, hK, hSt, hz, hlk, hN, hd1, hd2, hc1, hs1⟩ := hZ
  intro ad H locs la ha h1 h2 hl0 hs0 hR hS hl
  exact lv_lload hx hb hd (lget_at hv hl) (k ad H locs la ha h1 h2 hl0 ⟨trivial, hs0⟩ hR hS hl)
theorem r_aload_n {Z : Zc} {cc : ByteArray} {own : String} {nL d X : Nat} (hZ : Fx cc own nL d X Z) {pc n x : Nat} {ls : List (Nat × Value)} {st : List Value} {h : Hp} {i : Fin 4} {v : Nat} (hd : decode cc pc = .ok (.aload_n i, 1)) (hv : lget ls (i : Nat) = some (.ref v)) (k : R Z (pc + 1) ls (.ref v :: st) n h x) : R Z pc ls (st) n h x := by
  obtain ⟨p, l, e, Rm, s, m, args, below, meth, c, D, cA, ad0, n0, N1, z0, F⟩ := Z
  obtain ⟨hx, hb, hml, hown, hts, hK, hSt, hz, hlk, hN, hd1, hd2, hc1, hs1⟩ := hZ
  intro ad H locs la ha h1 h2 hl0 hs0 hR hS hl
  exact lv_aload_n hx hb hd rfl (lget_at hv hl) (k ad H locs la ha h1 h2 hl0 ⟨lok_mem hl0 _ (lget_mem hv), hs0⟩ hR hS hl)
theorem r_aload {Z : Zc} {cc : ByteArray} {own : String} {nL d X : Nat} (hZ : Fx cc own nL d X Z) {pc n x : Nat} {ls : List (Nat × Value)} {st : List Value} {h : Hp} {i : Nat} {v : Nat} (hd : decode cc pc = .ok (.aload i, 2)) (hv : lget ls i = some (.ref v)) (k : R Z (pc + 2) ls (.ref v :: st) n h x) : R Z pc ls (st) n h x := by
  obtain ⟨p, l, e, Rm, s, m, args, below, meth, c, D, cA, ad0, n0, N1, z0, F⟩ := Z
  obtain ⟨hx, hb, hml, hown, hts, hK, hSt, hz, hlk, hN, hd1, hd2, hc1, hs1⟩ := hZ
  intro ad H locs la ha h1 h2 hl0 hs0 hR hS hl
  exact lv_aload hx hb hd (lget_at hv hl) (k ad H locs la ha h1 h2 hl0 ⟨lok_mem hl0 _ (lget_mem hv), hs0⟩ hR hS hl)
theorem r_istore_n {Z : Zc} {cc : ByteArray} {own : String} {nL d X : Nat} (hZ : Fx cc own nL d X Z) {pc n x : Nat} {ls : List (Nat × Value)} {st : List Value} {h : Hp} {i : Fin 4} {v : Int32} (hd : decode cc pc = .ok (.istore_n i, 1)) (hn : (i : Nat) < nL) (k : R Z (pc + 1) (lset ls (i : Nat) (.int v)) st n h x) : R Z pc ls (.int v :: st) n h x := by
  obtain ⟨p, l, e, Rm, s, m, args, below, meth, c, D, cA, ad0, n0, N1, z0, F⟩ := Z
  obtain ⟨hx, hb, hml, hown, hts, hK, hSt, hz, hlk, hN, hd1, hd2, hc1, hs1⟩ := hZ
  intro ad H locs la ha h1 h2 hl0 hs0 hR hS hl
  exact lv_istore_n hx hb hd rfl (hml ▸ hl) hn (lset_map ad ls (i : Nat) (.int v)) (fun la hl => k ad H locs la ha h1 h2 (lset_ok hl0 trivial) hs0.2 hR hS (by rw [hml]; exact hl))
theorem r_istore {Z : Zc} {cc : ByteArray} {own : String} {nL d X : Nat} (hZ : Fx cc own nL d X Z) {pc n x : Nat} {ls : List (Nat × Value)} {st : List Value} {h : Hp} {i : Nat} {v : Int32} (hd : decode cc pc = .ok (.istore i, 2)) (hn : i < nL) (k : R Z (pc + 2) (lset ls i (.int v)) st n h x) : R Z pc ls (.int v :: st) n h x := by
  obtain ⟨p, l, e, Rm, s, m, args, below, meth, c, D, cA, ad0, n0, N1, z0, F⟩ := Z
  obtain ⟨hx, hb, hml, hown, hts, hK, hSt, hz, hlk, hN, hd1, hd2, hc1, hs1⟩ := hZ
  intro ad H locs la ha h1 h2 hl0 hs0 hR hS hl
  exact lv_istore hx hb hd (hml ▸ hl) hn (lset_map ad ls i (.int v)) (fun la hl => k ad H locs la ha h1 h2 (lset_ok hl0 trivial) hs0.2 hR hS (by rw [hml]; exact hl))
theorem r_lstore_n {Z : Zc} {cc : ByteArray} {own : String} {nL d X : Nat} (hZ : Fx cc own nL d X Z) {pc n x : Nat} {ls : List (Nat × Value)} {st : List Value} {h : Hp} {i : Fin 4} {v : Int64} (hd : decode cc pc = .ok (.lstore_n i, 1)) (hn : (i : Nat) + 1 < nL) (k : R Z (pc + 1) (lset2 ls (i : Nat) (.long v)) st n h x) : R Z pc ls (.long v :: st) n h x := by
  obtain ⟨p, l, e, Rm, s, m, args, below, meth, c, D, cA, ad0, n0, N1, z0, F⟩ := Z
  obtain ⟨hx, hb, hml, hown, hts, hK, hSt, hz, hlk, hN, hd1, hd2, hc1, hs1⟩ := hZ
  intro ad H locs la ha h1 h2 hl0 hs0 hR hS hl
  exact lv_lstore_n hx hb hd rfl (hml ▸ hl) hn (lset2_map ad ls (i : Nat) (.long v)) (fun la hl => k ad H locs la ha h1 h2 (lset2_ok hl0 trivial) hs0.2 hR hS (by rw [hml]; exact hl))
theorem r_lstore {Z : Zc} {cc : ByteArray} {own : String} {nL d X : Nat} (hZ : Fx cc own nL d X Z) {pc n x : Nat} {ls : List (Nat × Value)} {st : List Value} {h : Hp} {i : Nat} {v : Int64} (hd : decode cc pc = .ok (.lstore i, 2)) (hn : i + 1 < nL) (k : R Z (pc + 2) (lset2 ls i (.long v)) st n h x) : R Z pc ls (.long v :: st) n h x := by
  obtain ⟨p, l, e, Rm, s, m, args, below, meth, c, D, cA, ad0, n0, N1, z0, F⟩ := Z
  obtain ⟨hx, hb, hml, hown, hts, hK, hSt, hz, hlk, hN, hd1, hd2, hc1, hs1⟩ := hZ
  intro ad H locs la ha h1 h2 hl0 hs0 hR hS hl
  exact lv_lstore hx hb hd (hml ▸ hl) hn (lset2_map ad ls i (.long v)) (fun la hl => k ad H locs la ha h1 h2 (lset2_ok hl0 trivial) hs0.2 hR hS (by rw [hml]; exact hl))
theorem r_astore_n {Z : Zc} {cc : ByteArray} {own : String} {nL d X : Nat} (hZ : Fx cc own nL d X Z) {pc n x : Nat} {ls : List (Nat × Value)} {st : List Value} {h : Hp} {i : Fin 4} {v : Nat} (hd : decode cc pc = .ok (.astore_n i, 1)) (hn : (i : Nat) < nL) (k : R Z (pc + 1) (lset ls (i : Nat) (.ref v)) st n h x) : R Z pc ls (.ref v :: st) n h x := by
  obtain ⟨p, l, e, Rm, s, m, args, below, meth, c, D, cA, ad0, n0, N1, z0, F⟩ := Z
  obtain ⟨hx, hb, hml, hown, hts, hK, hSt, hz, hlk, hN, hd1, hd2, hc1, hs1⟩ := hZ
  intro ad H locs la ha h1 h2 hl0 hs0 hR hS hl
  exact lv_astore_n hx hb hd rfl (hml ▸ hl) hn (lset_map ad ls (i : Nat) (.ref v)) (fun la hl => k ad H locs la ha h1 h2 (lset_ok hl0 hs0.1) hs0.2 hR hS (by rw [hml]; exact hl))
theorem r_astore {Z : Zc} {cc : ByteArray} {own : String} {nL d X : Nat} (hZ : Fx cc own nL d X Z) {pc n x : Nat} {ls : List (Nat × Value)} {st : List Value} {h : Hp} {i : Nat} {v : Nat} (hd : decode cc pc = .ok (.astore i, 2)) (hn : i < nL) (k : R Z (pc + 2) (lset ls i (.ref v)) st n h x) : R Z pc ls (.ref v :: st) n h x := by
  obtain ⟨p, l, e, Rm, s, m, args, below, meth, c, D, cA, ad0, n0, N1, z0, F⟩ := Z
  obtain ⟨hx, hb, hml, hown, hts, hK, hSt, hz, hlk, hN, hd1, hd2, hc1, hs1⟩ := hZ
  intro ad H locs la ha h1 h2 hl0 hs0 hR hS hl
  exact lv_astore hx hb hd (hml ▸ hl) hn (lset_map ad ls i (.ref v)) (fun la hl => k ad H locs la ha h1 h2 (lset_ok hl0 hs0.1) hs0.2 hR hS (by rw [hml]; exact hl))
theorem r_iinc {Z : Zc} {cc : ByteArray} {own : String} {nL d X : Nat} (hZ : Fx cc own nL d X Z) {pc n x : Nat} {ls : List (Nat × Value)} {st : List Value} {h : Hp} {i : Nat} {z : Int} {v w : Int32} (hd : decode cc pc = .ok (.iinc i z, 3)) (hn : i < nL) (hv : lget ls i = some (.int v)) (hzv : Int32.ofInt z = w) (k : R Z (pc + 3) (lset ls i (.int (v + w))) st n h x) : R Z pc ls st n h x := by
  obtain ⟨p, l, e, Rm, s, m, args, below, meth, c, D, cA, ad0, n0, N1, z0, F⟩ := Z
  obtain ⟨hx, hb, hml, hown, hts, hK, hSt, hz, hlk, hN, hd1, hd2, hc1, hs1⟩ := hZ
  intro ad H locs la ha h1 h2 hl0 hs0 hR hS hl
  obtain ⟨j, hj⟩ := List.getElem?_of_mem (List.mem_map.mpr ⟨(i, .int v), lget_mem hv, rfl⟩ : (i, cv ad (.int v)) ∈ lmap ad ls)
  exact lv_iinc hx hb hd (hml ▸ hl) hj (by rw [hzv]) hn (lset_map ad ls i (.int (v + w))) (fun la hl => k ad H locs la ha h1 h2 (lset_ok hl0 trivial) hs0 hR hS (by rw [hml]; exact hl))
theorem r_iadd {Z : Zc} {cc : ByteArray} {own : String} {nL d X : Nat} (hZ : Fx cc own nL d X Z) {pc n x : Nat} {ls : List (Nat × Value)} {st : List Value} {h : Hp} {a b : Int32} (hd : decode cc pc = .ok (.iadd, 1)) (k : R Z (pc + 1) ls (.int (a + b) :: st) n h x) : R Z pc ls (.int b :: .int a :: st) n h x := by
  obtain ⟨p, l, e, Rm, s, m, args, below, meth, c, D, cA, ad0, n0, N1, z0, F⟩ := Z
  obtain ⟨hx, hb, hml, hown, hts, hK, hSt, hz, hlk, hN, hd1, hd2, hc1, hs1⟩ := hZ
  intro ad H locs la ha h1 h2 hl0 hs0 hR hS hl
  exact lv_iadd hx hb hd (k ad H locs la ha h1 h2 hl0 ⟨trivial, hs0.2.2⟩ hR hS hl)
theorem r_isub {Z : Zc} {cc : ByteArray} {own : String} {nL d X : Nat} (hZ : Fx cc own nL d X Z) {pc n x : Nat} {ls : List (Nat × Value)} {st : List Value} {h : Hp} {a b : Int32} (hd : decode cc pc = .ok (.isub, 1)) (k : R Z (pc + 1) ls (.int (a - b) :: st) n h x) : R Z pc ls (.int b :: .int a :: st) n h x := by
  obtain ⟨p, l, e, Rm, s, m, args, below, meth, c, D, cA, ad0, n0, N1, z0, F⟩ := Z
  obtain ⟨hx, hb, hml, hown, hts, hK, hSt, hz, hlk, hN, hd1, hd2, hc1, hs1⟩ := hZ
  intro ad H locs la ha h1 h2 hl0 hs0 hR hS hl
  exact lv_isub hx hb hd (k ad H locs la ha h1 h2 hl0 ⟨trivial, hs0.2.2⟩ hR hS hl)
theorem r_imul {Z : Zc} {cc : ByteArray} {own : String} {nL d X : Nat} (hZ : Fx cc own nL d X Z) {pc n x : Nat} {ls : List (Nat × Value)} {st : List Value} {h : Hp} {a b : Int32} (hd : decode cc pc = .ok (.imul, 1)) (k : R Z (pc + 1) ls (.int (a * b) :: st) n h x) : R Z pc ls (.int b :: .int a :: st) n h x := by
  obtain ⟨p, l, e, Rm, s, m, args, below, meth, c, D, cA, ad0, n0, N1, z0, F⟩ := Z
  obtain ⟨hx, hb, hml, hown, hts, hK, hSt, hz, hlk, hN, hd1, hd2, hc1, hs1⟩ := hZ
  intro ad H locs la ha h1 h2 hl0 hs0 hR hS hl
  exact lv_imul hx hb hd (k ad H locs la ha h1 h2 hl0 ⟨trivial, hs0.2.2⟩ hR hS hl)
theorem r_iand {Z : Zc} {cc : ByteArray} {own : String} {nL d X : Nat} (hZ : Fx cc own nL d X Z) {pc n x : Nat} {ls : List (Nat × Value)} {st : List Value} {h : Hp} {a b : Int32} (hd : decode cc pc = .ok (.iand, 1)) (k : R Z (pc + 1) ls (.int (a &&& b) :: st) n h x) : R Z pc ls (.int b :: .int a :: st) n h x := by
  obtain ⟨p, l, e, Rm, s, m, args, below, meth, c, D, cA, ad0, n0, N1, z0, F⟩ := Z
  obtain ⟨hx, hb, hml, hown, hts, hK, hSt, hz, hlk, hN, hd1, hd2, hc1, hs1⟩ := hZ
  intro ad H locs la ha h1 h2 hl0 hs0 hR hS hl
  exact lv_iand hx hb hd (k ad H locs la ha h1 h2 hl0 ⟨trivial, hs0.2.2⟩ hR hS hl)
theorem r_ior {Z : Zc} {cc : ByteArray} {own : String} {nL d X : Nat} (hZ : Fx cc own nL d X Z) {pc n x : Nat} {ls : List (Nat × Value)} {st : List Value} {h : Hp} {a b : Int32} (hd : decode cc pc = .ok (.ior, 1)) (k : R Z (pc + 1) ls (.int (a ||| b) :: st) n h x) : R Z pc ls (.int b :: .int a :: st) n h x := by
  obtain ⟨p, l, e, Rm, s, m, args, below, meth, c, D, cA, ad0, n0, N1, z0, F⟩ := Z
  obtain ⟨hx, hb, hml, hown, hts, hK, hSt, hz, hlk, hN, hd1, hd2, hc1, hs1⟩ := hZ
  intro ad H locs la ha h1 h2 hl0 hs0 hR hS hl
  exact lv_ior hx hb hd (k ad H locs la ha h1 h2 hl0 ⟨trivial, hs0.2.2⟩ hR hS hl)
theorem r_ixor {Z : Zc} {cc : ByteArray} {own : String} {nL d X : Nat} (hZ : Fx cc own nL d X Z) {pc n x : Nat} {ls : List (Nat × Value)} {st : List Value} {h : Hp} {a b : Int32} (hd : decode cc pc = .ok (.ixor, 1)) (k : R Z (pc + 1) ls (.int (a ^^^ b) :: st) n h x) : R Z pc ls (.int b :: .int a :: st) n h x := by
  obtain ⟨p, l, e, Rm, s, m, args, below, meth, c, D, cA, ad0, n0, N1, z0, F⟩ := Z
  obtain ⟨hx, hb, hml, hown, hts, hK, hSt, hz, hlk, hN, hd1, hd2, hc1, hs1⟩ := hZ
  intro ad H locs la ha h1 h2 hl0 hs0 hR hS hl
  exact lv_ixor hx hb hd (k ad H locs la ha h1 h2 hl0 ⟨trivial, hs0.2.2⟩ hR hS hl)
theorem r_ladd {Z : Zc} {cc : ByteArray} {own : String} {nL d X : Nat} (hZ : Fx cc own nL d X Z) {pc n x : Nat} {ls : List (Nat × Value)} {st : List Value} {h : Hp} {a b : Int64} (hd : decode cc pc = .ok (.ladd, 1)) (k : R Z (pc + 1) ls (.long (a + b) :: st) n h x) : R Z pc ls (.long b :: .long a :: st) n h x := by
  obtain ⟨p, l, e, Rm, s, m, args, below, meth, c, D, cA, ad0, n0, N1, z0, F⟩ := Z
  obtain ⟨hx, hb, hml, hown, hts, hK, hSt, hz, hlk, hN, hd1, hd2, hc1, hs1⟩ := hZ
  intro ad H locs la ha h1 h2 hl0 hs0 hR hS hl
  exact lv_ladd hx hb hd (k ad H locs la ha h1 h2 hl0 ⟨trivial, hs0.2.2⟩ hR hS hl)
theorem r_lsub {Z : Zc} {cc : ByteArray} {own : String} {nL d X : Nat} (hZ : Fx cc own nL d X Z) {pc n x : Nat} {ls : List (Nat × Value)} {st : List Value} {h : Hp} {a b : Int64} (hd : decode cc pc = .ok (.lsub, 1)) (k : R Z (pc + 1) ls (.long (a - b) :: st) n h x) : R Z pc ls (.long b :: .long a :: st) n h x := by
  obtain ⟨p, l, e, Rm, s, m, args, below, meth, c, D, cA, ad0, n0, N1, z0, F⟩ := Z
  obtain ⟨hx, hb, hml, hown, hts, hK, hSt, hz, hlk, hN, hd1, hd2, hc1, hs1⟩ := hZ
  intro ad H locs la ha h1 h2 hl0 hs0 hR hS hl
  exact lv_lsub hx hb hd (k ad H locs la ha h1 h2 hl0 ⟨trivial, hs0.2.2⟩ hR hS hl)
theorem r_lmul {Z : Zc} {cc : ByteArray} {own : String} {nL d X : Nat} (hZ : Fx cc own nL d X Z) {pc n x : Nat} {ls : List (Nat × Value)} {st : List Value} {h : Hp} {a b : Int64} (hd : decode cc pc = .ok (.lmul, 1)) (k : R Z (pc + 1) ls (.long (a * b) :: st) n h x) : R Z pc ls (.long b :: .long a :: st) n h x := by
  obtain ⟨p, l, e, Rm, s, m, args, below, meth, c, D, cA, ad0, n0, N1, z0, F⟩ := Z
  obtain ⟨hx, hb, hml, hown, hts, hK, hSt, hz, hlk, hN, hd1, hd2, hc1, hs1⟩ := hZ
  intro ad H locs la ha h1 h2 hl0 hs0 hR hS hl
  exact lv_lmul hx hb hd (k ad H locs la ha h1 h2 hl0 ⟨trivial, hs0.2.2⟩ hR hS hl)
theorem r_land {Z : Zc} {cc : ByteArray} {own : String} {nL d X : Nat} (hZ : Fx cc own nL d X Z) {pc n x : Nat} {ls : List (Nat × Value)} {st : List Value} {h : Hp} {a b : Int64} (hd : decode cc pc = .ok (.land, 1)) (k : R Z (pc + 1) ls (.long (a &&& b) :: st) n h x) : R Z pc ls (.long b :: .long a :: st) n h x := by
  obtain ⟨p, l, e, Rm, s, m, args, below, meth, c, D, cA, ad0, n0, N1, z0, F⟩ := Z
  obtain ⟨hx, hb, hml, hown, hts, hK, hSt, hz, hlk, hN, hd1, hd2, hc1, hs1⟩ := hZ
  intro ad H locs la ha h1 h2 hl0 hs0 hR hS hl
  exact lv_land hx hb hd (k ad H locs la ha h1 h2 hl0 ⟨trivial, hs0.2.2⟩ hR hS hl)
theorem r_lor {Z : Zc} {cc : ByteArray} {own : String} {nL d X : Nat} (hZ : Fx cc own nL d X Z) {pc n x : Nat} {ls : List (Nat × Value)} {st : List Value} {h : Hp} {a b : Int64} (hd : decode cc pc = .ok (.lor, 1)) (k : R Z (pc + 1) ls (.long (a ||| b) :: st) n h x) : R Z pc ls (.long b :: .long a :: st) n h x := by
  obtain ⟨p, l, e, Rm, s, m, args, below, meth, c, D, cA, ad0, n0, N1, z0, F⟩ := Z
  obtain ⟨hx, hb, hml, hown, hts, hK, hSt, hz, hlk, hN, hd1, hd2, hc1, hs1⟩ := hZ
  intro ad H locs la ha h1 h2 hl0 hs0 hR hS hl
  exact lv_lor hx hb hd (k ad H locs la ha h1 h2 hl0 ⟨trivial, hs0.2.2⟩ hR hS hl)
theorem r_lxor {Z : Zc} {cc : ByteArray} {own : String} {nL d X : Nat} (hZ : Fx cc own nL d X Z) {pc n x : Nat} {ls : List (Nat × Value)} {st : List Value} {h : Hp} {a b : Int64} (hd : decode cc pc = .ok (.lxor, 1)) (k : R Z (pc + 1) ls (.long (a ^^^ b) :: st) n h x) : R Z pc ls (.long b :: .long a :: st) n h x := by
  obtain ⟨p, l, e, Rm, s, m, args, below, meth, c, D, cA, ad0, n0, N1, z0, F⟩ := Z
  obtain ⟨hx, hb, hml, hown, hts, hK, hSt, hz, hlk, hN, hd1, hd2, hc1, hs1⟩ := hZ
  intro ad H locs la ha h1 h2 hl0 hs0 hR hS hl
  exact lv_lxor hx hb hd (k ad H locs la ha h1 h2 hl0 ⟨trivial, hs0.2.2⟩ hR hS hl)
theorem r_idiv {Z : Zc} {cc : ByteArray} {own : String} {nL d X : Nat} (hZ : Fx cc own nL d X Z) {pc n x : Nat} {ls : List (Nat × Value)} {st : List Value} {h : Hp} {a b : Int32} (hd : decode cc pc = .ok (.idiv, 1)) (hne : ¬ b = 0) (k : R Z (pc + 1) ls (.int (a / b) :: st) n h x) : R Z pc ls (.int b :: .int a :: st) n h x := by
  obtain ⟨p, l, e, Rm, s, m, args, below, meth, c, D, cA, ad0, n0, N1, z0, F⟩ := Z
  obtain ⟨hx, hb, hml, hown, hts, hK, hSt, hz, hlk, hN, hd1, hd2, hc1, hs1⟩ := hZ
  intro ad H locs la ha h1 h2 hl0 hs0 hR hS hl
  exact lv_idiv hx hb hd hne (k ad H locs la ha h1 h2 hl0 ⟨trivial, hs0.2.2⟩ hR hS hl)
theorem r_irem {Z : Zc} {cc : ByteArray} {own : String} {nL d X : Nat} (hZ : Fx cc own nL d X Z) {pc n x : Nat} {ls : List (Nat × Value)} {st : List Value} {h : Hp} {a b : Int32} (hd : decode cc pc = .ok (.irem, 1)) (hne : ¬ b = 0) (k : R Z (pc + 1) ls (.int (a - a / b * b) :: st) n h x) : R Z pc ls (.int b :: .int a :: st) n h x := by
  obtain ⟨p, l, e, Rm, s, m, args, below, meth, c, D, cA, ad0, n0, N1, z0, F⟩ := Z
  obtain ⟨hx, hb, hml, hown, hts, hK, hSt, hz, hlk, hN, hd1, hd2, hc1, hs1⟩ := hZ
  intro ad H locs la ha h1 h2 hl0 hs0 hR hS hl
  exact lv_irem hx hb hd hne (k ad H locs la ha h1 h2 hl0 ⟨trivial, hs0.2.2⟩ hR hS hl)
theorem r_ldiv {Z : Zc} {cc : ByteArray} {own : String} {nL d X : Nat} (hZ : Fx cc own nL d X Z) {pc n x : Nat} {ls : List (Nat × Value)} {st : List Value} {h : Hp} {a b : Int64} (hd : decode cc pc = .ok (.ldiv, 1)) (hne : ¬ b = 0) (k : R Z (pc + 1) ls (.long (a / b) :: st) n h x) : R Z pc ls (.long b :: .long a :: st) n h x := by
  obtain ⟨p, l, e, Rm, s, m, args, below, meth, c, D, cA, ad0, n0, N1, z0, F⟩ := Z
  obtain ⟨hx, hb, hml, hown, hts, hK, hSt, hz, hlk, hN, hd1, hd2, hc1, hs1⟩ := hZ
  intro ad H locs la ha h1 h2 hl0 hs0 hR hS hl
  exact lv_ldiv hx hb hd hne (k ad H locs la ha h1 h2 hl0 ⟨trivial, hs0.2.2⟩ hR hS hl)
theorem r_lrem {Z : Zc} {cc : ByteArray} {own : String} {nL d X : Nat} (hZ : Fx cc own nL d X Z) {pc n x : Nat} {ls : List (Nat × Value)} {st : List Value} {h : Hp} {a b : Int64} (hd : decode cc pc = .ok (.lrem, 1)) (hne : ¬ b = 0) (k : R Z (pc + 1) ls (.long (a - a / b * b) :: st) n h x) : R Z pc ls (.long b :: .long a :: st) n h x := by
  obtain ⟨p, l, e, Rm, s, m, args, below, meth, c, D, cA, ad0, n0, N1, z0, F⟩ := Z
  obtain ⟨hx, hb, hml, hown, hts, hK, hSt, hz, hlk, hN, hd1, hd2, hc1, hs1⟩ := hZ
  intro ad H locs la ha h1 h2 hl0 hs0 hR hS hl
  exact lv_lrem hx hb hd hne (k ad H locs la ha h1 h2 hl0 ⟨trivial, hs0.2.2⟩ hR hS hl)
theorem r_ineg {Z : Zc} {cc : ByteArray} {own : String} {nL d X : Nat} (hZ : Fx cc own nL d X Z) {pc n x : Nat} {ls : List (Nat × Value)} {st : List Value} {h : Hp} {a : Int32} (hd : decode cc pc = .ok (.ineg, 1)) (k : R Z (pc + 1) ls (.int (-a) :: st) n h x) : R Z pc ls (.int a :: st) n h x := by
  obtain ⟨p, l, e, Rm, s, m, args, below, meth, c, D, cA, ad0, n0, N1, z0, F⟩ := Z
  obtain ⟨hx, hb, hml, hown, hts, hK, hSt, hz, hlk, hN, hd1, hd2, hc1, hs1⟩ := hZ
  intro ad H locs la ha h1 h2 hl0 hs0 hR hS hl
  exact lv_ineg hx hb hd (k ad H locs la ha h1 h2 hl0 ⟨trivial, hs0.2⟩ hR hS hl)
theorem r_lneg {Z : Zc} {cc : ByteArray} {own : String} {nL d X : Nat} (hZ : Fx cc own nL d X Z) {pc n x : Nat} {ls : List (Nat × Value)} {st : List Value} {h : Hp} {a : Int64} (hd : decode cc pc = .ok (.lneg, 1)) (k : R Z (pc + 1) ls (.long (-a) :: st) n h x) : R Z pc ls (.long a :: st) n h x := by
  obtain ⟨p, l, e, Rm, s, m, args, below, meth, c, D, cA, ad0, n0, N1, z0, F⟩ := Z
  obtain ⟨hx, hb, hml, hown, hts, hK, hSt, hz, hlk, hN, hd1, hd2, hc1, hs1⟩ := hZ
  intro ad H locs la ha h1 h2 hl0 hs0 hR hS hl
  exact lv_lneg hx hb hd (k ad H locs la ha h1 h2 hl0 ⟨trivial, hs0.2⟩ hR hS hl)
theorem r_ishl {Z : Zc} {cc : ByteArray} {own : String} {nL d X : Nat} (hZ : Fx cc own nL d X Z) {pc n x : Nat} {ls : List (Nat × Value)} {st : List Value} {h : Hp} {a b : Int32} (hd : decode cc pc = .ok (.ishl, 1)) (k : R Z (pc + 1) ls (.int (a <<< (b &&& 31)) :: st) n h x) : R Z pc ls (.int b :: .int a :: st) n h x := by
  obtain ⟨p, l, e, Rm, s, m, args, below, meth, c, D, cA, ad0, n0, N1, z0, F⟩ := Z
  obtain ⟨hx, hb, hml, hown, hts, hK, hSt, hz, hlk, hN, hd1, hd2, hc1, hs1⟩ := hZ
  intro ad H locs la ha h1 h2 hl0 hs0 hR hS hl
  exact lv_ishl hx hb hd (k ad H locs la ha h1 h2 hl0 ⟨trivial, hs0.2.2⟩ hR hS hl)
theorem r_lshl {Z : Zc} {cc : ByteArray} {own : String} {nL d X : Nat} (hZ : Fx cc own nL d X Z) {pc n x : Nat} {ls : List (Nat × Value)} {st : List Value} {h : Hp} {a : Int64} {b : Int32} (hd : decode cc pc = .ok (.lshl, 1)) (k : R Z (pc + 1) ls (.long (a <<< (b.toInt64 &&& 63)) :: st) n h x) : R Z pc ls (.int b :: .long a :: st) n h x := by
  obtain ⟨p, l, e, Rm, s, m, args, below, meth, c, D, cA, ad0, n0, N1, z0, F⟩ := Z
  obtain ⟨hx, hb, hml, hown, hts, hK, hSt, hz, hlk, hN, hd1, hd2, hc1, hs1⟩ := hZ
  intro ad H locs la ha h1 h2 hl0 hs0 hR hS hl
  exact lv_lshl hx hb hd rfl (k ad H locs la ha h1 h2 hl0 ⟨trivial, hs0.2.2⟩ hR hS hl)
theorem r_lshr {Z : Zc} {cc : ByteArray} {own : String} {nL d X : Nat} (hZ : Fx cc own nL d X Z) {pc n x : Nat} {ls : List (Nat × Value)} {st : List Value} {h : Hp} {a : Int64} {b : Int32} (hd : decode cc pc = .ok (.lshr, 1)) (k : R Z (pc + 1) ls (.long (a >>> (b.toInt64 &&& 63)) :: st) n h x) : R Z pc ls (.int b :: .long a :: st) n h x := by
  obtain ⟨p, l, e, Rm, s, m, args, below, meth, c, D, cA, ad0, n0, N1, z0, F⟩ := Z
  obtain ⟨hx, hb, hml, hown, hts, hK, hSt, hz, hlk, hN, hd1, hd2, hc1, hs1⟩ := hZ
  intro ad H locs la ha h1 h2 hl0 hs0 hR hS hl
  exact lv_lshr hx hb hd rfl (k ad H locs la ha h1 h2 hl0 ⟨trivial, hs0.2.2⟩ hR hS hl)
theorem r_i2l {Z : Zc} {cc : ByteArray} {own : String} {nL d X : Nat} (hZ : Fx cc own nL d X Z) {pc n x : Nat} {ls : List (Nat × Value)} {st : List Value} {h : Hp} {a : Int32} (hd : decode cc pc = .ok (.i2l, 1)) (k : R Z (pc + 1) ls (.long a.toInt64 :: st) n h x) : R Z pc ls (.int a :: st) n h x := by
  obtain ⟨p, l, e, Rm, s, m, args, below, meth, c, D, cA, ad0, n0, N1, z0, F⟩ := Z
  obtain ⟨hx, hb, hml, hown, hts, hK, hSt, hz, hlk, hN, hd1, hd2, hc1, hs1⟩ := hZ
  intro ad H locs la ha h1 h2 hl0 hs0 hR hS hl
  exact lv_i2l hx hb hd rfl (k ad H locs la ha h1 h2 hl0 ⟨trivial, hs0.2⟩ hR hS hl)
theorem r_l2i {Z : Zc} {cc : ByteArray} {own : String} {nL d X : Nat} (hZ : Fx cc own nL d X Z) {pc n x : Nat} {ls : List (Nat × Value)} {st : List Value} {h : Hp} {a : Int64} (hd : decode cc pc = .ok (.l2i, 1)) (k : R Z (pc + 1) ls (.int a.toInt32 :: st) n h x) : R Z pc ls (.long a :: st) n h x := by
  obtain ⟨p, l, e, Rm, s, m, args, below, meth, c, D, cA, ad0, n0, N1, z0, F⟩ := Z
  obtain ⟨hx, hb, hml, hown, hts, hK, hSt, hz, hlk, hN, hd1, hd2, hc1, hs1⟩ := hZ
  intro ad H locs la ha h1 h2 hl0 hs0 hR hS hl
  exact lv_l2i hx hb hd rfl (k ad H locs la ha h1 h2 hl0 ⟨trivial, hs0.2⟩ hR hS hl)
theorem r_i2b {Z : Zc} {cc : ByteArray} {own : String} {nL d X : Nat} (hZ : Fx cc own nL d X Z) {pc n x : Nat} {ls : List (Nat × Value)} {st : List Value} {h : Hp} {a : Int32} (hd : decode cc pc = .ok (.i2b, 1)) (k : R Z (pc + 1) ls (.int a.toInt8.toInt32 :: st) n h x) : R Z pc ls (.int a :: st) n h x := by
  obtain ⟨p, l, e, Rm, s, m, args, below, meth, c, D, cA, ad0, n0, N1, z0, F⟩ := Z
  obtain ⟨hx, hb, hml, hown, hts, hK, hSt, hz, hlk, hN, hd1, hd2, hc1, hs1⟩ := hZ
  intro ad H locs la ha h1 h2 hl0 hs0 hR hS hl
  exact lv_i2b hx hb hd rfl (k ad H locs la ha h1 h2 hl0 ⟨trivial, hs0.2⟩ hR hS hl)
theorem r_i2s {Z : Zc} {cc : ByteArray} {own : String} {nL d X : Nat} (hZ : Fx cc own nL d X Z) {pc n x : Nat} {ls : List (Nat × Value)} {st : List Value} {h : Hp} {a : Int32} (hd : decode cc pc = .ok (.i2s, 1)) (k : R Z (pc + 1) ls (.int a.toInt16.toInt32 :: st) n h x) : R Z pc ls (.int a :: st) n h x := by
  obtain ⟨p, l, e, Rm, s, m, args, below, meth, c, D, cA, ad0, n0, N1, z0, F⟩ := Z
  obtain ⟨hx, hb, hml, hown, hts, hK, hSt, hz, hlk, hN, hd1, hd2, hc1, hs1⟩ := hZ
  intro ad H locs la ha h1 h2 hl0 hs0 hR hS hl
  exact lv_i2s hx hb hd rfl (k ad H locs la ha h1 h2 hl0 ⟨trivial, hs0.2⟩ hR hS hl)
theorem r_i2c {Z : Zc} {cc : ByteArray} {own : String} {nL d X : Nat} (hZ : Fx cc own nL d X Z) {pc n x : Nat} {ls : List (Nat × Value)} {st : List Value} {h : Hp} {a : Int32} (hd : decode cc pc = .ok (.i2c, 1)) (k : R Z (pc + 1) ls (.int (a.toUInt32 % 65536).toInt32 :: st) n h x) : R Z pc ls (.int a :: st) n h x := by
  obtain ⟨p, l, e, Rm, s, m, args, below, meth, c, D, cA, ad0, n0, N1, z0, F⟩ := Z
  obtain ⟨hx, hb, hml, hown, hts, hK, hSt, hz, hlk, hN, hd1, hd2, hc1, hs1⟩ := hZ
  intro ad H locs la ha h1 h2 hl0 hs0 hR hS hl
  exact lv_i2c hx hb hd rfl (k ad H locs la ha h1 h2 hl0 ⟨trivial, hs0.2⟩ hR hS hl)
theorem r_lcmp {Z : Zc} {cc : ByteArray} {own : String} {nL d X : Nat} (hZ : Fx cc own nL d X Z) {pc n x : Nat} {ls : List (Nat × Value)} {st : List Value} {h : Hp} {a b : Int64} (hd : decode cc pc = .ok (.lcmp, 1)) (k : R Z (pc + 1) ls (.int (lg_cmp a b) :: st) n h x) : R Z pc ls (.long b :: .long a :: st) n h x := by
  obtain ⟨p, l, e, Rm, s, m, args, below, meth, c, D, cA, ad0, n0, N1, z0, F⟩ := Z
  obtain ⟨hx, hb, hml, hown, hts, hK, hSt, hz, hlk, hN, hd1, hd2, hc1, hs1⟩ := hZ
  intro ad H locs la ha h1 h2 hl0 hs0 hR hS hl
  exact W.lcmp hx hb hd (k ad H locs la ha h1 h2 hl0 ⟨trivial, hs0.2.2⟩ hR hS hl)
theorem r_dup_i {Z : Zc} {cc : ByteArray} {own : String} {nL d X : Nat} (hZ : Fx cc own nL d X Z) {pc n x : Nat} {ls : List (Nat × Value)} {st : List Value} {h : Hp} {a : Int32} (hd : decode cc pc = .ok (.dup, 1)) (k : R Z (pc + 1) ls (.int a :: .int a :: st) n h x) : R Z pc ls (.int a :: st) n h x := by
  obtain ⟨p, l, e, Rm, s, m, args, below, meth, c, D, cA, ad0, n0, N1, z0, F⟩ := Z
  obtain ⟨hx, hb, hml, hown, hts, hK, hSt, hz, hlk, hN, hd1, hd2, hc1, hs1⟩ := hZ
  intro ad H locs la ha h1 h2 hl0 hs0 hR hS hl
  exact lv_dup hx hb hd rfl (k ad H locs la ha h1 h2 hl0 ⟨trivial, hs0⟩ hR hS hl)
theorem r_dup_a {Z : Zc} {cc : ByteArray} {own : String} {nL d X : Nat} (hZ : Fx cc own nL d X Z) {pc n x : Nat} {ls : List (Nat × Value)} {st : List Value} {h : Hp} {a : Nat} (hd : decode cc pc = .ok (.dup, 1)) (k : R Z (pc + 1) ls (.ref a :: .ref a :: st) n h x) : R Z pc ls (.ref a :: st) n h x := by
  obtain ⟨p, l, e, Rm, s, m, args, below, meth, c, D, cA, ad0, n0, N1, z0, F⟩ := Z
  obtain ⟨hx, hb, hml, hown, hts, hK, hSt, hz, hlk, hN, hd1, hd2, hc1, hs1⟩ := hZ
  intro ad H locs la ha h1 h2 hl0 hs0 hR hS hl
  exact lv_dup hx hb hd rfl (k ad H locs la ha h1 h2 hl0 ⟨hs0.1, hs0⟩ hR hS hl)
theorem r_dup2_ia {Z : Zc} {cc : ByteArray} {own : String} {nL d X : Nat} (hZ : Fx cc own nL d X Z) {pc n x : Nat} {ls : List (Nat × Value)} {st : List Value} {h : Hp} {a : Nat} {b : Int32} (hd : decode cc pc = .ok (.dup2, 1)) (k : R Z (pc + 1) ls (.int b :: .ref a :: .int b :: .ref a :: st) n h x) : R Z pc ls (.int b :: .ref a :: st) n h x := by
  obtain ⟨p, l, e, Rm, s, m, args, below, meth, c, D, cA, ad0, n0, N1, z0, F⟩ := Z
  obtain ⟨hx, hb, hml, hown, hts, hK, hSt, hz, hlk, hN, hd1, hd2, hc1, hs1⟩ := hZ
  intro ad H locs la ha h1 h2 hl0 hs0 hR hS hl
  exact lv_dup2_11 hx hb hd rfl rfl (k ad H locs la ha h1 h2 hl0 ⟨trivial, hs0.2.1, hs0⟩ hR hS hl)
theorem r_pop_i {Z : Zc} {cc : ByteArray} {own : String} {nL d X : Nat} (hZ : Fx cc own nL d X Z) {pc n x : Nat} {ls : List (Nat × Value)} {st : List Value} {h : Hp} {a : Int32} (hd : decode cc pc = .ok (.pop, 1)) (k : R Z (pc + 1) ls (st) n h x) : R Z pc ls (.int a :: st) n h x := by
  obtain ⟨p, l, e, Rm, s, m, args, below, meth, c, D, cA, ad0, n0, N1, z0, F⟩ := Z
  obtain ⟨hx, hb, hml, hown, hts, hK, hSt, hz, hlk, hN, hd1, hd2, hc1, hs1⟩ := hZ
  intro ad H locs la ha h1 h2 hl0 hs0 hR hS hl
  exact lv_pop hx hb hd rfl (k ad H locs la ha h1 h2 hl0 hs0.2 hR hS hl)
theorem r_icmp_eq {Z : Zc} {cc : ByteArray} {own : String} {nL d X : Nat} (hZ : Fx cc own nL d X Z) {pc n x : Nat} {ls : List (Nat × Value)} {st : List Value} {h : Hp} {a b : Int32} {off : Int} {tgt : Nat} (hd : decode cc pc = .ok (.if_icmp .eq off, 3)) (ht : (pc : Int) + off = (tgt : Int)) (kt : a = b → R Z tgt ls st n h x) (kf : ¬ (a = b) → R Z (pc + 3) ls st n h x) : R Z pc ls (.int b :: .int a :: st) n h x := by
  obtain ⟨p, l, e, Rm, s, m, args, below, meth, c, D, cA, ad0, n0, N1, z0, F⟩ := Z
  obtain ⟨hx, hb, hml, hown, hts, hK, hSt, hz, hlk, hN, hd1, hd2, hc1, hs1⟩ := hZ
  intro ad H locs la ha h1 h2 hl0 hs0 hR hS hl
  exact lv_icmp_eq hx hb hd ht (fun q => kt q ad H locs la ha h1 h2 hl0 hs0.2.2 hR hS hl) (fun q => kf q ad H locs la ha h1 h2 hl0 hs0.2.2 hR hS hl)
theorem r_if_eq {Z : Zc} {cc : ByteArray} {own : String} {nL d X : Nat} (hZ : Fx cc own nL d X Z) {pc n x : Nat} {ls : List (Nat × Value)} {st : List Value} {h : Hp} {a : Int32} {off : Int} {tgt : Nat} (hd : decode cc pc = .ok (.ifCond .eq off, 3)) (ht : (pc : Int) + off = (tgt : Int)) (kt : a = 0 → R Z tgt ls st n h x) (kf : ¬ (a = 0) → R Z (pc + 3) ls st n h x) : R Z pc ls (.int a :: st) n h x := by
  obtain ⟨p, l, e, Rm, s, m, args, below, meth, c, D, cA, ad0, n0, N1, z0, F⟩ := Z
  obtain ⟨hx, hb, hml, hown, hts, hK, hSt, hz, hlk, hN, hd1, hd2, hc1, hs1⟩ := hZ
  intro ad H locs la ha h1 h2 hl0 hs0 hR hS hl
  exact lv_if_eq hx hb hd ht (fun q => kt q ad H locs la ha h1 h2 hl0 hs0.2 hR hS hl) (fun q => kf q ad H locs la ha h1 h2 hl0 hs0.2 hR hS hl)
theorem r_icmp_ne {Z : Zc} {cc : ByteArray} {own : String} {nL d X : Nat} (hZ : Fx cc own nL d X Z) {pc n x : Nat} {ls : List (Nat × Value)} {st : List Value} {h : Hp} {a b : Int32} {off : Int} {tgt : Nat} (hd : decode cc pc = .ok (.if_icmp .ne off, 3)) (ht : (pc : Int) + off = (tgt : Int)) (kt : ¬ a = b → R Z tgt ls st n h x) (kf : a = b → R Z (pc + 3) ls st n h x) : R Z pc ls (.int b :: .int a :: st) n h x := by
  obtain ⟨p, l, e, Rm, s, m, args, below, meth, c, D, cA, ad0, n0, N1, z0, F⟩ := Z
  obtain ⟨hx, hb, hml, hown, hts, hK, hSt, hz, hlk, hN, hd1, hd2, hc1, hs1⟩ := hZ
  intro ad H locs la ha h1 h2 hl0 hs0 hR hS hl
  exact lv_icmp_ne hx hb hd ht (fun q => kt q ad H locs la ha h1 h2 hl0 hs0.2.2 hR hS hl) (fun q => kf q ad H locs la ha h1 h2 hl0 hs0.2.2 hR hS hl)
theorem r_if_ne {Z : Zc} {cc : ByteArray} {own : String} {nL d X : Nat} (hZ : Fx cc own nL d X Z) {pc n x : Nat} {ls : List (Nat × Value)} {st : List Value} {h : Hp} {a : Int32} {off : Int} {tgt : Nat} (hd : decode cc pc = .ok (.ifCond .ne off, 3)) (ht : (pc : Int) + off = (tgt : Int)) (kt : ¬ a = 0 → R Z tgt ls st n h x) (kf : a = 0 → R Z (pc + 3) ls st n h x) : R Z pc ls (.int a :: st) n h x := by
  obtain ⟨p, l, e, Rm, s, m, args, below, meth, c, D, cA, ad0, n0, N1, z0, F⟩ := Z
  obtain ⟨hx, hb, hml, hown, hts, hK, hSt, hz, hlk, hN, hd1, hd2, hc1, hs1⟩ := hZ
  intro ad H locs la ha h1 h2 hl0 hs0 hR hS hl
  exact lv_if_ne hx hb hd ht (fun q => kt q ad H locs la ha h1 h2 hl0 hs0.2 hR hS hl) (fun q => kf q ad H locs la ha h1 h2 hl0 hs0.2 hR hS hl)
theorem r_icmp_lt {Z : Zc} {cc : ByteArray} {own : String} {nL d X : Nat} (hZ : Fx cc own nL d X Z) {pc n x : Nat} {ls : List (Nat × Value)} {st : List Value} {h : Hp} {a b : Int32} {off : Int} {tgt : Nat} (hd : decode cc pc = .ok (.if_icmp .lt off, 3)) (ht : (pc : Int) + off = (tgt : Int)) (kt : a < b → R Z tgt ls st n h x) (kf : ¬ (a < b) → R Z (pc + 3) ls st n h x) : R Z pc ls (.int b :: .int a :: st) n h x := by
  obtain ⟨p, l, e, Rm, s, m, args, below, meth, c, D, cA, ad0, n0, N1, z0, F⟩ := Z
  obtain ⟨hx, hb, hml, hown, hts, hK, hSt, hz, hlk, hN, hd1, hd2, hc1, hs1⟩ := hZ
  intro ad H locs la ha h1 h2 hl0 hs0 hR hS hl
  exact lv_icmp_lt hx hb hd ht (fun q => kt q ad H locs la ha h1 h2 hl0 hs0.2.2 hR hS hl) (fun q => kf q ad H locs la ha h1 h2 hl0 hs0.2.2 hR hS hl)
theorem r_if_lt {Z : Zc} {cc : ByteArray} {own : String} {nL d X : Nat} (hZ : Fx cc own nL d X Z) {pc n x : Nat} {ls : List (Nat × Value)} {st : List Value} {h : Hp} {a : Int32} {off : Int} {tgt : Nat} (hd : decode cc pc = .ok (.ifCond .lt off, 3)) (ht : (pc : Int) + off = (tgt : Int)) (kt : a < 0 → R Z tgt ls st n h x) (kf : ¬ (a < 0) → R Z (pc + 3) ls st n h x) : R Z pc ls (.int a :: st) n h x := by
  obtain ⟨p, l, e, Rm, s, m, args, below, meth, c, D, cA, ad0, n0, N1, z0, F⟩ := Z
  obtain ⟨hx, hb, hml, hown, hts, hK, hSt, hz, hlk, hN, hd1, hd2, hc1, hs1⟩ := hZ
  intro ad H locs la ha h1 h2 hl0 hs0 hR hS hl
  exact lv_if_lt hx hb hd ht (fun q => kt q ad H locs la ha h1 h2 hl0 hs0.2 hR hS hl) (fun q => kf q ad H locs la ha h1 h2 hl0 hs0.2 hR hS hl)
theorem r_icmp_ge {Z : Zc} {cc : ByteArray} {own : String} {nL d X : Nat} (hZ : Fx cc own nL d X Z) {pc n x : Nat} {ls : List (Nat × Value)} {st : List Value} {h : Hp} {a b : Int32} {off : Int} {tgt : Nat} (hd : decode cc pc = .ok (.if_icmp .ge off, 3)) (ht : (pc : Int) + off = (tgt : Int)) (kt : b ≤ a → R Z tgt ls st n h x) (kf : ¬ (b ≤ a) → R Z (pc + 3) ls st n h x) : R Z pc ls (.int b :: .int a :: st) n h x := by
  obtain ⟨p, l, e, Rm, s, m, args, below, meth, c, D, cA, ad0, n0, N1, z0, F⟩ := Z
  obtain ⟨hx, hb, hml, hown, hts, hK, hSt, hz, hlk, hN, hd1, hd2, hc1, hs1⟩ := hZ
  intro ad H locs la ha h1 h2 hl0 hs0 hR hS hl
  exact lv_icmp_ge hx hb hd ht (fun q => kt q ad H locs la ha h1 h2 hl0 hs0.2.2 hR hS hl) (fun q => kf q ad H locs la ha h1 h2 hl0 hs0.2.2 hR hS hl)
theorem r_if_ge {Z : Zc} {cc : ByteArray} {own : String} {nL d X : Nat} (hZ : Fx cc own nL d X Z) {pc n x : Nat} {ls : List (Nat × Value)} {st : List Value} {h : Hp} {a : Int32} {off : Int} {tgt : Nat} (hd : decode cc pc = .ok (.ifCond .ge off, 3)) (ht : (pc : Int) + off = (tgt : Int)) (kt : 0 ≤ a → R Z tgt ls st n h x) (kf : ¬ (0 ≤ a) → R Z (pc + 3) ls st n h x) : R Z pc ls (.int a :: st) n h x := by
  obtain ⟨p, l, e, Rm, s, m, args, below, meth, c, D, cA, ad0, n0, N1, z0, F⟩ := Z
  obtain ⟨hx, hb, hml, hown, hts, hK, hSt, hz, hlk, hN, hd1, hd2, hc1, hs1⟩ := hZ
  intro ad H locs la ha h1 h2 hl0 hs0 hR hS hl
  exact lv_if_ge hx hb hd ht (fun q => kt q ad H locs la ha h1 h2 hl0 hs0.2 hR hS hl) (fun q => kf q ad H locs la ha h1 h2 hl0 hs0.2 hR hS hl)
theorem r_icmp_gt {Z : Zc} {cc : ByteArray} {own : String} {nL d X : Nat} (hZ : Fx cc own nL d X Z) {pc n x : Nat} {ls : List (Nat × Value)} {st : List Value} {h : Hp} {a b : Int32} {off : Int} {tgt : Nat} (hd : decode cc pc = .ok (.if_icmp .gt off, 3)) (ht : (pc : Int) + off = (tgt : Int)) (kt : b < a → R Z tgt ls st n h x) (kf : ¬ (b < a) → R Z (pc + 3) ls st n h x) : R Z pc ls (.int b :: .int a :: st) n h x := by
  obtain ⟨p, l, e, Rm, s, m, args, below, meth, c, D, cA, ad0, n0, N1, z0, F⟩ := Z
  obtain ⟨hx, hb, hml, hown, hts, hK, hSt, hz, hlk, hN, hd1, hd2, hc1, hs1⟩ := hZ
  intro ad H locs la ha h1 h2 hl0 hs0 hR hS hl
  exact lv_icmp_gt hx hb hd ht (fun q => kt q ad H locs la ha h1 h2 hl0 hs0.2.2 hR hS hl) (fun q => kf q ad H locs la ha h1 h2 hl0 hs0.2.2 hR hS hl)
theorem r_if_gt {Z : Zc} {cc : ByteArray} {own : String} {nL d X : Nat} (hZ : Fx cc own nL d X Z) {pc n x : Nat} {ls : List (Nat × Value)} {st : List Value} {h : Hp} {a : Int32} {off : Int} {tgt : Nat} (hd : decode cc pc = .ok (.ifCond .gt off, 3)) (ht : (pc : Int) + off = (tgt : Int)) (kt : 0 < a → R Z tgt ls st n h x) (kf : ¬ (0 < a) → R Z (pc + 3) ls st n h x) : R Z pc ls (.int a :: st) n h x := by
  obtain ⟨p, l, e, Rm, s, m, args, below, meth, c, D, cA, ad0, n0, N1, z0, F⟩ := Z
  obtain ⟨hx, hb, hml, hown, hts, hK, hSt, hz, hlk, hN, hd1, hd2, hc1, hs1⟩ := hZ
  intro ad H locs la ha h1 h2 hl0 hs0 hR hS hl
  exact lv_if_gt hx hb hd ht (fun q => kt q ad H locs la ha h1 h2 hl0 hs0.2 hR hS hl) (fun q => kf q ad H locs la ha h1 h2 hl0 hs0.2 hR hS hl)
theorem r_icmp_le {Z : Zc} {cc : ByteArray} {own : String} {nL d X : Nat} (hZ : Fx cc own nL d X Z) {pc n x : Nat} {ls : List (Nat × Value)} {st : List Value} {h : Hp} {a b : Int32} {off : Int} {tgt : Nat} (hd : decode cc pc = .ok (.if_icmp .le off, 3)) (ht : (pc : Int) + off = (tgt : Int)) (kt : a ≤ b → R Z tgt ls st n h x) (kf : ¬ (a ≤ b) → R Z (pc + 3) ls st n h x) : R Z pc ls (.int b :: .int a :: st) n h x := by
  obtain ⟨p, l, e, Rm, s, m, args, below, meth, c, D, cA, ad0, n0, N1, z0, F⟩ := Z
  obtain ⟨hx, hb, hml, hown, hts, hK, hSt, hz, hlk, hN, hd1, hd2, hc1, hs1⟩ := hZ
  intro ad H locs la ha h1 h2 hl0 hs0 hR hS hl
  exact lv_icmp_le hx hb hd ht (fun q => kt q ad H locs la ha h1 h2 hl0 hs0.2.2 hR hS hl) (fun q => kf q ad H locs la ha h1 h2 hl0 hs0.2.2 hR hS hl)
theorem r_if_le {Z : Zc} {cc : ByteArray} {own : String} {nL d X : Nat} (hZ : Fx cc own nL d X Z) {pc n x : Nat} {ls : List (Nat × Value)} {st : List Value} {h : Hp} {a : Int32} {off : Int} {tgt : Nat} (hd : decode cc pc = .ok (.ifCond .le off, 3)) (ht : (pc : Int) + off = (tgt : Int)) (kt : a ≤ 0 → R Z tgt ls st n h x) (kf : ¬ (a ≤ 0) → R Z (pc + 3) ls st n h x) : R Z pc ls (.int a :: st) n h x := by
  obtain ⟨p, l, e, Rm, s, m, args, below, meth, c, D, cA, ad0, n0, N1, z0, F⟩ := Z
  obtain ⟨hx, hb, hml, hown, hts, hK, hSt, hz, hlk, hN, hd1, hd2, hc1, hs1⟩ := hZ
  intro ad H locs la ha h1 h2 hl0 hs0 hR hS hl
  exact lv_if_le hx hb hd ht (fun q => kt q ad H locs la ha h1 h2 hl0 hs0.2 hR hS hl) (fun q => kf q ad H locs la ha h1 h2 hl0 hs0.2 hR hS hl)
theorem r_goto {Z : Zc} {cc : ByteArray} {own : String} {nL d X : Nat} (hZ : Fx cc own nL d X Z) {pc n x : Nat} {ls : List (Nat × Value)} {st : List Value} {h : Hp} {off : Int} {tgt : Nat} (hd : decode cc pc = .ok (.goto off, 3)) (ht : (pc : Int) + off = (tgt : Int)) (k : R Z tgt ls st n h x) : R Z pc ls st n h x := by
  obtain ⟨p, l, e, Rm, s, m, args, below, meth, c, D, cA, ad0, n0, N1, z0, F⟩ := Z
  obtain ⟨hx, hb, hml, hown, hts, hK, hSt, hz, hlk, hN, hd1, hd2, hc1, hs1⟩ := hZ
  intro ad H locs la ha h1 h2 hl0 hs0 hR hS hl
  exact lv_goto hx hb hd ht (k ad H locs la ha h1 h2 hl0 hs0 hR hS hl)
theorem r_lookup {Z : Zc} {cc : ByteArray} {own : String} {nL d X : Nat} (hZ : Fx cc own nL d X Z) {pc n x : Nat} {ls : List (Nat × Value)} {st : List Value} {h : Hp} {dflt : Int} {ps : Array (Int × Int)} {len : Nat} {a : Int32} {off : Int} {tgt : Nat} (hd : decode cc pc = .ok (.lookupswitch dflt ps, len)) (hp : (ps.toList.zip (ps.toList.drop 1)).all (fun (a, next) => a.1 < next.1) = true) (ho : Op.lookupswitch.offset ps.toList dflt a.toInt = off) (ht : (pc : Int) + off = (tgt : Int)) (k : R Z tgt ls st n h x) : R Z pc ls (.int a :: st) n h x := by
  obtain ⟨p, l, e, Rm, s, m, args, below, meth, c, D, cA, ad0, n0, N1, z0, F⟩ := Z
  obtain ⟨hx, hb, hml, hown, hts, hK, hSt, hz, hlk, hN, hd1, hd2, hc1, hs1⟩ := hZ
  intro ad H locs la ha h1 h2 hl0 hs0 hR hS hl
  exact lv_lookup hx hb hd hp ho ht (k ad H locs la ha h1 h2 hl0 hs0.2 hR hS hl)
theorem r_tableOut {Z : Zc} {cc : ByteArray} {own : String} {nL d X : Nat} (hZ : Fx cc own nL d X Z) {pc n x : Nat} {ls : List (Nat × Value)} {st : List Value} {h : Hp} {dflt lo hi : Int} {offs : Array Int} {len : Nat} {a : Int32} {tgt : Nat} (hd : decode cc pc = .ok (.tableswitch dflt lo hi offs, len)) (hh : a.toInt < lo ∨ hi < a.toInt) (ht : (pc : Int) + dflt = (tgt : Int)) (k : R Z tgt ls st n h x) : R Z pc ls (.int a :: st) n h x := by
  obtain ⟨p, l, e, Rm, s, m, args, below, meth, c, D, cA, ad0, n0, N1, z0, F⟩ := Z
  obtain ⟨hx, hb, hml, hown, hts, hK, hSt, hz, hlk, hN, hd1, hd2, hc1, hs1⟩ := hZ
  intro ad H locs la ha h1 h2 hl0 hs0 hR hS hl
  exact lv_tableOut hx hb hd hh ht (k ad H locs la ha h1 h2 hl0 hs0.2 hR hS hl)
theorem r_tableIn {Z : Zc} {cc : ByteArray} {own : String} {nL d X : Nat} (hZ : Fx cc own nL d X Z) {pc n x : Nat} {ls : List (Nat × Value)} {st : List Value} {h : Hp} {dflt lo hi : Int} {offs : Array Int} {len : Nat} {a : Int32} {off : Int} {tgt : Nat} (hd : decode cc pc = .ok (.tableswitch dflt lo hi offs, len)) (q1 : ¬ a.toInt < lo) (q2 : ¬ hi < a.toInt) (ho : offs[(a.toInt - lo).toNat]? = some off) (ht : (pc : Int) + off = (tgt : Int)) (k : R Z tgt ls st n h x) : R Z pc ls (.int a :: st) n h x := by
  obtain ⟨p, l, e, Rm, s, m, args, below, meth, c, D, cA, ad0, n0, N1, z0, F⟩ := Z
  obtain ⟨hx, hb, hml, hown, hts, hK, hSt, hz, hlk, hN, hd1, hd2, hc1, hs1⟩ := hZ
  intro ad H locs la ha h1 h2 hl0 hs0 hR hS hl
  exact lv_tableIn hx hb hd q1 q2 ho ht (k ad H locs la ha h1 h2 hl0 hs0.2 hR hS hl)
