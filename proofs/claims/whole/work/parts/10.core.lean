/-! THE ABSTRACT MACHINE: objects have numbers (the order in which they were made); a heap is a function of numbers; `R` says that the machine, from a program counter, locals, stack and heap, comes to the end that is wanted -/
abbrev Ob : Type := Nat × (List Value ⊕ vp_A)
abbrev Hp : Type := Nat → Option Ob
/-- numbers from here on are the arrays that the classes' constants hold -/
abbrev BB : Nat := 1000000
def cv (ad : Nat → Nat) : Value → Value
  | .ref i => .ref (ad i)
  | v => v
def ca (ad : Nat → Nat) (a : vp_A) : vp_A := match a with
  | (n, .inr (.inr (.inr (.inr f)))) => (n, .inr (.inr (.inr (.inr (fun k => (f k).map ad)))))
  | x => x
def ce (cA : Nat → ClassId) (ad : Nat → Nat) : Ob → va_E
  | (t, .inl fs) => .inr (t, fs.map (cv ad))
  | (t, .inr a) => .inl (cA t, ca ad a)
def vok (n : Nat) : Value → Prop
  | .ref i => i < n ∨ BB ≤ i
  | _ => True
def sok (n : Nat) : List Value → Prop
  | [] => True
  | v :: st => vok n v ∧ sok n st
def lok (n : Nat) : List (Nat × Value) → Prop
  | [] => True
  | q :: ls => vok n q.2 ∧ lok n ls
def ook (n : Nat) : Ob → Prop
  | (_, .inl fs) => sok n fs
  | (_, .inr (_, .inr (.inr (.inr (.inr f))))) => ∀ k r, f k = some r → r < n ∨ BB ≤ r
  | _ => True
def ob0 : Ob := (0, .inl [])
def wl (cA : Nat → ClassId) (ad : Nat → Nat) (n : Nat) (h : Hp) : va_W := (List.range n).map (fun i => (ad i, ce cA ad ((h i).getD ob0)))
abbrev clz : List vw_C := [(RX0, TX0, 5), (RX1, TX1, 9), (RX2, TX2, 3), (RX3, TX3, 6), (RX5, TX5, 4), (RX6, TX6, 3), (RX7, TX7, 5), (RX8, TX8, 5), (RX9, TX9, 7), (RX10, TX10, 6), (RX11, TX11, 16), (RX12, TX12, 30)]
def tyz (cA : Nat → ClassId) : List (ClassId × FieldType) := [(cA 0, .int), (cA 1, .long), (cA 2, .boolean), (cA 3, .object RX0), (cA 4, .object RX8), (cA 5, .array .int)]
/-- the heap is the picture h of n numbers, at the addresses ad, all of them behind z0 -/
def Rep (D : va_G) (cA : Nat → ClassId) (z0 : Nat) (ad : Nat → Nat) (n : Nat) (h : Hp) (H : Heap) : Prop :=
  (∀ i, (h i).isSome = true ↔ i < n) ∧ (∀ i ob, h i = some ob → ook n ob) ∧ n ≤ BB ∧ va_P D clz (wl cA ad n h) H ∧ va_D (fun q => z0 ≤ q) (wl cA ad n h)
/-- the constants' arrays -/
def roC : Nat → String × String × Nat × (Nat → Int32)
  | 0 => (RX0, "HARD_BY_KIND", 5, fun k => [10, 20, 5, 25, 10].getD k 0)
  | 1 => (RX0, "STIFF_BY_KIND", 5, fun k => [8, 12, 6, 12, 16].getD k 0)
  | 2 => (RX5, "COS", 16, fun k => [1000, 924, 707, 383, 0, -383, -707, -924, -1000, -924, -707, -383, 0, 383, 707, 924].getD k 0)
  | _ => (RX7, "FIELD_SIGNS", 7, fun k => [101, 103, 119, 108, 114, 116, 117].getD k 0)
def StF (z0 : Nat) (ad : Nat → Nat) (U : State) : Prop := ∀ j, j < 4 → va_Z (roC j).1 (roC j).2.1 "[I" (.ref (ad (BB + j))) (fun q => z0 ≤ q) U U.heap ∧ va_T .int (ad (BB + j)) (roC j).2.2.1 (fun k => .int ((roC j).2.2.2 k)) (fun q => z0 ≤ q) U U.heap
/-- links to private members of nest mates (they stand in no state's tables as the others do) -/
def NsL : List (String × Nat × MethodName × String) := [(RX3, 27, yX0_init, RX11), (RX11, 21, yX2_init, RX11), (RX11, 28, yX6_init, RX11), (RX11, 50, yX9_init, RX11), (RX9, 1, yX4_init, RX11), (RX11, 57, yX7_init, RX11), (RX7, 3, yX4_init, RX11), (RX11, 64, yX10_init, RX11), (RX11, 71, yX0_init, RX11), (RX11, 81, yX5_init, RX11), (RX5, 11, yX0_init, RX11), (RX11, 88, yX1_init, RX11), (RX11, 93, yX8_init, RX11), (RX8, 17, yX0_init, RX11), (RX4, 38, yX11_isWithin, RX11), (RX3, 64, yX11_isWithin, RX11), (RX10, 87, yX11_greatestDivisor, RX11), (RX8, 42, yX11_isWithin, RX11), (RX0, 63, yX11_isWithin, RX11)]
def NsF (U : State) : Prop := (∀ q ∈ NsL, va_Nw (.methodLinkNest q.1 q.2.1 q.2.2.1 q.2.2.2) U) ∧ va_AO RX0 U ∧ va_AO RX8 U ∧ va_AOA .int U
theorem NsF.warm {s U : State} (hW : s.WarmedH U.vm) (h : NsF s) : NsF U := ⟨fun q hq => va_Nw.warmM hW (h.1 q hq), h.2.1.moved hW.alike, h.2.2.1.moved hW.alike, h.2.2.2.moved hW.alike⟩
theorem NsF.same {u U : State} (e : u.vm = U.vm) (h : NsF u) : NsF U := ⟨fun q hq => va_Nw.same rfl e (h.1 q hq), h.2.1.moved (by rw [e]; exact Vm.Alike.refl _), h.2.2.1.moved (by rw [e]; exact Vm.Alike.refl _), h.2.2.2.moved (by rw [e]; exact Vm.Alike.refl _)⟩
def TT : List Cond := lw_tbl.filter goodWord
theorem TT_in {w : Cond} (i : Nat) (h : lw_tbl[i]? = some w) (hg : goodWord w = true) : w ∈ TT := List.mem_filter.mpr ⟨List.mem_of_getElem? h, hg⟩
theorem TT_good : ∀ w ∈ TT, goodWord w = true := fun _ h => (List.mem_filter.mp h).2
theorem cv_cat (ad : Nat → Nat) (v : Value) : (cv ad v).category = v.category := by cases v <;> rfl
theorem cv_ext {ad ad' : Nat → Nat} {n : Nat} (ha : ∀ i, (i < n ∨ BB ≤ i) → ad' i = ad i) {v : Value} (h : vok n v) : cv ad' v = cv ad v := by
  cases v <;> first | rfl | exact congrArg Value.ref (ha _ h)
theorem cs_ext {ad ad' : Nat → Nat} {n : Nat} (ha : ∀ i, (i < n ∨ BB ≤ i) → ad' i = ad i) : ∀ {st : List Value}, sok n st → st.map (cv ad') = st.map (cv ad)
  | [], _ => rfl
  | v :: st, h => by rw [List.map_cons, List.map_cons, cv_ext ha h.1, cs_ext ha h.2]
theorem vok_mono {n n' : Nat} (hn : n ≤ n') {v : Value} (h : vok n v) : vok n' v := by
  cases v <;> first | trivial | exact h.imp (fun q => Nat.lt_of_lt_of_le q hn) id
theorem sok_mono {n n' : Nat} (hn : n ≤ n') : ∀ {st : List Value}, sok n st → sok n' st
  | [], _ => trivial
  | _ :: _, h => ⟨vok_mono hn h.1, sok_mono hn h.2⟩
theorem lok_mono {n n' : Nat} (hn : n ≤ n') : ∀ {ls : List (Nat × Value)}, lok n ls → lok n' ls
  | [], _ => trivial
  | _ :: _, h => ⟨vok_mono hn h.1, lok_mono hn h.2⟩
theorem ook_mono {n n' : Nat} (hn : n ≤ n') {o : Ob} (h : ook n o) : ook n' o := by
  obtain ⟨t, fs | ⟨m, f | f | f | f | f⟩⟩ := o
  · exact sok_mono hn h
  · trivial
  · trivial
  · trivial
  · trivial
  · exact fun k r q => (h k r q).imp (fun z => Nat.lt_of_lt_of_le z hn) id
theorem ce_ext {cA : Nat → ClassId} {ad ad' : Nat → Nat} {n : Nat} (ha : ∀ i, (i < n ∨ BB ≤ i) → ad' i = ad i) {o : Ob} (h : ook n o) : ce cA ad' o = ce cA ad o := by
  obtain ⟨t, fs | ⟨m, f | f | f | f | f⟩⟩ := o
  · show Sum.inr (t, fs.map (cv ad')) = Sum.inr (t, fs.map (cv ad))
    rw [cs_ext ha h]
  · rfl
  · rfl
  · rfl
  · rfl
  · show Sum.inl (cA t, (m, Sum.inr (Sum.inr (Sum.inr (Sum.inr fun k => (f k).map ad'))))) = Sum.inl (cA t, (m, Sum.inr (Sum.inr (Sum.inr (Sum.inr fun k => (f k).map ad)))))
    have e : (fun k => (f k).map ad') = fun k => (f k).map ad := by
      funext k
      cases hk : f k with
      | none => rfl
      | some r => exact congrArg some (ha r (h k r hk))
    rw [e]
theorem sok_get {n : Nat} : ∀ {st : List Value} {k : Nat} {v : Value}, sok n st → st[k]? = some v → vok n v
  | [], _, _, _, h => by simp at h
  | _ :: _, 0, _, hs, h => by cases h; exact hs.1
  | _ :: _, k + 1, _, hs, h => sok_get (k := k) hs.2 (by simpa using h)
theorem sok_set {n : Nat} : ∀ {st : List Value} {k : Nat} {v : Value}, sok n st → vok n v → sok n (st.set k v)
  | [], _, _, _, _ => trivial
  | _ :: _, 0, _, hs, h => ⟨h, hs.2⟩
  | _ :: _, _ + 1, _, hs, h => ⟨hs.1, sok_set hs.2 h⟩
theorem wl_get {cA : Nat → ClassId} {ad : Nat → Nat} {n : Nat} {h : Hp} {i : Nat} {o : Ob} (hi : i < n) (ho : h i = some o) : (wl cA ad n h)[i]? = some (ad i, ce cA ad o) := by
  simp [wl, List.getElem?_map, List.getElem?_range hi, ho]
theorem wl_set {cA : Nat → ClassId} {ad : Nat → Nat} {n : Nat} {h : Hp} {i : Nat} {o : Ob} : (wl cA ad n h).set i (ad i, ce cA ad o) = wl cA ad n (va_up h i (some o)) := by
  apply List.ext_getElem?
  intro j
  by_cases hj : j = i
  · subst hj
    by_cases hl : j < n
    · rw [List.getElem?_set_self (by simpa [wl] using hl), wl_get hl (va_up_self h j _)]
    · rw [List.getElem?_eq_none (by simpa [wl] using hl), List.getElem?_eq_none (by simpa [wl] using hl)]
  · rw [List.getElem?_set_ne (Ne.symm hj)]
    simp only [wl, List.getElem?_map]
    cases hr : (List.range n)[j]? with
    | none => rfl
    | some a =>
      have ha : a = j := by
        obtain ⟨q1, q2⟩ := List.getElem?_eq_some_iff.mp hr
        simp at q2
        exact q2.symm
      simp only [Option.map_some]
      rw [ha, va_up_ne h _ hj]
theorem wl_ext {cA : Nat → ClassId} {ad ad' : Nat → Nat} {n : Nat} {h : Hp} (ha : ∀ i, (i < n ∨ BB ≤ i) → ad' i = ad i) (hk : ∀ i ob, h i = some ob → ook n ob) : wl cA ad' n h = wl cA ad n h := by
  unfold wl
  apply List.map_congr_left
  intro i hi
  have hi := List.mem_range.mp hi
  cases ho : h i with
  | none => simp only [Option.getD_none]; rw [ha i (Or.inl hi)]; rfl
  | some o => simp only [Option.getD_some]; rw [ha i (Or.inl hi), ce_ext ha (hk i o ho)]
theorem ext_push {ad : Nat → Nat} {n q : Nat} (hn : n < BB) : ∀ i, (i < n ∨ BB ≤ i) → va_up ad n q i = ad i := fun i hi => va_up_ne ad q (by omega)
theorem wl_push {cA : Nat → ClassId} {ad : Nat → Nat} {n q : Nat} {h : Hp} {o : Ob} (hn : n < BB) (hk : ∀ i ob, h i = some ob → ook n ob) (hko : ook n o) : wl cA ad n h ++ [(q, ce cA ad o)] = wl cA (va_up ad n q) (n + 1) (va_up h n (some o)) := by
  have e1 := wl_ext (cA := cA) (ad := ad) (ad' := va_up ad n q) (n := n) (h := h) (ext_push hn) hk
  rw [← e1, ← ce_ext (cA := cA) (ext_push (ad := ad) (q := q) hn) hko]
  unfold wl
  rw [List.range_succ, List.map_append]
  congr 1
  · apply List.map_congr_left
    intro i hi
    have hi := List.mem_range.mp hi
    rw [va_up_ne h _ (by omega)]
  · simp [va_up_self]
theorem lok_cl {ad ad' : Nat → Nat} {n : Nat} (ha : ∀ i, (i < n ∨ BB ≤ i) → ad' i = ad i) : ∀ {ls : List (Nat × Value)}, lok n ls → ls.map (fun q => (q.1, cv ad' q.2)) = ls.map (fun q => (q.1, cv ad q.2))
  | [], _ => rfl
  | q :: ls, h => by rw [List.map_cons, List.map_cons, cv_ext ha h.1, lok_cl ha h.2]
/-- the machine, and all that stays through a method: p l e Rm s m args below meth c D cA ad0 n0 N1 z0 F -/
abbrev Zc : Type := Program × Launch × Env × Room × State × MethodId × Array Value × List Frame × Method × Code × va_G × (Nat → ClassId) × (Nat → Nat) × Nat × Nat × Nat × (State → Prop)
def adk (ad0 : Nat → Nat) (n0 : Nat) (ad : Nat → Nat) : Prop := ∀ i, (i < n0 ∨ BB ≤ i) → ad i = ad0 i
def lmap (ad : Nat → Nat) (ls : List (Nat × Value)) : List (Nat × Value) := ls.map (fun q => (q.1, cv ad q.2))
def R : Zc → Nat → List (Nat × Value) → List Value → Nat → Hp → Nat → Prop
  | (p, l, e, Rm, s, m, args, below, meth, c, D, cA, ad0, n0, N1, z0, F), pc, ls, st, n, h, x =>
    ∀ (ad : Nat → Nat) (H : Heap) (locs : List Loc) (la : Array Slot), adk ad0 n0 ad → n0 ≤ n → n ≤ N1 → lok n ls → sok n st → Rep D cA z0 ad n h H → va_S (fun q => z0 ≤ q) s.heap H locs → lv_has la c.maxLocals (lmap ad ls) →
      W p l e Rm s m args below meth c H locs ((n - n0) + x) (1744 * (n - n0) + 8 * x) F (F0 m pc la (st.map (cv ad)))
/-- what is known of them: the code's bytes, the class that it stands in, how deep it may call, how many more cells X there may be -/
def Fx (cc : ByteArray) (own : String) (nL d X : Nat) : Zc → Prop
  | (p, _, _, Rm, s, m, args, _, meth, c, D, cA, ad0, n0, N1, z0, _) =>
    p.tables.exec = Jvm.exec ∧ c.code = cc ∧ c.maxLocals = nL ∧ s.vm.findClass own = some m.cls ∧ (∀ w ∈ TT, w.before args s = true) ∧ va_K D clz (tyz cA) s ∧ (StF z0 ad0 s ∧ NsF s) ∧ z0 ≤ s.heap.size ∧ meth.locks = false ∧
    n0 ≤ N1 ∧ d ≤ Rm.frames ∧ 64 * d ≤ Rm.locals ∧ (N1 - n0) + X ≤ Rm.cells ∧ 1744 * (N1 - n0) + 8 * X ≤ Rm.slots
/-- the end of a call that answers r and leaves n' objects, the heap h' -/
def QcE (D : va_G) (cA : Nat → ClassId) (z0 : Nat) (ad0 : Nat → Nat) (n0 : Nat) (r : Option Value) (n' : Nat) (h' : Hp) : Array Value → State → Outcome → State → Prop := fun _ st o t =>
  (∃ ad', adk ad0 n0 ad' ∧ o = .returned (r.map (cv ad')) ∧ (∀ v, r = some v → vok n' v) ∧ Rep D cA z0 ad' n' h' t.heap ∧ n0 ≤ n') ∧ va_F (fun q => z0 ≤ q) st t
def PcE (D : va_G) (cA : Nat → ClassId) (z0 : Nat) (ad0 : Nat → Nat) (args : List Value) (n0 : Nat) (h : Hp) : Array Value → State → Prop := fun v U =>
  v = (args.map (cv ad0)).toArray ∧ z0 ≤ U.heap.size ∧ sok n0 args ∧ Rep D cA z0 ad0 n0 h U.heap ∧ va_K D clz (tyz cA) U ∧ StF z0 ad0 U ∧ NsF U
def rmE (d n0 n' : Nat) : Room := { frames := d, cells := n' - n0, slots := 1744 * (n' - n0), locals := 64 * d }
/-- a call of the method y with these arguments, n objects made so far and the heap h: it answers r, and leaves n' and h' -/
def Ev (d : Nat) (y : MethodName) (b : ByteArray) (maxL : Nat) (ret : Option FieldType) (args : List Value) (n : Nat) (h : Hp) (r : Option Value) (n' : Nat) (h' : Hp) : Prop :=
  ∀ (l : Launch) (D : va_G) (cA : Nat → ClassId) (z0 : Nat) (ad : Nat → Nat), Met l y (.code y b maxL ret :: TT) (rmE d n n') (PcE D cA z0 ad args n h) (QcE D cA z0 ad n r n' h') (n' - n) (1744 * (n' - n)) (fun q => z0 ≤ q)
/-- the end that a method's walk is after -/
def FE (ret : Option FieldType) (r : Option Value) (n' : Nat) (h' : Hp) : Zc → Prop
  | (_, _, _, _, s, _, args, below, meth, _, D, cA, ad0, n0, _, z0, F) => F = MQ below (QcE D cA z0 ad0 n0 r n' h') args s (n' - n0) (1744 * (n' - n0)) (fun q => z0 ≤ q) ∧ meth.sig.returnType = ret
