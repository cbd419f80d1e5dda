/-! making objects, calls, returns -/
def NX (m : Nat) : Zc → Prop
  | (_, _, _, _, _, _, _, _, _, _, _, _, _, _, N1, _, _) => m ≤ N1 ∧ m ≤ BB
section MK
variable {p : Program} {l : Launch} {e : Env} {Rm : Room} {s : State} {m : MethodId} {args : Array Value} {below : List Frame} {meth : Method} {c : Code} {D : va_G} {cA : Nat → ClassId} {ad0 : Nat → Nat} {n0 N1 z0 : Nat} {F : State → Prop}
theorem push_R {pc n x q : Nat} {ls : List (Nat × Value)} {st : List Value} {h : Hp} {o : Ob} {ad : Nat → Nat} {H1 : Heap} {locs : List Loc} {la : Array Slot}
    (k : R (p, l, e, Rm, s, m, args, below, meth, c, D, cA, ad0, n0, N1, z0, F) pc ls (.ref n :: st) (n + 1) (va_up h n (some o)) x)
    (ha : adk ad0 n0 ad) (h1 : n0 ≤ n) (h2 : n + 1 ≤ N1) (hB : n + 1 ≤ BB) (hl0 : lok n ls) (hs0 : sok n st) (hko : ook n o)
    (hd : ∀ i, (h i).isSome = true ↔ i < n) (hk : ∀ i ob, h i = some ob → ook n ob)
    (hP : va_P D clz (wl cA ad n h ++ [(q, ce cA ad o)]) H1) (hD : va_D (fun q => z0 ≤ q) (wl cA ad n h ++ [(q, ce cA ad o)])) (hS : va_S (fun q => z0 ≤ q) s.heap H1 locs) (hl : lv_has la c.maxLocals (lmap ad ls)) :
    W p l e Rm s m args below meth c H1 locs ((n + 1 - n0) + x) (1744 * (n + 1 - n0) + 8 * x) F (F0 m pc la (.ref q :: st.map (cv ad))) := by
  have hb : n < BB := hB
  have hx := ext_push (ad := ad) (q := q) hb
  rw [wl_push hb hk hko] at hP hD
  have k2 := k (va_up ad n q) H1 locs la (fun i hi => by rw [hx i (hi.imp (fun z => Nat.lt_of_lt_of_le z h1) id)]; exact ha i hi) (Nat.le_succ_of_le h1) h2 (lok_mono (Nat.le_succ n) hl0) ⟨Or.inl (Nat.lt_succ_self n), sok_mono (Nat.le_succ n) hs0⟩ ⟨fun i => ?_, fun i ob hi => ?_, hB, hP, hD⟩ hS (by unfold lmap; rw [lok_cl hx hl0]; exact hl)
  · have e1 : (Value.ref n :: st).map (cv (va_up ad n q)) = .ref q :: st.map (cv ad) := by
      rw [List.map_cons, cs_ext hx hs0]
      show Value.ref (va_up ad n q n) :: _ = _
      rw [va_up_self]
    rw [e1] at k2
    exact k2
  · by_cases hi : i = n
    · subst hi
      rw [va_up_self]
      exact ⟨fun _ => Nat.lt_succ_self _, fun _ => rfl⟩
    · rw [va_up_ne h _ hi, hd i]
      omega
  · by_cases hin : i = n
    · subst hin
      rw [va_up_self] at hi
      cases hi
      exact ook_mono (Nat.le_succ _) hko
    · rw [va_up_ne h _ hin] at hi
      exact ook_mono (Nat.le_succ _) (hk i ob hi)
theorem run_R {pc n n' x : Nat} {ls : List (Nat × Value)} {st0 rest : List Value} {h' : Hp} {r : Option Value} {a : Array Value} {ad : Nat → Nat} {H : Heap} {locs : List Loc} {la : Array Slot}
    (hr : va_Run p l e Rm s m args below meth c H locs ((n - n0) + x) (1744 * (n - n0) + 8 * x) (n' - n) (1744 * (n' - n)) (F0 m pc la st0) (rest.map (cv ad)) (QcE D cA z0 ad n r n' h' a) (fun q => z0 ≤ q))
    (k : R (p, l, e, Rm, s, m, args, below, meth, c, D, cA, ad0, n0, N1, z0, F) (pc + 3) ls (r.toList ++ rest) n' h' x)
    (ha : adk ad0 n0 ad) (h1 : n0 ≤ n) (hnn : n ≤ n') (h2 : n' ≤ N1) (hl0 : lok n ls) (hs0 : sok n rest) (hS : va_S (fun q => z0 ≤ q) s.heap H locs) (hl : lv_has la c.maxLocals (lmap ad ls)) :
    W p l e Rm s m args below meth c H locs ((n - n0) + x) (1744 * (n - n0) + 8 * x) F (F0 m pc la st0) := by
  intro T hT X
  obtain ⟨v, st₀, t, T', L, g0, X', hL, e1, e2, ⟨⟨ad', hadk, hv, hvok, hRep, -⟩, hz, hk⟩, st⟩ := hr T hT X
  cases hv
  rw [g0] at hz hk
  have e3 : (r.map (cv ad')).toList ++ rest.map (cv ad) = (r.toList ++ rest).map (cv ad') := by
    rw [List.map_append, cs_ext hadk hs0]
    cases r <;> rfl
  have e4 : (n - n0) + x + (n' - n) = (n' - n0) + x := by omega
  have e5 : 1744 * (n - n0) + 8 * x + 1744 * (n' - n) = 1744 * (n' - n0) + 8 * x := by omega
  rw [e3] at st
  rw [e4, e5] at X'
  have hS' : va_S (fun q => z0 ≤ q) s.heap T'.heap (locs ++ L) := ⟨Nat.le_trans hS.1 (by rw [e1]; exact hz), fun q g1 g2 => by rw [e1, hk q (Nat.lt_of_lt_of_le g1 hS.1) g2]; exact hS.2.1 q g1 g2, fun q hq => by
      rcases List.mem_append.mp hq with g | g
      · exact hS.2.2 q g
      · exact hL q g⟩
  have hso : sok n' (r.toList ++ rest) := by
    cases r with
    | none => exact sok_mono hnn hs0
    | some w => exact ⟨hvok w rfl, sok_mono hnn hs0⟩
  obtain ⟨t2, a1, b1⟩ := k ad' T'.heap (locs ++ L) la (fun i hi => by rw [hadk i (hi.imp (fun z => Nat.lt_of_lt_of_le z h1) id)]; exact ha i hi) (Nat.le_trans h1 hnn) h2 (lok_mono hnn hl0) hso (by rw [e1]; exact hRep) hS' (by unfold lmap; rw [lok_cl hadk hl0]; exact hl) T' rfl X'
  exact ⟨t2, st t2 a1, b1⟩
theorem StF.go {ad : Nat → Nat} {H : Heap} {locs : List Loc} {U : State} (h : StF z0 ad0 s) (ha : adk ad0 n0 ad) (hS : va_S (fun q => z0 ≤ q) s.heap H locs) (hU : U.heap = H) (hvm : s.vm.Alike U.vm) : StF z0 ad U := by
  intro j hj
  obtain ⟨g1, g2⟩ := h j hj
  rw [ha _ (Or.inr (Nat.le_add_right _ _)), hU]
  exact ⟨(g1.moved hvm).kept hS.2.1, (g2.moved hvm).kept hS.2.1⟩
theorem PcE_blind {as : List Value} {ad : Nat → Nat} {n : Nat} {h : Hp} : FrameBlind (PcE D cA z0 ad as n h) := by
  intro a U g mk q
  obtain ⟨q1, q2, q3, q4, q5, q6, q7⟩ := q
  refine ⟨q1, q2, q3, q4, va_K.moved (u := U) (U := U.calling g mk a) (Vm.Alike.refl U.vm) q5, fun j hj => ?_, q7.same (U := U.calling g mk a) rfl⟩
  obtain ⟨g1, g2⟩ := q6 j hj
  exact ⟨g1.moved (u := U) (U := U.calling g mk a) (Vm.Alike.refl U.vm), g2.moved (u := U) (U := U.calling g mk a) (Vm.Alike.refl U.vm)⟩
theorem PcE_go {as : List Value} {ad : Nat → Nat} {n : Nat} {h : Hp} {H : Heap} {locs : List Loc} (hz : z0 ≤ s.heap.size) (hK : va_K D clz (tyz cA) s) (hSt : StF z0 ad0 s ∧ NsF s) (ha : adk ad0 n0 ad) (hS : va_S (fun q => z0 ≤ q) s.heap H locs) (hR : Rep D cA z0 ad n h H) (hs : sok n as) : ∀ U : State, U.heap = H → s.WarmedH U.vm → PcE D cA z0 ad as n h (as.map (cv ad)).toArray U := by
  intro U hU hW
  exact ⟨rfl, by rw [hU]; exact Nat.le_trans hz hS.1, hs, by rw [hU]; exact hR, va_K.moved hW.alike hK, hSt.1.go ha hS hU hW.alike, hSt.2.warm hW⟩
end MK
/-- what a call's words say: virtual, of a receiver of the class C -/
def CV (own : String) (idx : Nat) (C : String) (y : MethodName) (b : ByteArray) (maxL : Nat) (ret : Option FieldType) (k : Nat) : Prop :=
  Cond.methodLink own idx y ∈ TT ∧ Cond.instanceMethod y ∈ TT ∧ Cond.selects C y y ∈ TT ∧ Cond.initialized y.cls ∈ TT ∧ Cond.code y b maxL ret ∈ TT ∧ (y.cls ≠ "java/lang/invoke/MethodHandle" ∧ y.cls ≠ "java/lang/invoke/VarHandle") ∧ (parseMethodDescriptor y.desc).map (fun d => d.parameters.length) = some k ∧ maxL ≤ 45
/-- static -/
def CS (own : String) (idx : Nat) (y : MethodName) (b : ByteArray) (maxL : Nat) (ret : Option FieldType) (k : Nat) : Prop :=
  Cond.methodLink own idx y ∈ TT ∧ Cond.static y ∈ TT ∧ Cond.initialized y.cls ∈ TT ∧ Cond.code y b maxL ret ∈ TT ∧ (y.cls ≠ "java/lang/invoke/MethodHandle" ∧ y.cls ≠ "java/lang/invoke/VarHandle") ∧ (parseMethodDescriptor y.desc).map (fun d => d.parameters.length) = some k ∧ maxL ≤ 45
/-- a constructor -/
def CI (own : String) (idx : Nat) (y : MethodName) (b : ByteArray) (maxL : Nat) (k : Nat) : Prop :=
  Cond.methodLink own idx y ∈ TT ∧ Cond.instanceMethod y ∈ TT ∧ Cond.initialized y.cls ∈ TT ∧ Cond.code y b maxL none ∈ TT ∧ (y.cls ≠ "java/lang/invoke/MethodHandle" ∧ y.cls ≠ "java/lang/invoke/VarHandle") ∧ (parseMethodDescriptor y.desc).map (fun d => d.parameters.length) = some k ∧ maxL ≤ 45 ∧ y.name = "<init>"
/-- static, of a nest mate's private method -/
def CSN (own : String) (idx : Nat) (y : MethodName) (b : ByteArray) (maxL : Nat) (ret : Option FieldType) (k : Nat) : Prop :=
  (own, idx, y, RX11) ∈ NsL ∧ Cond.static y ∈ TT ∧ Cond.initialized y.cls ∈ TT ∧ Cond.code y b maxL ret ∈ TT ∧ (y.cls ≠ "java/lang/invoke/MethodHandle" ∧ y.cls ≠ "java/lang/invoke/VarHandle") ∧ (parseMethodDescriptor y.desc).map (fun d => d.parameters.length) = some k ∧ maxL ≤ 45
/-- a nest mate's private constructor -/
def CIN (own : String) (idx : Nat) (y : MethodName) (b : ByteArray) (maxL : Nat) (k : Nat) : Prop :=
  (own, idx, y, RX11) ∈ NsL ∧ Cond.instanceMethod y ∈ TT ∧ Cond.initialized y.cls ∈ TT ∧ Cond.code y b maxL none ∈ TT ∧ (y.cls ≠ "java/lang/invoke/MethodHandle" ∧ y.cls ≠ "java/lang/invoke/VarHandle") ∧ (parseMethodDescriptor y.desc).map (fun d => d.parameters.length) = some k ∧ maxL ≤ 45 ∧ y.name = "<init>"
/-- a method that the receiver's class has from the class above it -/
def CU (own : String) (idx : Nat) (C : String) (xm y : MethodName) (b : ByteArray) (maxL : Nat) (ret : Option FieldType) (k : Nat) : Prop :=
  Cond.methodLink own idx xm ∈ TT ∧ Cond.instanceMethod y ∈ TT ∧ Cond.selects C xm y ∈ TT ∧ Cond.initialized y.cls ∈ TT ∧ Cond.code y b maxL ret ∈ TT ∧ (y.cls ≠ "java/lang/invoke/MethodHandle" ∧ y.cls ≠ "java/lang/invoke/VarHandle") ∧ (parseMethodDescriptor xm.desc).map (fun d => d.parameters.length) = some k ∧ maxL ≤ 45 ∧ Cond.sameMethod xm.cls y.cls xm.name xm.desc ∈ TT ∧ y = ⟨y.cls, xm.name, xm.desc⟩
def isO (h : Hp) (a ci : Nat) : Option Unit := match h a with
  | some (t, .inl _) => if t = ci then some () else none
  | _ => none
theorem isO_spec {h : Hp} {a ci : Nat} (q : isO h a ci = some ()) : ∃ fs, h a = some (ci, .inl fs) := by
  unfold isO at q
  split at q
  · rename_i t fs e
    split at q
    · rename_i ht
      subst ht
      exact ⟨fs, e⟩
    · cases q
  · cases q
theorem TT_pay {s : State} {args : Array Value} {c0 : Cond} (hts : ∀ w ∈ TT, w.before args s = true) (hc : c0 ∈ TT) : ∀ w ∈ (c0 :: TT), ∀ (a' : Array Value) (U : State), s.WarmedH U.vm → w.before a' U = true :=
  pay_in hts (fun w hw => by
    have hw' : w ∈ TT := (List.mem_cons.mp hw).elim (fun e => e ▸ hc) id
    exact ⟨hw', good_of_word (TT_good w hw')⟩)
theorem par_n {y : MethodName} {k : Nat} (h : (parseMethodDescriptor y.desc).map (fun d => d.parameters.length) = some k) : ∀ sig, parseMethodDescriptor y.desc = some sig → k = sig.parameters.length := by
  intro sig hs
  rw [hs] at h
  exact (Option.some.inj h).symm
theorem cat_le {ad : Nat → Nat} {st : List Value} (h : (st.map fun v => v.category).sum ≤ 8) : ((st.map (cv ad)).map fun v => v.category).sum ≤ 8 := by
  rw [List.map_map]
  have e : ((fun v : Value => v.category) ∘ cv ad) = fun v => v.category := by
    funext v
    exact cv_cat ad v
  rw [e]
  exact h
theorem sok_rev {n : Nat} : ∀ {a b : List Value}, sok n (a.reverse ++ b) → sok n a ∧ sok n b
  | [], _, h => ⟨trivial, h⟩
  | v :: a, b, h => by
    rw [List.reverse_cons, List.append_assoc] at h
    obtain ⟨q1, q2⟩ := sok_rev (a := a) h
    exact ⟨⟨q2.1, q1⟩, q2.2⟩
theorem sok_app {n : Nat} {a rest : List Value} {v : Value} (h : sok n (a.reverse ++ v :: rest)) : sok n a := (sok_rev h).1
theorem sok_app2 {n : Nat} {a rest : List Value} {v : Value} (h : sok n (a.reverse ++ v :: rest)) : sok n rest := (sok_rev h).2.2
section CALLS
variable {Z : Zc} {cc : ByteArray} {own : String} {nL d X : Nat}
theorem r_callV (hZ : Fx cc own nL d X Z) {N2 : Nat} {pc n n' x : Nat} {ls : List (Nat × Value)} {rest As : List Value} {h h' : Hp} {idx ci a k d' : Nat} {C : String} {T : u_T} {N : Nat} {y : MethodName} {b : ByteArray} {maxL : Nat} {ret : Option FieldType} {r : Option Value} {st0 : List Value}
    (hd : decode cc pc = .ok (.invokevirtual idx, 3)) (hC : CV own idx C y b maxL ret k) (hc : clz[ci]? = some (C, T, N)) (hrec : isO h a ci = some ()) (hE : Ev d' y b maxL ret (.ref a :: As) n h r n' h') (hst : st0 = As.reverse ++ .ref a :: rest) (hk : As.length = k) (hd' : d' < d) (hcat : (rest.map fun v => v.category).sum ≤ 8) (hx0 : x ≤ X) (hnn : n ≤ n') (hN : n' = n ∨ (NX N2 Z ∧ n' ≤ N2))
    {st1 : List Value} (hst1 : r.toList ++ rest = st1) (kk : R Z (pc + 3) ls st1 n' h' x) : R Z pc ls st0 n h x := by
  subst hst
  subst hst1
  obtain ⟨fs, ho⟩ := isO_spec hrec
  obtain ⟨p, l, e, Rm, s, m, args, below, meth, c, D, cA, ad0, n0, N1, z0, F⟩ := Z
  obtain ⟨hx, hb, hml, hown, hts, hK, hSt, hz, hlk, hN1, hd1, hd2, hc1, hs1⟩ := hZ
  obtain ⟨w1, w2, w3, w4, w5, w6, w7, w8⟩ := hC
  intro ad H locs la ha h1 h2 hl0 hs0 hR hS hl
  have h3 : n' ≤ N1 := hN.elim (fun q => by omega) (fun q => Nat.le_trans q.2 q.1.1)
  have hsA : sok n (.ref a :: As) := ⟨Or.inl (hR.dom ho), sok_app hs0⟩
  have hsr : sok n rest := sok_app2 hs0
  have er : ((As.reverse ++ .ref a :: rest).map (cv ad)) = (As.map (cv ad)).reverse ++ .ref (ad a) :: rest.map (cv ad) := by
    rw [List.map_append, List.map_cons, List.map_reverse]
    rfl
  rw [er]
  refine run_R (va_runV (As := As.map (cv ad)) (rest := rest.map (cv ad)) (n := k) ⟨hx, hb, hml, hown, hts⟩ (hE l D cA z0 ad) ⟨⟨rfl, rfl, ?_, ?_, TT_pay hts w5, List.mem_cons_self, hts _ w5, hts _ w4, w6, par_n w7, hts _ w1⟩, hts _ w2, hts _ w3⟩ ⟨PcE_blind, va_recv hK hR.2.2.2.1 hc (hR.at ho), PcE_go hz hK hSt ha hS hR hsA⟩ rfl (by rw [List.length_map]; exact hk) (hl.1.trans hml) rfl (lv_room (cat_le hcat)) hd ⟨?_, ?_⟩) kk ha h1 hnn h3 hl0 hsr hS hl
  · show d' + 1 ≤ Rm.frames
    omega
  · show 8 + (maxL + 11) + 64 * d' ≤ Rm.locals
    omega
  · omega
  · omega
theorem r_callS (hZ : Fx cc own nL d X Z) {N2 : Nat} {pc n n' x : Nat} {ls : List (Nat × Value)} {rest As : List Value} {h h' : Hp} {idx k d' : Nat} {y : MethodName} {b : ByteArray} {maxL : Nat} {ret : Option FieldType} {r : Option Value} {st0 : List Value}
    (hd : decode cc pc = .ok (.invokestatic idx, 3)) (hC : CS own idx y b maxL ret k) (hE : Ev d' y b maxL ret As n h r n' h') (hst : st0 = As.reverse ++ rest) (hk : As.length = k) (hd' : d' < d) (hcat : (rest.map fun v => v.category).sum ≤ 8) (hx0 : x ≤ X) (hnn : n ≤ n') (hN : n' = n ∨ (NX N2 Z ∧ n' ≤ N2))
    {st1 : List Value} (hst1 : r.toList ++ rest = st1) (kk : R Z (pc + 3) ls st1 n' h' x) : R Z pc ls st0 n h x := by
  subst hst
  subst hst1
  obtain ⟨p, l, e, Rm, s, m, args, below, meth, c, D, cA, ad0, n0, N1, z0, F⟩ := Z
  obtain ⟨hx, hb, hml, hown, hts, hK, hSt, hz, hlk, hN1, hd1, hd2, hc1, hs1⟩ := hZ
  obtain ⟨w1, w2, w4, w5, w6, w7, w8⟩ := hC
  intro ad H locs la ha h1 h2 hl0 hs0 hR hS hl
  have h3 : n' ≤ N1 := hN.elim (fun q => by omega) (fun q => Nat.le_trans q.2 q.1.1)
  have hsA : sok n As := (sok_rev hs0).1
  have hsr : sok n rest := (sok_rev hs0).2
  have er : ((As.reverse ++ rest).map (cv ad)) = (As.map (cv ad)).reverse ++ rest.map (cv ad) := by
    rw [List.map_append, List.map_reverse]
  rw [er]
  refine run_R (va_runS (As := As.map (cv ad)) (rest := rest.map (cv ad)) (n := k) ⟨hx, hb, hml, hown, hts⟩ (hE l D cA z0 ad) ⟨⟨rfl, rfl, ?_, ?_, TT_pay hts w5, List.mem_cons_self, hts _ w5, hts _ w4, w6, par_n w7, hts _ w1⟩, hts _ w2⟩ ⟨PcE_blind, PcE_go hz hK hSt ha hS hR hsA⟩ rfl (by rw [List.length_map]; exact hk) (hl.1.trans hml) rfl (lv_room (cat_le hcat)) hd ⟨?_, ?_⟩) kk ha h1 hnn h3 hl0 hsr hS hl
  · show d' + 1 ≤ Rm.frames
    omega
  · show 8 + (maxL + 11) + 64 * d' ≤ Rm.locals
    omega
  · omega
  · omega
theorem r_callI (hZ : Fx cc own nL d X Z) {N2 : Nat} {pc n n' x : Nat} {ls : List (Nat × Value)} {rest As : List Value} {h h' : Hp} {idx k d' : Nat} {y : MethodName} {b : ByteArray} {maxL : Nat} {a : Nat} {st0 : List Value}
    (hd : decode cc pc = .ok (.invokespecial idx, 3)) (hC : CI own idx y b maxL k) (hE : Ev d' y b maxL none (.ref a :: As) n h none n' h') (hst : st0 = As.reverse ++ .ref a :: rest) (hk : As.length = k) (hd' : d' < d) (hcat : (rest.map fun v => v.category).sum ≤ 8) (hx0 : x ≤ X) (hnn : n ≤ n') (hN : n' = n ∨ (NX N2 Z ∧ n' ≤ N2))
    (kk : R Z (pc + 3) ls rest n' h' x) : R Z pc ls st0 n h x := by
  subst hst
  obtain ⟨p, l, e, Rm, s, m, args, below, meth, c, D, cA, ad0, n0, N1, z0, F⟩ := Z
  obtain ⟨hx, hb, hml, hown, hts, hK, hSt, hz, hlk, hN1, hd1, hd2, hc1, hs1⟩ := hZ
  obtain ⟨w1, w2, w4, w5, w6, w7, w8, w9⟩ := hC
  intro ad H locs la ha h1 h2 hl0 hs0 hR hS hl
  have h3 : n' ≤ N1 := hN.elim (fun q => by omega) (fun q => Nat.le_trans q.2 q.1.1)
  have hsA : sok n (.ref a :: As) := ⟨((sok_rev hs0).2).1, sok_app hs0⟩
  have hsr : sok n rest := sok_app2 hs0
  have er : ((As.reverse ++ .ref a :: rest).map (cv ad)) = (As.map (cv ad)).reverse ++ .ref (ad a) :: rest.map (cv ad) := by
    rw [List.map_append, List.map_cons, List.map_reverse]
    rfl
  rw [er]
  refine run_R (r := none) (va_runI (As := As.map (cv ad)) (rest := rest.map (cv ad)) (n := k) ⟨hx, hb, hml, hown, hts⟩ (hE l D cA z0 ad) ⟨⟨rfl, rfl, ?_, ?_, TT_pay hts w5, List.mem_cons_self, hts _ w5, hts _ w4, w6, par_n w7, hts _ w1⟩, w9, hts _ w2⟩ ⟨PcE_blind, PcE_go hz hK hSt ha hS hR hsA⟩ rfl (by rw [List.length_map]; exact hk) (hl.1.trans hml) rfl (lv_room (cat_le hcat)) hd ⟨?_, ?_⟩) kk ha h1 hnn h3 hl0 hsr hS hl
  · show d' + 1 ≤ Rm.frames
    omega
  · show 8 + (maxL + 11) + 64 * d' ≤ Rm.locals
    omega
  · omega
  · omega
theorem r_callSN (hZ : Fx cc own nL d X Z) {N2 : Nat} {pc n n' x : Nat} {ls : List (Nat × Value)} {rest As : List Value} {h h' : Hp} {idx k d' : Nat} {y : MethodName} {b : ByteArray} {maxL : Nat} {ret : Option FieldType} {r : Option Value} {st0 : List Value}
    (hd : decode cc pc = .ok (.invokestatic idx, 3)) (hC : CSN own idx y b maxL ret k) (hE : Ev d' y b maxL ret As n h r n' h') (hst : st0 = As.reverse ++ rest) (hk : As.length = k) (hd' : d' < d) (hcat : (rest.map fun v => v.category).sum ≤ 8) (hx0 : x ≤ X) (hnn : n ≤ n') (hN : n' = n ∨ (NX N2 Z ∧ n' ≤ N2))
    {st1 : List Value} (hst1 : r.toList ++ rest = st1) (kk : R Z (pc + 3) ls st1 n' h' x) : R Z pc ls st0 n h x := by
  subst hst
  subst hst1
  obtain ⟨p, l, e, Rm, s, m, args, below, meth, c, D, cA, ad0, n0, N1, z0, F⟩ := Z
  obtain ⟨hx, hb, hml, hown, hts, hK, hSt, hz, hlk, hN1, hd1, hd2, hc1, hs1⟩ := hZ
  obtain ⟨w1, w2, w4, w5, w6, w7, w8⟩ := hC
  have w1 := va_Nw.use rfl (A := args) (hSt.2.1 _ w1)
  intro ad H locs la ha h1 h2 hl0 hs0 hR hS hl
  have h3 : n' ≤ N1 := hN.elim (fun q => by omega) (fun q => Nat.le_trans q.2 q.1.1)
  have hsA : sok n As := (sok_rev hs0).1
  have hsr : sok n rest := (sok_rev hs0).2
  have er : ((As.reverse ++ rest).map (cv ad)) = (As.map (cv ad)).reverse ++ rest.map (cv ad) := by
    rw [List.map_append, List.map_reverse]
  rw [er]
  refine run_R (va_runSN (As := As.map (cv ad)) (rest := rest.map (cv ad)) (n := k) ⟨hx, hb, hml, hown, hts⟩ (hE l D cA z0 ad) ⟨⟨⟨rfl, rfl, ?_, ?_, TT_pay hts w5, List.mem_cons_self⟩, hts _ w5, hts _ w4, w6, par_n w7, w1⟩, hts _ w2, trivial⟩ ⟨PcE_blind, PcE_go hz hK hSt ha hS hR hsA⟩ rfl (by rw [List.length_map]; exact hk) (hl.1.trans hml) rfl (lv_room (cat_le hcat)) hd ⟨?_, ?_⟩) kk ha h1 hnn h3 hl0 hsr hS hl
  · show d' + 1 ≤ Rm.frames
    omega
  · show 8 + (maxL + 11) + 64 * d' ≤ Rm.locals
    omega
  · omega
  · omega
theorem r_callIN (hZ : Fx cc own nL d X Z) {N2 : Nat} {pc n n' x : Nat} {ls : List (Nat × Value)} {rest As : List Value} {h h' : Hp} {idx k d' : Nat} {y : MethodName} {b : ByteArray} {maxL : Nat} {a : Nat} {st0 : List Value}
    (hd : decode cc pc = .ok (.invokespecial idx, 3)) (hC : CIN own idx y b maxL k) (hE : Ev d' y b maxL none (.ref a :: As) n h none n' h') (hst : st0 = As.reverse ++ .ref a :: rest) (hk : As.length = k) (hd' : d' < d) (hcat : (rest.map fun v => v.category).sum ≤ 8) (hx0 : x ≤ X) (hnn : n ≤ n') (hN : n' = n ∨ (NX N2 Z ∧ n' ≤ N2))
    (kk : R Z (pc + 3) ls rest n' h' x) : R Z pc ls st0 n h x := by
  subst hst
  obtain ⟨p, l, e, Rm, s, m, args, below, meth, c, D, cA, ad0, n0, N1, z0, F⟩ := Z
  obtain ⟨hx, hb, hml, hown, hts, hK, hSt, hz, hlk, hN1, hd1, hd2, hc1, hs1⟩ := hZ
  obtain ⟨w1, w2, w4, w5, w6, w7, w8, w9⟩ := hC
  have w1 := va_Nw.use rfl (A := args) (hSt.2.1 _ w1)
  intro ad H locs la ha h1 h2 hl0 hs0 hR hS hl
  have h3 : n' ≤ N1 := hN.elim (fun q => by omega) (fun q => Nat.le_trans q.2 q.1.1)
  have hsA : sok n (.ref a :: As) := ⟨((sok_rev hs0).2).1, sok_app hs0⟩
  have hsr : sok n rest := sok_app2 hs0
  have er : ((As.reverse ++ .ref a :: rest).map (cv ad)) = (As.map (cv ad)).reverse ++ .ref (ad a) :: rest.map (cv ad) := by
    rw [List.map_append, List.map_cons, List.map_reverse]
    rfl
  rw [er]
  refine run_R (r := none) (va_runIN (As := As.map (cv ad)) (rest := rest.map (cv ad)) (n := k) ⟨hx, hb, hml, hown, hts⟩ (hE l D cA z0 ad) ⟨⟨⟨rfl, rfl, ?_, ?_, TT_pay hts w5, List.mem_cons_self⟩, hts _ w5, hts _ w4, w6, par_n w7, w1⟩, w9, hts _ w2⟩ ⟨PcE_blind, PcE_go hz hK hSt ha hS hR hsA⟩ rfl (by rw [List.length_map]; exact hk) (hl.1.trans hml) rfl (lv_room (cat_le hcat)) hd ⟨?_, ?_⟩) kk ha h1 hnn h3 hl0 hsr hS hl
  · show d' + 1 ≤ Rm.frames
    omega
  · show 8 + (maxL + 11) + 64 * d' ≤ Rm.locals
    omega
  · omega
  · omega
theorem r_callU (hZ : Fx cc own nL d X Z) {N2 : Nat} {pc n n' x : Nat} {ls : List (Nat × Value)} {rest As : List Value} {h h' : Hp} {idx ci a k d' : Nat} {C : String} {T : u_T} {N : Nat} {xm y : MethodName} {b : ByteArray} {maxL : Nat} {ret : Option FieldType} {r : Option Value} {st0 : List Value}
    (hd : decode cc pc = .ok (.invokevirtual idx, 3)) (hC : CU own idx C xm y b maxL ret k) (hc : clz[ci]? = some (C, T, N)) (hrec : isO h a ci = some ()) (hE : Ev d' y b maxL ret (.ref a :: As) n h r n' h') (hst : st0 = As.reverse ++ .ref a :: rest) (hk : As.length = k) (hd' : d' < d) (hcat : (rest.map fun v => v.category).sum ≤ 8) (hx0 : x ≤ X) (hnn : n ≤ n') (hN : n' = n ∨ (NX N2 Z ∧ n' ≤ N2))
    {st1 : List Value} (hst1 : r.toList ++ rest = st1) (kk : R Z (pc + 3) ls st1 n' h' x) : R Z pc ls st0 n h x := by
  subst hst
  subst hst1
  obtain ⟨fs, ho⟩ := isO_spec hrec
  obtain ⟨p, l, e, Rm, s, m, args, below, meth, c, D, cA, ad0, n0, N1, z0, F⟩ := Z
  obtain ⟨hx, hb, hml, hown, hts, hK, hSt, hz, hlk, hN1, hd1, hd2, hc1, hs1⟩ := hZ
  obtain ⟨w1, w2, w3, w4, w5, w6, w7, w8, w9, w10⟩ := hC
  intro ad H locs la ha h1 h2 hl0 hs0 hR hS hl
  have h3 : n' ≤ N1 := hN.elim (fun q => by omega) (fun q => Nat.le_trans q.2 q.1.1)
  have hsA : sok n (.ref a :: As) := ⟨Or.inl (hR.dom ho), sok_app hs0⟩
  have hsr : sok n rest := sok_app2 hs0
  have er : ((As.reverse ++ .ref a :: rest).map (cv ad)) = (As.map (cv ad)).reverse ++ .ref (ad a) :: rest.map (cv ad) := by
    rw [List.map_append, List.map_cons, List.map_reverse]
    rfl
  rw [er]
  refine run_R (va_runU (As := As.map (cv ad)) (rest := rest.map (cv ad)) (n := k) ⟨hx, hb, hml, hown, hts⟩ (hE l D cA z0 ad) ⟨⟨rfl, rfl, ?_, ?_, TT_pay hts w5, List.mem_cons_self⟩, hts _ w5, hts _ w4, w6, par_n w7, hts _ w1, hts _ w9, by rw [← w10]; exact va_Decl.of (hts _ w2) (hts _ w5), hts _ w3, hts _ w2⟩ ⟨PcE_blind, va_recv hK hR.2.2.2.1 hc (hR.at ho), PcE_go hz hK hSt ha hS hR hsA⟩ rfl (by rw [List.length_map]; exact hk) (hl.1.trans hml) rfl (lv_room (cat_le hcat)) hd ⟨?_, ?_⟩) kk ha h1 hnn h3 hl0 hsr hS hl
  · show d' + 1 ≤ Rm.frames
    omega
  · show 8 + (maxL + 11) + 64 * d' ≤ Rm.locals
    omega
  · omega
  · omega
end CALLS
