/-! rows for the law's own body -/
def ScZ (L : Nat) (xs : Nat → Int32) : Zc → Prop
  | (_, _, _, _, s, _, _, _, _, _, _, _, ad0, _, _, z0, _) => va_X (ad0 (BB + 4)) L xs s s.heap ∧ ad0 (BB + 4) < s.heap.size ∧ ad0 (BB + 4) < z0
def aX (L : Nat) (xs : Nat → Int32) (i : Int32) : Option Int32 := if 0 ≤ i.toInt ∧ i.toInt < L then some (xs i.toNatClampNeg) else none
section LR
variable {Z : Zc} {cc : ByteArray} {own : String} {nL d X : Nat}
theorem r_aX (hZ : Fx cc own nL d X Z) {L : Nat} {xs : Nat → Int32} (hS0 : ScZ L xs Z) {pc n x : Nat} {ls : List (Nat × Value)} {st : List Value} {h : Hp} {i v : Int32} (hd : decode cc pc = .ok (.iaload, 1)) (hg : aX L xs i = some v) (kk : R Z (pc + 1) ls (.int v :: st) n h x) : R Z pc ls (.int i :: .ref (BB + 4) :: st) n h x := by
  unfold aX at hg
  split at hg
  · rename_i hi
    cases hg
    obtain ⟨p, l, e, Rm, s, m, args, below, meth, c, D, cA, ad0, n0, N1, z0, F⟩ := Z
    obtain ⟨hx, hb, hml, hown, hts, hK, hSt, hz, hlk, hN, hd1, hd2, hc1, hs1⟩ := hZ
    intro ad H locs la ha h1 h2 hl0 hs0 hR hS hl
    obtain ⟨g2, g4, g3⟩ := hS0
    have e1 : cv ad (.ref (BB + 4)) = .ref (ad0 (BB + 4)) := congrArg Value.ref (ha _ (Or.inr (Nat.le_add_right _ _)))
    show W p l e Rm s m args below meth c H locs _ _ F (F0 m pc la (.int i :: cv ad (.ref (BB + 4)) :: st.map (cv ad)))
    rw [e1]
    exact va_sld hx hb g2 g4 (Nat.not_le.mpr g3) hS (inb_in hi) hd (kk ad H locs la ha h1 h2 hl0 ⟨trivial, hs0.2.2⟩ hR hS hl)
  · cases hg
theorem r_nX (hZ : Fx cc own nL d X Z) {L : Nat} {xs : Nat → Int32} (hS0 : ScZ L xs Z) {pc n x : Nat} {ls : List (Nat × Value)} {st : List Value} {h : Hp} (hd : decode cc pc = .ok (.arraylength, 1)) (kk : R Z (pc + 1) ls (.int (Int32.ofNat L) :: st) n h x) : R Z pc ls (.ref (BB + 4) :: st) n h x := by
  obtain ⟨p, l, e, Rm, s, m, args, below, meth, c, D, cA, ad0, n0, N1, z0, F⟩ := Z
  obtain ⟨hx, hb, hml, hown, hts, hK, hSt, hz, hlk, hN, hd1, hd2, hc1, hs1⟩ := hZ
  intro ad H locs la ha h1 h2 hl0 hs0 hR hS hl
  obtain ⟨g2, g4, g3⟩ := hS0
  have e1 : cv ad (.ref (BB + 4)) = .ref (ad0 (BB + 4)) := congrArg Value.ref (ha _ (Or.inr (Nat.le_add_right _ _)))
  show W p l e Rm s m args below meth c H locs _ _ F (F0 m pc la (cv ad (.ref (BB + 4)) :: st.map (cv ad)))
  rw [e1]
  exact va_slen hx hb g2 g4 (Nat.not_le.mpr g3) hS hd (kk ad H locs la ha h1 h2 hl0 ⟨trivial, hs0.2⟩ hR hS hl)
/-- more cells than were made -/
theorem r_wide {pc n x x' : Nat} {ls : List (Nat × Value)} {st : List Value} {h : Hp} (hxx : x ≤ x') (kk : R Z pc ls st n h x') : R Z pc ls st n h x := by
  obtain ⟨p, l, e, Rm, s, m, args, below, meth, c, D, cA, ad0, n0, N1, z0, F⟩ := Z
  intro ad H locs la ha h1 h2 hl0 hs0 hR hS hl
  exact W.widen (by omega) (by omega) (kk ad H locs la ha h1 h2 hl0 hs0 hR hS hl)
/-- from the run of a callee that may make one cell beside the world -/
theorem run_R1 {p : Program} {l : Launch} {e : Env} {Rm : Room} {s : State} {m : MethodId} {args : Array Value} {below : List Frame} {meth : Method} {c : Code} {D : va_G} {cA : Nat → ClassId} {ad0 : Nat → Nat} {n0 N1 z0 : Nat} {F : State → Prop} {pc n x : Nat} {ls : List (Nat × Value)} {st0 rest : List Value} {h' : Hp} {r : Option Value} {a : Array Value} {ad : Nat → Nat} {H : Heap} {locs : List Loc} {la : Array Slot}
    (hr : va_Run p l e Rm s m args below meth c H locs ((n - n0) + x) (1744 * (n - n0) + 8 * x) 1 8 (F0 m pc la st0) (rest.map (cv ad)) (QcE D cA z0 ad n r n h' a) (fun q => z0 ≤ q))
    (k : R (p, l, e, Rm, s, m, args, below, meth, c, D, cA, ad0, n0, N1, z0, F) (pc + 3) ls (r.toList ++ rest) n h' (x + 1))
    (ha : adk ad0 n0 ad) (h1 : n0 ≤ n) (h2 : n ≤ N1) (hl0 : lok n ls) (hs0 : sok n rest) (hS : va_S (fun q => z0 ≤ q) s.heap H locs) (hl : lv_has la c.maxLocals (lmap ad ls)) :
    W p l e Rm s m args below meth c H locs ((n - n0) + x) (1744 * (n - n0) + 8 * x) F (F0 m pc la st0) := by
  intro T hT X
  obtain ⟨v, st₀, t, T', L, g0, X', hL, e1, e2, ⟨⟨ad', hadk, hv, hvok, hRep, -⟩, hz, hk⟩, st⟩ := hr T hT X
  cases hv
  rw [g0] at hz hk
  have e3 : (r.map (cv ad')).toList ++ rest.map (cv ad) = (r.toList ++ rest).map (cv ad') := by
    rw [List.map_append, cs_ext hadk hs0]
    cases r <;> rfl
  have e4 : (n - n0) + x + 1 = (n - n0) + (x + 1) := by omega
  have e5 : 1744 * (n - n0) + 8 * x + 8 = 1744 * (n - n0) + 8 * (x + 1) := by omega
  rw [e3] at st
  rw [e4, e5] at X'
  have hS' : va_S (fun q => z0 ≤ q) s.heap T'.heap (locs ++ L) := ⟨Nat.le_trans hS.1 (by rw [e1]; exact hz), fun q g1 g2 => by rw [e1, hk q (Nat.lt_of_lt_of_le g1 hS.1) g2]; exact hS.2.1 q g1 g2, fun q hq => by
      rcases List.mem_append.mp hq with g | g
      · exact hS.2.2 q g
      · exact hL q g⟩
  have hso : sok n (r.toList ++ rest) := by
    cases r with
    | none => exact hs0
    | some w => exact ⟨hvok w rfl, hs0⟩
  obtain ⟨t2, a1, b1⟩ := k ad' T'.heap (locs ++ L) la (fun i hi => by rw [hadk i (hi.imp (fun z => Nat.lt_of_lt_of_le z h1) id)]; exact ha i hi) h1 h2 hl0 hso (by rw [e1]; exact hRep) hS' (by unfold lmap; rw [lok_cl hadk hl0]; exact hl) T' rfl X'
  exact ⟨t2, st t2 a1, b1⟩
def CVY (own : String) (idx : Nat) (C : String) (y : MethodName) (b : ByteArray) (maxL : Nat) (ret : Option FieldType) (hh : List (Nat × Nat × Nat × Nat)) (k : Nat) : Prop :=
  Cond.methodLink own idx y ∈ TT ∧ Cond.instanceMethod y ∈ TT ∧ Cond.selects C y y ∈ TT ∧ Cond.initialized y.cls ∈ TT ∧ Cond.codeWith y b maxL ret hh ∈ TT ∧ (y.cls ≠ "java/lang/invoke/MethodHandle" ∧ y.cls ≠ "java/lang/invoke/VarHandle") ∧ (parseMethodDescriptor y.desc).map (fun d => d.parameters.length) = some k ∧ maxL ≤ 45
def CSY (own : String) (idx : Nat) (y : MethodName) (b : ByteArray) (maxL : Nat) (ret : Option FieldType) (hh : List (Nat × Nat × Nat × Nat)) (k : Nat) : Prop :=
  Cond.methodLink own idx y ∈ TT ∧ Cond.static y ∈ TT ∧ Cond.initialized y.cls ∈ TT ∧ Cond.codeWith y b maxL ret hh ∈ TT ∧ (y.cls ≠ "java/lang/invoke/MethodHandle" ∧ y.cls ≠ "java/lang/invoke/VarHandle") ∧ (parseMethodDescriptor y.desc).map (fun d => d.parameters.length) = some k ∧ maxL ≤ 45
theorem r_callVY (hZ : Fx cc own nL d X Z) (hE : ExZ Z) {pc n x : Nat} {ls : List (Nat × Value)} {rest As : List Value} {h h' : Hp} {idx ci a k d' : Nat} {C : String} {T : u_T} {N : Nat} {y : MethodName} {b : ByteArray} {maxL : Nat} {ret : Option FieldType} {hh : List (Nat × Nat × Nat × Nat)} {r : Option Value} {st0 : List Value}
    (hd : decode cc pc = .ok (.invokevirtual idx, 3)) (hC : CVY own idx C y b maxL ret hh k) (hc : clz[ci]? = some (C, T, N)) (hrec : isO h a ci = some ()) (hEv : EvY d' y b maxL ret hh (.ref a :: As) n h r h') (hst : st0 = As.reverse ++ .ref a :: rest) (hk : As.length = k) (hd' : d' < d) (hcat : (rest.map fun v => v.category).sum ≤ 8) (hX : x + 1 ≤ X)
    {st1 : List Value} (hst1 : r.toList ++ rest = st1) (kk : R Z (pc + 3) ls st1 n h' (x + 1)) : R Z pc ls st0 n h x := by
  subst hst
  subst hst1
  obtain ⟨fs, ho⟩ := isO_spec hrec
  obtain ⟨p, l, e, Rm, s, m, args, below, meth, c, D, cA, ad0, n0, N1, z0, F⟩ := Z
  obtain ⟨hx, hb, hml, hown, hts, hK, hSt, hz, hlk, hN1, hd1, hd2, hc1, hs1⟩ := hZ
  obtain ⟨w1, w2, w3, w4, w5, w6, w7, w8⟩ := hC
  obtain ⟨hE1, hE2⟩ := hE
  intro ad H locs la ha h1 h2 hl0 hs0 hR hS hl
  have hsA : sok n (.ref a :: As) := ⟨Or.inl (hR.dom ho), sok_app hs0⟩
  have hsr : sok n rest := sok_app2 hs0
  have er : ((As.reverse ++ .ref a :: rest).map (cv ad)) = (As.map (cv ad)).reverse ++ .ref (ad a) :: rest.map (cv ad) := by
    rw [List.map_append, List.map_cons, List.map_reverse]
    rfl
  rw [er]
  refine run_R1 (vx_runVW (As := As.map (cv ad)) (rest := rest.map (cv ad)) (n := k) ⟨hx, hb, hml, hown, hts⟩ (hEv l D cA z0 ad hE1) ⟨⟨rfl, rfl, ?_, ?_, TT_pay hts w5, List.mem_cons_self⟩, hts _ w5, hts _ w4, w6, par_n w7, hts _ w1, hts _ w2, hts _ w3⟩ ⟨PcX_blind, va_recv hK hR.2.2.2.1 hc (hR.at ho), fun U hU hW => ⟨PcE_go hz hK hSt ha hS hR hsA U hU hW, hE2.go hS hU hW⟩⟩ rfl (by rw [List.length_map]; exact hk) (hl.1.trans hml) rfl (lv_room (cat_le hcat)) hd ⟨?_, ?_⟩) kk ha h1 h2 hl0 hsr hS hl
  · show d' + 1 ≤ Rm.frames
    omega
  · show 8 + (maxL + 11) + 64 * d' ≤ Rm.locals
    omega
  · omega
  · omega
theorem r_callSY (hZ : Fx cc own nL d X Z) (hE : ExZ Z) {pc n x : Nat} {ls : List (Nat × Value)} {rest As : List Value} {h h' : Hp} {idx k d' : Nat} {y : MethodName} {b : ByteArray} {maxL : Nat} {ret : Option FieldType} {hh : List (Nat × Nat × Nat × Nat)} {r : Option Value} {st0 : List Value}
    (hd : decode cc pc = .ok (.invokestatic idx, 3)) (hC : CSY own idx y b maxL ret hh k) (hEv : EvY d' y b maxL ret hh As n h r h') (hst : st0 = As.reverse ++ rest) (hk : As.length = k) (hd' : d' < d) (hcat : (rest.map fun v => v.category).sum ≤ 8) (hX : x + 1 ≤ X)
    {st1 : List Value} (hst1 : r.toList ++ rest = st1) (kk : R Z (pc + 3) ls st1 n h' (x + 1)) : R Z pc ls st0 n h x := by
  subst hst
  subst hst1
  obtain ⟨p, l, e, Rm, s, m, args, below, meth, c, D, cA, ad0, n0, N1, z0, F⟩ := Z
  obtain ⟨hx, hb, hml, hown, hts, hK, hSt, hz, hlk, hN1, hd1, hd2, hc1, hs1⟩ := hZ
  obtain ⟨w1, w2, w4, w5, w6, w7, w8⟩ := hC
  obtain ⟨hE1, hE2⟩ := hE
  intro ad H locs la ha h1 h2 hl0 hs0 hR hS hl
  have hsA : sok n As := (sok_rev hs0).1
  have hsr : sok n rest := (sok_rev hs0).2
  have er : ((As.reverse ++ rest).map (cv ad)) = (As.map (cv ad)).reverse ++ rest.map (cv ad) := by
    rw [List.map_append, List.map_reverse]
  rw [er]
  refine run_R1 (vx_runSW (As := As.map (cv ad)) (rest := rest.map (cv ad)) (n := k) ⟨hx, hb, hml, hown, hts⟩ (hEv l D cA z0 ad hE1) ⟨⟨rfl, rfl, ?_, ?_, TT_pay hts w5, List.mem_cons_self⟩, hts _ w5, hts _ w4, w6, par_n w7, hts _ w1, hts _ w2⟩ ⟨PcX_blind, fun U hU hW => ⟨PcE_go hz hK hSt ha hS hR hsA U hU hW, hE2.go hS hU hW⟩⟩ rfl (by rw [List.length_map]; exact hk) (hl.1.trans hml) rfl (lv_room (cat_le hcat)) hd ⟨?_, ?_⟩) kk ha h1 h2 hl0 hsr hS hl
  · show d' + 1 ≤ Rm.frames
    omega
  · show 8 + (maxL + 11) + 64 * d' ≤ Rm.locals
    omega
  · omega
  · omega
end LR
