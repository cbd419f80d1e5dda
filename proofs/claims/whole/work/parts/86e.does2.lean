/-! meshes and rooms by the class; all three by the reference -/
section
variable {d : Mem}
/-- what stands behind the tests of rings in addMesh -/
def tlM (h : Hp) (a b : Int32) : Option (Int32 × Hp) :=
  (isO h 30 3).bind fun _ =>
  (f_X3_meshOf h 30 a b).bind fun r10 =>
  (if r10 = (J (-4)) then
    (gI h 30 3 5).bind fun x11 =>
    (if x11 < (J 16) then
      (gR h 30 3 2).bind fun x12 =>
      (gI h 30 3 5).bind fun x13 =>
      (sI h x12 x13 a).bind fun h14 =>
      (gR h14 30 3 3).bind fun x15 =>
      (gI h14 30 3 5).bind fun x16 =>
      (sI h14 x15 x16 b).bind fun h17 =>
      (gR h17 30 3 4).bind fun x18 =>
      (gI h17 30 3 5).bind fun x19 =>
      (sI h17 x18 x19 (J 62)).bind fun h20 =>
      (gI h20 30 3 5).bind fun x21 =>
      (pF h20 30 3 5 (.int (x21 + (J 1)))).bind fun h22 =>
      some ((J 1), h22)
    else
      some ((J 0), h))
  else
    some ((J 0), h))
theorem addMesh_form (h : Hp) (a b : Int32) : f_X3_addMesh h 30 a b = (gI h 30 3 1).bind fun x1 => (f_X11_isWithin a (J 0) (x1 - (J 1))).bind fun r2 => (if r2 = 0 then some ((J 0), h) else (gI h 30 3 1).bind fun x3 => (f_X11_isWithin b (J 0) (x3 - (J 1))).bind fun r4 => (if r4 = 0 then some ((J 0), h) else (if a = b then some ((J 0), h) else (gR h 30 3 0).bind fun x5 => (aR h x5 3 a).bind fun x6 => (isO h x6 0).bind fun _ => (f_X0_isRing h x6).bind fun r8 => (if r8 = 0 then tlM h a b else (gR h 30 3 0).bind fun x25 => (aR h x25 3 b).bind fun x26 => (isO h x26 0).bind fun _ => (f_X0_isRing h x26).bind fun r28 => (if r28 = 0 then tlM h a b else some ((J 0), h)))))) := rfl
theorem c_tlM (P : PL d 30 32 33 34 500) {f : Int → Int} (f0 : 0 ≤ f 0 ∧ f 0 < d 500 1740) (f1 : 0 ≤ f 1 ∧ f 1 < d 500 1740) (ne : f 0 ≠ f 1) : (¬ (d 500 1741 < 16 ∧ btS (d 500) (f 0) (f 1) = none) ∧ tlM (mkH d) (J (f 0)) (J (f 1)) = some (J 0, mkH d)) ∨ ((d 500 1741 < 16 ∧ btS (d 500) (f 0) (f 1) = none) ∧ ∃ d', tlM (mkH d) (J (f 0)) (J (f 1)) = some (J 1, mkH d') ∧ PL d' 30 32 33 34 500 ∧ d' 500 = nwM f (d 500) ∧ ∀ x, (x < 30 ∨ 58 < x) → x ≠ 500 → d' x = d x) := by
  obtain ⟨p1, p2, p3, p4, p5, p6, p7, p8⟩ := id P
  have q := c_meshOf P (a := f 0) (b := f 1) f0.1 (by omega) f1.1 (by omega)
  unfold tlM
  cases hb : btS (d 500) (f 0) (f 1) with
  | some m =>
    rw [hb] at q
    have q : f_X3_meshOf (mkH d) 30 (J (f 0)) (J (f 1)) = some (J (m : Int)) := q
    have ml := bt_lt hb
    refine Or.inl ⟨fun h => (by cases h.2), bind_eq (z30_0 d) (bind_eq q ?_)⟩
    rw [if_neg (by rw [J_eq (by omega) (by omega) (by omega) (by omega)]; omega)]
  | none =>
    rw [hb] at q
    have q : f_X3_meshOf (mkH d) 30 (J (f 0)) (J (f 1)) = some (J (-4)) := q
    by_cases c : d 500 1741 < 16
    · obtain ⟨g, hg⟩ : ∃ g, g = d 500 1741 := ⟨_, rfl⟩
      rw [← hg] at c p2 p5 p6
      obtain ⟨e1, he1⟩ : ∃ e1, e1 = up (up (up d 32 g (f 0)) 33 g (f 1)) 34 g 62 := ⟨_, rfl⟩
      obtain ⟨D, hD⟩ : ∃ D : Mem, D = fun x => if x = 500 then nwM f (d 500) else up e1 30 5 (g + 1) x := ⟨_, rfl⟩
      have D500 : D 500 = nwM f (d 500) := by rw [hD]; exact if_pos rfl
      have Dx : ∀ x, x ≠ 500 → D x = up e1 30 5 (g + 1) x := fun x hx => by rw [hD]; exact if_neg hx
      have ghost : mkH D = mkH (up e1 30 5 (g + 1)) := mkH_gh Dx
      have Do : ∀ x, x ≠ 500 → x ≠ 30 → x ≠ 32 → x ≠ 33 → x ≠ 34 → D x = d x := fun x h1 h2 h3 h4 h5 => by rw [Dx x h1, up_row h2, he1, up_row h5, up_row h4, up_row h3]
      refine Or.inr ⟨⟨by omega, rfl⟩, D, ?_, ?_, D500, fun x hx h5 => Do x h5 (by omega) (by omega) (by omega) (by omega)⟩
      · rw [ghost]
        have s1 : sI (mkH d) 32 (J g) (J (f 0)) = some (mkH (up d 32 g (f 0))) := q_sI (len := 16) rfl (by decide) p5 (by omega)
        have s2 : sI (mkH (up d 32 g (f 0))) 33 (J g) (J (f 1)) = some (mkH (up (up d 32 g (f 0)) 33 g (f 1))) := q_sI (len := 16) rfl (by decide) p5 (by omega)
        have s3 : sI (mkH (up (up d 32 g (f 0)) 33 g (f 1))) 34 (J g) (J 62) = some (mkH (up (up (up d 32 g (f 0)) 33 g (f 1)) 34 g 62)) := q_sI (len := 16) rfl (by decide) p5 (by omega)
        refine bind_eq (z30_0 d) (bind_eq q ?_)
        rw [if_pos rfl]
        refine bind_eq (z30_7 d) ?_
        rw [p2, if_pos (by rw [J_lt (by omega) (by omega) (by omega) (by omega)]; omega)]
        refine bind_eq (z30_4 d) (bind_eq (z30_7 d) ?_)
        rw [p2]
        refine bind_eq s1 (bind_eq (z30_5 _) (bind_eq (z30_7 _) ?_))
        rw [up_na (by decide), p2]
        refine bind_eq s2 (bind_eq (z30_6 _) (bind_eq (z30_7 _) ?_))
        rw [up_na (by decide), up_na (by decide), p2]
        refine bind_eq s3 (bind_eq (z30_7 _) ?_)
        rw [up_na (by decide), up_na (by decide), up_na (by decide), p2, J_add, ← he1]
        exact bind_eq (z30_8 _ _) rfl
      · have n41 : D 500 1741 = g + 1 := by rw [D500, hg]; exact if_pos rfl
        have nlo : ∀ k, ¬ (k = 1741) → ¬ (228 + 3 * g ≤ k ∧ k < 228 + 3 * g + 3) → D 500 k = d 500 k := fun k k1 k2 => by
          rw [D500]
          unfold nwM
          rw [← hg, if_neg k1, if_neg (by omega), if_neg (by omega), if_neg (by omega)]
        have n40 : D 500 1740 = d 500 1740 := nlo 1740 (by omega) (by omega)
        unfold PL
        refine ⟨?_, ?_, by omega, by omega, by omega, by omega, fun i i0 i1 => ?_, fun m m0 m1 => ?_⟩
        · rw [n40, Dx 30 (by decide), up_nk (by decide), he1, up_na (by decide), up_na (by decide), up_na (by decide)]
          exact p1
        · rw [n41, Dx 30 (by decide), up_same]
        · rw [n40] at i1
          have z := p7 i i0 i1
          have il := gA_le (p := 30) i0 (by omega : i < 12)
          have ec : cw D (gA 30 i) = cw d (gA 30 i) := cw_row (Do _ (by omega) (by omega) (by omega) (by omega) (by omega))
          have ev : vw D 500 i = vw d 500 i := tr_cong (fun y _ _ => nlo _ (by omega) (by omega))
          unfold GE at z ⊢
          rw [Do (gA 30 i) (by omega) (by omega) (by omega) (by omega) (by omega), ec, ev, nlo (19 * i) (by omega) (by omega), nlo (19 * i + 1) (by omega) (by omega), nlo (19 * i + 2) (by omega) (by omega)]
          exact z
        · rw [n41] at m1
          have z32 : ∀ k, D 32 k = up d 32 g (f 0) 32 k := fun k => by rw [Dx 32 (by decide), up_na (by decide), he1, up_na (by decide), up_na (by decide)]
          have z33 : ∀ k, D 33 k = up d 33 g (f 1) 33 k := fun k => by
            rw [Dx 33 (by decide), up_na (by decide), he1, up_na (by decide)]
            unfold up
            split
            · rfl
            · exact if_neg (by omega)
          have z34 : ∀ k, D 34 k = up d 34 g 62 34 k := fun k => by
            rw [Dx 34 (by decide), up_na (by decide), he1]
            unfold up
            split
            · rfl
            · rw [if_neg (by omega), if_neg (by omega)]
          by_cases e : m = g
          · have x0 : D 500 (228 + 3 * g + 0) = f 0 := by
              rw [D500]
              unfold nwM
              rw [← hg, if_neg (by omega), if_neg (by omega), if_neg (by omega), if_pos rfl]
            have x1 : D 500 (228 + 3 * g + 1) = f 1 := by
              rw [D500]
              unfold nwM
              rw [← hg, if_neg (by omega), if_neg (by omega), if_pos rfl]
            have x2 : D 500 (228 + 3 * g + 2) = 62 := by
              rw [D500]
              unfold nwM
              rw [← hg, if_neg (by omega), if_pos rfl]
            rw [e]
            unfold ME
            rw [x0, x1, x2, z32, z33, z34, up_same, up_same, up_same, n40]
            exact ⟨rfl, rfl, rfl, f0.1, f0.2, f1.1, f1.2, ne, by decide, by decide⟩
          · have z := p8 m m0 (by omega)
            unfold ME at z ⊢
            rw [z32, z33, z34, up_nk e, up_nk e, up_nk e, n40, nlo (228 + 3 * m + 0) (by omega) (by omega), nlo (228 + 3 * m + 1) (by omega) (by omega), nlo (228 + 3 * m + 2) (by omega) (by omega)]
            exact z
    · refine Or.inl ⟨fun h => c h.1, bind_eq (z30_0 d) (bind_eq q ?_)⟩
      rw [if_pos rfl]
      refine bind_eq (z30_7 d) ?_
      rw [p2, if_neg (by rw [J_lt (by omega) (by omega) (by omega) (by omega)]; exact c)]
theorem okM_iff {f w : Int → Int} : okM f w = true ↔ (f 0 < w 1740 ∧ f 1 < w 1740 ∧ f 0 ≠ f 1 ∧ ¬ (w (19 * f 0) = 4 ∧ w (19 * f 1) = 4) ∧ w 1741 < 16) ∧ btS w (f 0) (f 1) = none := by
  unfold okM
  rw [Bool.and_eq_true, decide_eq_true_iff, Option.isNone_iff_eq_none]
theorem c_addMesh (P : PL d 30 32 33 34 500) {f : Int → Int} (f0 : 0 ≤ f 0 ∧ f 0 ≤ 99) (f1 : 0 ≤ f 1 ∧ f 1 ≤ 99) : (¬ okM f (d 500) = true ∧ f_X3_addMesh (mkH d) 30 (J (f 0)) (J (f 1)) = some (J 0, mkH d)) ∨ (okM f (d 500) = true ∧ ∃ d', f_X3_addMesh (mkH d) 30 (J (f 0)) (J (f 1)) = some (J 1, mkH d') ∧ PL d' 30 32 33 34 500 ∧ d' 500 = nwM f (d 500) ∧ ∀ x, (x < 30 ∨ 58 < x) → x ≠ 500 → d' x = d x) := by
  obtain ⟨p1, p2, p3, p4, p5, p6, p7, p8⟩ := id P
  rw [addMesh_form, okM_iff]
  have w1 := w_isWithin (a := f 0) (l := 0) (u := d 500 1740 - 1) (by omega) (by omega) (by decide) (by decide) (by omega) (by omega)
  have w2 := w_isWithin (a := f 1) (l := 0) (u := d 500 1740 - 1) (by omega) (by omega) (by decide) (by decide) (by omega) (by omega)
  have g1 : gI (mkH d) 30 3 1 = some (J (d 500 1740)) := by rw [z30_2, p1]
  by_cases c1 : 0 ≤ f 0 ∧ f 0 ≤ d 500 1740 - 1
  · rw [B_t c1] at w1
    by_cases c2 : 0 ≤ f 1 ∧ f 1 ≤ d 500 1740 - 1
    · rw [B_t c2] at w2
      by_cases c3 : f 0 = f 1
      · refine Or.inl ⟨fun h => h.1.2.2.1 c3, bind_eq g1 ?_⟩
        rw [J_sub]
        refine bind_eq w1 ?_
        rw [if_neg (by first | exact n1J | decide)]
        refine bind_eq g1 ?_
        rw [J_sub]
        refine bind_eq w2 ?_
        rw [if_neg (by first | exact n1J | decide), if_pos (by rw [c3])]
      · have T := c_tlM P (f := f) ⟨c1.1, by omega⟩ ⟨c2.1, by omega⟩ c3
        have Ga := isG_30 (i := f 0) c1.1 (by omega)
        have Gb := isG_30 (i := f 1) c2.1 (by omega)
        have ga := p7 (f 0) c1.1 (by omega)
        have gb := p7 (f 1) c2.1 (by omega)
        have ra := c_isRing (d := d) Ga (by rw [ga.2.1]; exact ⟨ga.2.2.2.2.2.1, ga.2.2.2.2.2.2.1⟩)
        have rb := c_isRing (d := d) Gb (by rw [gb.2.1]; exact ⟨gb.2.2.2.2.2.1, gb.2.2.2.2.2.2.1⟩)
        rw [ga.2.1] at ra
        rw [gb.2.1] at rb
        have qa : aR (mkH d) 31 3 (J (f 0)) = some (gA 30 (f 0)) := q_aR (d := d) (a := 31) (i := f 0) (t := 3) (b := 35) (m := 2) (len := 12) rfl rfl (by decide) (by decide) c1.1 (by omega)
        have qb : aR (mkH d) 31 3 (J (f 1)) = some (gA 30 (f 1)) := q_aR (d := d) (a := 31) (i := f 1) (t := 3) (b := 35) (m := 2) (len := 12) rfl rfl (by decide) (by decide) c2.1 (by omega)
        have nj : ¬ (J (f 0) = J (f 1)) := by
          rw [J_eq (by omega) (by omega) (by omega) (by omega)]
          exact c3
        have pre : ∀ {X : Option (Int32 × Hp)}, ((gR (mkH d) 30 3 0).bind fun x5 => (aR (mkH d) x5 3 (J (f 0))).bind fun x6 => (isO (mkH d) x6 0).bind fun _ => (f_X0_isRing (mkH d) x6).bind fun r8 => (if r8 = 0 then tlM (mkH d) (J (f 0)) (J (f 1)) else (gR (mkH d) 30 3 0).bind fun x25 => (aR (mkH d) x25 3 (J (f 1))).bind fun x26 => (isO (mkH d) x26 0).bind fun _ => (f_X0_isRing (mkH d) x26).bind fun r28 => (if r28 = 0 then tlM (mkH d) (J (f 0)) (J (f 1)) else some ((J 0), mkH d)))) = X → ((gI (mkH d) 30 3 1).bind fun x1 => (f_X11_isWithin (J (f 0)) (J 0) (x1 - (J 1))).bind fun r2 => (if r2 = 0 then some ((J 0), mkH d) else (gI (mkH d) 30 3 1).bind fun x3 => (f_X11_isWithin (J (f 1)) (J 0) (x3 - (J 1))).bind fun r4 => (if r4 = 0 then some ((J 0), mkH d) else (if J (f 0) = J (f 1) then some ((J 0), mkH d) else (gR (mkH d) 30 3 0).bind fun x5 => (aR (mkH d) x5 3 (J (f 0))).bind fun x6 => (isO (mkH d) x6 0).bind fun _ => (f_X0_isRing (mkH d) x6).bind fun r8 => (if r8 = 0 then tlM (mkH d) (J (f 0)) (J (f 1)) else (gR (mkH d) 30 3 0).bind fun x25 => (aR (mkH d) x25 3 (J (f 1))).bind fun x26 => (isO (mkH d) x26 0).bind fun _ => (f_X0_isRing (mkH d) x26).bind fun r28 => (if r28 = 0 then tlM (mkH d) (J (f 0)) (J (f 1)) else some ((J 0), mkH d))))))) = X := by
          intro X hX
          refine bind_eq g1 ?_
          rw [J_sub]
          refine bind_eq w1 ?_
          rw [if_neg (by first | exact n1J | decide)]
          refine bind_eq g1 ?_
          rw [J_sub]
          refine bind_eq w2 ?_
          rw [if_neg (by first | exact n1J | decide), if_neg nj]
          exact hX
        by_cases cr : d 500 (19 * f 0) = 4 ∧ d 500 (19 * f 1) = 4
        · refine Or.inl ⟨fun h => h.1.2.2.2.1 cr, pre ?_⟩
          rw [B_t cr.1] at ra
          rw [B_t cr.2] at rb
          refine bind_eq (z30_1 d) (bind_eq qa (bind_eq (q_isO Ga.1) (bind_eq ra ?_)))
          rw [if_neg (by first | exact n1J | decide)]
          refine bind_eq (z30_1 d) (bind_eq qb (bind_eq (q_isO Gb.1) (bind_eq rb ?_)))
          rw [if_neg (by first | exact n1J | decide)]
        · have via : ∀ {X : Option (Int32 × Hp)}, tlM (mkH d) (J (f 0)) (J (f 1)) = X → ((gR (mkH d) 30 3 0).bind fun x5 => (aR (mkH d) x5 3 (J (f 0))).bind fun x6 => (isO (mkH d) x6 0).bind fun _ => (f_X0_isRing (mkH d) x6).bind fun r8 => (if r8 = 0 then tlM (mkH d) (J (f 0)) (J (f 1)) else (gR (mkH d) 30 3 0).bind fun x25 => (aR (mkH d) x25 3 (J (f 1))).bind fun x26 => (isO (mkH d) x26 0).bind fun _ => (f_X0_isRing (mkH d) x26).bind fun r28 => (if r28 = 0 then tlM (mkH d) (J (f 0)) (J (f 1)) else some ((J 0), mkH d)))) = X := by
            intro X hX
            refine bind_eq (z30_1 d) (bind_eq qa (bind_eq (q_isO Ga.1) (bind_eq ra ?_)))
            by_cases ca : d 500 (19 * f 0) = 4
            · rw [if_neg (by rw [B_t ca]; decide)]
              refine bind_eq (z30_1 d) (bind_eq qb (bind_eq (q_isO Gb.1) (bind_eq rb ?_)))
              rw [if_pos (by rw [B_f (fun h => cr ⟨ca, h⟩)]; rfl)]
              exact hX
            · rw [if_pos (by rw [B_f ca]; rfl)]
              exact hX
          rcases T with ⟨t1, t2⟩ | ⟨t1, d', t2, t3⟩
          · exact Or.inl ⟨fun h => t1 ⟨h.1.2.2.2.2, h.2⟩, pre (via t2)⟩
          · exact Or.inr ⟨⟨⟨by omega, by omega, c3, cr, t1.1⟩, t1.2⟩, d', pre (via t2), t3⟩
    · rw [B_f c2] at w2
      refine Or.inl ⟨fun h => by have := h.1.2.1; omega, bind_eq g1 ?_⟩
      rw [J_sub]
      refine bind_eq w1 ?_
      rw [if_neg (by first | exact n1J | decide)]
      refine bind_eq g1 ?_
      rw [J_sub]
      exact bind_eq w2 rfl
  · rw [B_f c1] at w1
    refine Or.inl ⟨fun h => by have := h.1.1; omega, bind_eq g1 ?_⟩
    rw [J_sub]
    exact bind_eq w1 rfl
def nwR (f w : Int → Int) (m : Nat) : Int → Int := fun k => if k = 228 + 3 * (m : Int) + 2 then f 2 else w k
theorem c_setRoom (P : PL d 30 32 33 34 500) {f : Int → Int} (f0 : 0 ≤ f 0 ∧ f 0 ≤ 99) (f1 : 0 ≤ f 1 ∧ f 1 ≤ 99) (f2 : 0 ≤ f 2 ∧ f 2 ≤ 99) : match doS 100 f (d 500) with
    | none => f_X3_setRoom (mkH d) 30 (J (f 0)) (J (f 1)) (J (f 2)) = some (J 0, mkH d)
    | some w => ∃ d', f_X3_setRoom (mkH d) 30 (J (f 0)) (J (f 1)) (J (f 2)) = some (J 1, mkH d') ∧ PL d' 30 32 33 34 500 ∧ d' 500 = w ∧ ∀ x, (x < 30 ∨ 58 < x) → x ≠ 500 → d' x = d x := by
  obtain ⟨p1, p2, p3, p4, p5, p6, p7, p8⟩ := id P
  have q := c_meshOf P (a := f 0) (b := f 1) f0.1 f0.2 f1.1 f1.2
  have w3 := w_isWithin (a := f 2) (l := 0) (u := 62) (by omega) (by omega) (by decide) (by decide) (by decide) (by decide)
  unfold doS
  rw [if_neg (by first | exact n1J | decide), if_neg (by first | exact n1J | decide)]
  cases hb : btS (d 500) (f 0) (f 1) with
  | none =>
    rw [hb] at q
    have q : f_X3_meshOf (mkH d) 30 (J (f 0)) (J (f 1)) = some (J (-4)) := q
    exact bind_eq (z30_0 d) (bind_eq q rfl)
  | some m =>
    rw [hb] at q
    have q : f_X3_meshOf (mkH d) 30 (J (f 0)) (J (f 1)) = some (J (m : Int)) := q
    have ml := bt_lt hb
    have nm : ¬ (J (m : Int) = J (-4)) := by
      rw [J_eq (by omega) (by omega) (by omega) (by omega)]
      omega
    by_cases c : f 2 ≤ 62
    · simp only [if_pos c]
      rw [B_t ⟨f2.1, c⟩] at w3
      obtain ⟨D, hD⟩ : ∃ D : Mem, D = fun x => if x = 500 then nwR f (d 500) m else up d 34 m (f 2) x := ⟨_, rfl⟩
      have D500 : D 500 = nwR f (d 500) m := by rw [hD]; exact if_pos rfl
      have Dx : ∀ x, x ≠ 500 → D x = up d 34 m (f 2) x := fun x hx => by rw [hD]; exact if_neg hx
      have ghost : mkH D = mkH (up d 34 m (f 2)) := mkH_gh Dx
      have Do : ∀ x, x ≠ 500 → x ≠ 34 → D x = d x := fun x h1 h2 => by rw [Dx x h1, up_row h2]
      refine ⟨D, ?_, ?_, D500, fun x hx h5 => Do x h5 (by omega)⟩
      · rw [ghost]
        refine bind_eq (z30_0 d) (bind_eq q ?_)
        rw [if_neg nm]
        refine bind_eq w3 ?_
        rw [if_neg (by first | exact n1J | decide)]
        have s1 : sI (mkH d) 34 (J (m : Int)) (J (f 2)) = some (mkH (up d 34 m (f 2))) := q_sI (len := 16) rfl (by decide) (by omega) (by omega)
        exact bind_eq (z30_6 d) (bind_eq s1 rfl)
      · have nlo : ∀ k, k ≠ 228 + 3 * (m : Int) + 2 → D 500 k = d 500 k := fun k k1 => by
          rw [D500]
          exact if_neg k1
        have n40 : D 500 1740 = d 500 1740 := nlo 1740 (by omega)
        have n41 : D 500 1741 = d 500 1741 := nlo 1741 (by omega)
        unfold PL
        rw [n40, n41, Do 30 (by decide) (by decide)]
        refine ⟨p1, p2, p3, p4, p5, p6, fun i i0 i1 => ?_, fun j j0 j1 => ?_⟩
        · have z := p7 i i0 i1
          have il := gA_le (p := 30) i0 (by omega : i < 12)
          have ec : cw D (gA 30 i) = cw d (gA 30 i) := cw_row (Do _ (by omega) (by omega))
          have ev : vw D 500 i = vw d 500 i := tr_cong (fun y _ _ => nlo _ (by omega))
          unfold GE at z ⊢
          rw [Do (gA 30 i) (by omega) (by omega), ec, ev, nlo (19 * i) (by omega), nlo (19 * i + 1) (by omega), nlo (19 * i + 2) (by omega)]
          exact z
        · have z := p8 j j0 j1
          unfold ME at z ⊢
          rw [n40, Do 32 (by decide) (by decide), Do 33 (by decide) (by decide), Dx 34 (by decide), nlo (228 + 3 * j + 0) (by omega), nlo (228 + 3 * j + 1) (by omega)]
          obtain ⟨q0, q1, q2, q3, q4, q5, q6, q7, q8, q9⟩ := z
          by_cases e : j = (m : Int)
          · have e2 : D 500 (228 + 3 * j + 2) = f 2 := by
              rw [D500, e]
              exact if_pos rfl
            rw [e2, e, up_same]
            rw [e] at q0 q1 q3 q4 q5 q6 q7
            exact ⟨q0, q1, rfl, q3, q4, q5, q6, q7, f2.1, c⟩
          · rw [nlo (228 + 3 * j + 2) (by omega), up_nk e]
            exact ⟨q0, q1, q2, q3, q4, q5, q6, q7, q8, q9⟩
    · simp only [if_neg c]
      rw [B_f (fun h => c h.2)] at w3
      refine bind_eq (z30_0 d) (bind_eq q ?_)
      rw [if_neg nm]
      exact bind_eq w3 rfl
/-- a statement is done by the class: letter l, numbers f told at 127 -/
theorem c_does (P : PL d 30 32 33 34 500) {l : Int} (hl : l = 103 ∨ l = 109 ∨ l = 100) (h4 : d 125 4 = l) (hf : ∀ k, 0 ≤ k → k < (wnt l : Int) → 0 ≤ d 127 k ∧ d 127 k ≤ 99) : match doS l (d 127) (d 500) with
    | none => f_X3_does (mkH d) 30 125 = some (J 0, mkH d)
    | some w => ∃ d', f_X3_does (mkH d) 30 125 = some (J 1, mkH d') ∧ PL d' 30 32 33 34 500 ∧ d' 500 = w ∧ ∀ x, (x < 30 ∨ 58 < x) → x ≠ 500 → d' x = d x := by
  have g4 : gI (mkH d) 125 8 4 = some (J l) := by rw [z125_9, h4]
  have f0 := hf 0 (by decide) (by unfold wnt; split <;> omega)
  have f1 := hf 1 (by decide) (by unfold wnt; split <;> omega)
  have a0 : aI (mkH d) 127 (J 0) = some (J (d 127 0)) := z127_0 d 0 (by decide) (by decide)
  have a1 : aI (mkH d) 127 (J 1) = some (J (d 127 1)) := z127_0 d 1 (by decide) (by decide)
  have a2 : aI (mkH d) 127 (J 2) = some (J (d 127 2)) := z127_0 d 2 (by decide) (by decide)
  rcases hl with rfl | rfl | rfl
  · have f2 := hf 2 (by decide) (by decide)
    obtain ⟨k1, k2⟩ := c_addGear P (f := d 127) f0 f1 f2
    have pre : ∀ {v : Int} {e : Hp}, (v = 0 ∨ v = 1) → f_X3_addGear (mkH d) 30 (J (d 127 0)) (J (d 127 1)) (J (d 127 2)) = some (J v, e) → f_X3_does (mkH d) 30 125 = some (J v, e) := by
      intro v e hv h
      refine bind_eq g4 ?_
      rw [if_pos rfl]
      refine bind_eq (z125_13 d) (bind_eq a0 (bind_eq (z125_13 d) (bind_eq a1 (bind_eq (z125_13 d) (bind_eq a2 (bind_eq (z30_0 d) (bind_eq h (bind_eq (a := ()) ?_ rfl))))))))
      rcases hv with rfl | rfl <;> rfl
    unfold doS
    rw [if_pos rfl]
    by_cases c : okG (d 127) (d 500) = true
    · simp only [if_pos c]
      obtain ⟨d', h1, h2⟩ := k2 c
      exact ⟨d', pre (Or.inr rfl) h1, h2⟩
    · simp only [if_neg c]
      exact pre (Or.inl rfl) (k1 (by cases hq : okG (d 127) (d 500) <;> simp_all))
  · have pre : ∀ {v : Int} {e : Hp}, (v = 0 ∨ v = 1) → f_X3_addMesh (mkH d) 30 (J (d 127 0)) (J (d 127 1)) = some (J v, e) → f_X3_does (mkH d) 30 125 = some (J v, e) := by
      intro v e hv h
      refine bind_eq g4 ?_
      rw [if_neg (by first | exact n1J | decide), if_pos rfl]
      refine bind_eq (z125_13 d) (bind_eq a0 (bind_eq (z125_13 d) (bind_eq a1 (bind_eq (z30_0 d) (bind_eq h (bind_eq (a := ()) ?_ rfl))))))
      rcases hv with rfl | rfl <;> rfl
    unfold doS
    rw [if_neg (by first | exact n1J | decide), if_pos rfl]
    rcases c_addMesh P (f := d 127) f0 f1 with ⟨c, k⟩ | ⟨c, d', h1, h2⟩
    · simp only [if_neg c]
      exact pre (Or.inl rfl) k
    · simp only [if_pos c]
      exact ⟨d', pre (Or.inr rfl) h1, h2⟩
  · have f2 := hf 2 (by decide) (by decide)
    have k := c_setRoom P (f := d 127) f0 f1 f2
    have pre : ∀ {v : Int} {e : Hp}, (v = 0 ∨ v = 1) → f_X3_setRoom (mkH d) 30 (J (d 127 0)) (J (d 127 1)) (J (d 127 2)) = some (J v, e) → f_X3_does (mkH d) 30 125 = some (J v, e) := by
      intro v e hv h
      refine bind_eq g4 ?_
      rw [if_neg (by first | exact n1J | decide), if_neg (by first | exact n1J | decide)]
      refine bind_eq (z125_13 d) (bind_eq a0 (bind_eq (z125_13 d) (bind_eq a1 (bind_eq (z125_13 d) (bind_eq a2 (bind_eq (z30_0 d) (bind_eq h (bind_eq (a := ()) ?_ rfl))))))))
      rcases hv with rfl | rfl <;> rfl
    cases hd : doS 100 (d 127) (d 500) with
    | none =>
      rw [hd] at k
      exact pre (Or.inl rfl) k
    | some w =>
      rw [hd] at k
      obtain ⟨d', h1, h2⟩ := k
      exact ⟨d', pre (Or.inr rfl) h1, h2⟩
end
