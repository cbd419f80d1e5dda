/-! what a statement does, by the reference -/
section
variable {d : Mem}
/-- the bounds of a valid row -/
theorem PW_b {w : Int → Int} (P : PW w) : 0 ≤ w 1740 ∧ w 1740 ≤ 12 ∧ 0 ≤ w 1741 ∧ w 1741 ≤ 16 ∧ (∀ i, 0 ≤ i → i < w 1740 → 0 ≤ w (19 * i) ∧ w (19 * i) ≤ 4) := by
  obtain ⟨e, ⟨p1, p2, p3, p4, p5, p6, p7, p8⟩, he⟩ := P
  rw [he] at p3 p4 p5 p6
  refine ⟨p3, p4, p5, p6, fun i i0 i1 => ?_⟩
  have z := p7 i i0 (by rw [he]; exact i1)
  rw [← he]
  exact ⟨z.2.2.2.2.2.1, z.2.2.2.2.2.2.1⟩
theorem m_isG (P : PW (d 185)) {z : Int} (z1 : -2147483648 ≤ z) (z2 : z < 2147483648) : f_X12_isGear (mkH d) 183 (J z) = some (J (B (0 ≤ z ∧ z ≤ d 185 1740 - 1))) := by
  obtain ⟨p1, p2, p3, p4, -⟩ := PW_b P
  simp (disch := first | omega | assumption | decide) only [f_X12_isGear, z183_0, z183_1, z183_2, z183_3, z183_4, z183_5, z183_6, z183_7, z183_8, z183_9, z183_10, z183_11, z183_12, z183_13, z183_14, z183_15, z183_16, z183_17, z183_18, z183_19, z183_20, z183_21, z183_22, z183_23, z183_24, z183_25, z183_26, z183_27, z183_28, z183_29, z183_30, z183_31, z183_32, z183_33, z183_34, z183_35, z183_36, z183_37, z183_38, z183_39, z183_40, z183_41, z183_42, z184_0, z184_1, z185_0, z185_1, z186_0, z186_1, z187_0, z187_1, z188_0, z188_1, z189_0, z189_1, z190_0, z190_1, z191_0, z191_1, z192_0, z192_1, z193_0, z193_1, z194_0, z194_1, z195_0, z195_1, z196_0, z196_1, z197_0, z197_1, z198_0, z198_1, z198_2, z199_0, z199_1, z200_0, z200_1, z201_0, z201_1, z202_0, z202_1, SN0, SN1, SN2, SN3, SN4, SN5, SN6, SN7, SN8, SN9, SN10, SN11, SN12, SN13, SN14, SN15, SN16, SN17, SN18, SJ0, SJ1, SJ2, SJ3, SJ4, SJ5, bindS, if_pos, if_neg, w_isWithin, w_isIn, JB_0, JB_1, bz_B, ite10, ite01, Int.natCast_add, csN0, csN1, csN16, Int.toNat_natCast, ite_not, not_true_eq_false, not_false_eq_true]
theorem aI185 (D : Mem) {k : Int} (k0 : 0 ≤ k) (k1 : k < 1744) : aI (mkH D) 185 (J k) = some (J (D 185 k)) := q_aI (len := 1744) rfl (by decide) k0 (by omega)
theorem sI185 (D : Mem) {k v : Int} (k0 : 0 ≤ k) (k1 : k < 1744) : sI (mkH D) 185 (J k) (J v) = some (mkH (up D 185 k v)) := q_sI (len := 1744) rfl (by decide) k0 (by omega)
theorem aI194 (D : Mem) {k : Int} (k0 : 0 ≤ k) (k1 : k < 3) : aI (mkH D) 194 (J k) = some (J (D 194 k)) := q_aI (len := 3) rfl (by decide) k0 (by omega)
theorem m_makesGear (P : PW (d 185)) (f0 : 0 ≤ d 194 0 ∧ d 194 0 ≤ 99) (f1 : 0 ≤ d 194 1 ∧ d 194 1 ≤ 99) (f2 : 0 ≤ d 194 2 ∧ d 194 2 ≤ 99) : if okG (d 194) (d 185) = true then ∃ D, f_X12_makesGear (mkH d) 183 = some (J 1, mkH D) ∧ D 185 = nwG (d 194) (d 185) ∧ ∀ x, x ≠ 185 → D x = d x else f_X12_makesGear (mkH d) 183 = some (J 0, mkH d) := by
  obtain ⟨p1, p2, p3, p4, -⟩ := PW_b P
  have a40 := aI185 d (k := 1740) (by decide) (by decide)
  have t0 := aI194 d (k := 0) (by decide) (by decide)
  have t1 := aI194 d (k := 1) (by decide) (by decide)
  have t2 := aI194 d (k := 2) (by decide) (by decide)
  obtain ⟨g, hg⟩ : ∃ g, g = d 185 1740 := ⟨_, rfl⟩
  rw [← hg] at a40 p1 p2
  have no : ∀ {X : Option (Int32 × Hp)}, ¬ okG (d 194) (d 185) = true → X = some (J 0, mkH d) → if okG (d 194) (d 185) = true then ∃ D, X = some (J 1, mkH D) ∧ D 185 = nwG (d 194) (d 185) ∧ ∀ x, x ≠ 185 → D x = d x else X = some (J 0, mkH d) := fun {X} h e => by
    rw [if_neg h]
    exact e
  have ok1 : okG (d 194) (d 185) = true ↔ d 194 0 ≤ 4 ∧ 4 ≤ d 194 1 ∧ d 194 2 ≤ 7 ∧ g < 12 := by
    unfold okG
    rw [decide_eq_true_iff, ← hg]
  by_cases c0 : g = 12
  · refine no (fun h => by have := ok1.mp h; omega) ?_
    refine bind_eq (z183_2 d) (bind_eq a40 ?_)
    rw [if_pos (by rw [c0])]
  have e12 : ¬ (J g = J 12) := by rw [J_eq (by omega) (by omega) (by omega) (by omega)]; exact c0
  by_cases c1 : d 194 0 ≤ 4
  · have e4 : ¬ (J 4 < J (d 194 0)) := by rw [J_lt (by omega) (by omega) (by omega) (by omega)]; omega
    by_cases c2 : 4 ≤ d 194 1
    · have e5 : ¬ (J (d 194 1) < J 4) := by rw [J_lt (by omega) (by omega) (by omega) (by omega)]; omega
      by_cases c3 : d 194 2 ≤ 7
      · have e6 : J (d 194 2) ≤ J 7 := by rw [J_le (by omega) (by omega) (by omega) (by omega)]; omega
        rw [if_pos (ok1.mpr ⟨c1, c2, c3, by omega⟩)]
        obtain ⟨N, hN⟩ : ∃ N : Nat, N = 19 := ⟨_, rfl⟩
        obtain ⟨V, hV⟩ : ∃ V : Int → Int, V = fun k => if k < 19 * g + 3 then d 194 (k - 19 * g) else 31 := ⟨_, rfl⟩
        have L : iter (b_X12_makesGear_50 183 (J g)) FU (J 0, mkH d) = some (mkH (fl d 185 (19 * g) N V)) := by
          refine iter_at (fun k => (J (k : Int), mkH (fl d 185 (19 * g) k V))) N (by simp only [cs0, fl_0]) (by omega) (fun k hk => ?_) ?_
          · unfold b_X12_makesGear_50
            rw [if_neg (by rw [J_le (by omega) (by omega) (by omega) (by omega)]; omega)]
            refine bind_eq (z183_2 _) (bind_eq (a := J (V (19 * g + k))) ?_ ?_)
            · rw [hV]
              by_cases c : (k : Int) < 3
              · rw [if_neg (by rw [J_le (by omega) (by omega) (by omega) (by omega)]; omega)]
                refine bind_eq (z183_25 _) (bind_eq (aI194 _ (by omega) c) ?_)
                show some (J (fl d 185 (19 * g) k _ 194 k)) = some (J (if 19 * g + (k : Int) < 19 * g + 3 then d 194 (19 * g + (k : Int) - 19 * g) else 31))
                rw [fl_na (by decide), if_pos (by omega), show 19 * g + (k : Int) - 19 * g = k by omega]
              · rw [if_pos (by rw [J_le (by omega) (by omega) (by omega) (by omega)]; omega)]
                show some (J 31) = some (J (if 19 * g + (k : Int) < 19 * g + 3 then d 194 (19 * g + (k : Int) - 19 * g) else 31))
                rw [if_neg (by omega)]
            · rw [J_mul, J_add]
              refine bind_eq (sI185 _ (by omega) (by omega)) (bind_eq rfl ?_)
              rw [J_add]
              exact congrArg (fun z => some (Sum.inl (J ((k : Int) + 1), mkH z))) (fl_up (by omega) (by omega) rfl)
          · unfold b_X12_makesGear_50
            rw [if_pos (by rw [J_le (by omega) (by omega) (by omega) (by omega)]; omega)]
        obtain ⟨e, he⟩ : ∃ e, e = fl d 185 (19 * g) N V := ⟨_, rfl⟩
        rw [← he] at L
        have e40 : e 185 1740 = g := by rw [he, fl_out (by omega), hg]
        refine ⟨up e 185 1740 (g + 1), ?_, ?_, fun x hx => by rw [up_row hx, he, fl_row hx]⟩
        · refine bind_eq (z183_2 d) (bind_eq a40 ?_)
          rw [if_neg e12]
          refine bind_eq (z183_25 d) (bind_eq t0 ?_)
          rw [if_neg e4]
          refine bind_eq (z183_25 d) (bind_eq t1 ?_)
          rw [if_neg e5]
          refine bind_eq (z183_25 d) (bind_eq t2 ?_)
          rw [if_pos e6]
          refine bind_eq rfl (bind_eq L (bind_eq (z183_2 e) (bind_eq rfl (bind_eq (aI185 e (by decide) (by decide)) ?_))))
          rw [e40, J_add]
          exact bind_eq (sI185 e (by decide) (by decide)) rfl
        · funext k
          unfold nwG
          rw [← hg]
          by_cases k1 : k = 1740
          · rw [if_pos k1, k1, up_same]
          · rw [if_neg k1, up_nk k1, he]
            by_cases k2 : 19 * g ≤ k ∧ k < 19 * g + 19
            · rw [if_pos k2, fl_in k2.1 (by omega), hV]
            · rw [if_neg k2, fl_out (by omega)]
      · refine no (fun h => c3 (ok1.mp h).2.2.1) ?_
        refine bind_eq (z183_2 d) (bind_eq a40 ?_)
        rw [if_neg e12]
        refine bind_eq (z183_25 d) (bind_eq t0 ?_)
        rw [if_neg e4]
        refine bind_eq (z183_25 d) (bind_eq t1 ?_)
        rw [if_neg e5]
        refine bind_eq (z183_25 d) (bind_eq t2 ?_)
        rw [if_neg (by rw [J_le (by omega) (by omega) (by omega) (by omega)]; exact c3)]
    · refine no (fun h => c2 (ok1.mp h).2.1) ?_
      refine bind_eq (z183_2 d) (bind_eq a40 ?_)
      rw [if_neg e12]
      refine bind_eq (z183_25 d) (bind_eq t0 ?_)
      rw [if_neg e4]
      refine bind_eq (z183_25 d) (bind_eq t1 ?_)
      rw [if_pos (by rw [J_lt (by omega) (by omega) (by omega) (by omega)]; omega)]
  · refine no (fun h => c1 (ok1.mp h).1) ?_
    refine bind_eq (z183_2 d) (bind_eq a40 ?_)
    rw [if_neg e12]
    refine bind_eq (z183_25 d) (bind_eq t0 ?_)
    rw [if_pos (by rw [J_lt (by omega) (by omega) (by omega) (by omega)]; omega)]
/-- what stands behind the tests of rings in makesMesh -/
def tlN (h : Hp) (a b : Int32) : Option (Int32 × Hp) :=
  (isO h 183 11).bind fun _ =>
  (f_X12_between h 183 a b).bind fun r14 =>
  (if r14 < 0 then
    (gR h 183 11 1).bind fun x15 =>
    (aI h x15 (J 1741)).bind fun x16 =>
    (some ((J 228) + ((J 3) * x16))).bind fun x17 =>
    (gR h 183 11 1).bind fun x18 =>
    (sI h x18 x17 a).bind fun h19 =>
    (gR h19 183 11 1).bind fun x20 =>
    (sI h19 x20 (x17 + (J 1)) b).bind fun h21 =>
    (gR h21 183 11 1).bind fun x22 =>
    (sI h21 x22 (x17 + (J 2)) (J 62)).bind fun h23 =>
    (gR h23 183 11 1).bind fun x24 =>
    (some (J 1741)).bind fun x25 =>
    (aI h23 x24 x25).bind fun x26 =>
    (sI h23 x24 x25 (x26 + (J 1))).bind fun h27 =>
    some ((J 1), h27)
  else
    some ((J 0), h))
theorem makesMesh_form (h : Hp) : f_X12_makesMesh h 183 = (gR h 183 11 17).bind fun x1 => (aI h x1 (J 0)).bind fun x2 => (gR h 183 11 17).bind fun x3 => (aI h x3 (J 1)).bind fun x4 => (gR h 183 11 1).bind fun x5 => (aI h x5 (J 1741)).bind fun x6 => (if x6 = (J 16) then some ((J 0), h) else (isO h 183 11).bind fun _ => (f_X12_isGear h 183 x2).bind fun r8 => (if r8 = 0 then some ((J 0), h) else (isO h 183 11).bind fun _ => (f_X12_isGear h 183 x4).bind fun r10 => (if r10 = 0 then some ((J 0), h) else (if x2 = x4 then some ((J 0), h) else (isO h 183 11).bind fun _ => (f_X12_kind h 183 x2).bind fun r12 => (if r12 = (J 4) then (isO h 183 11).bind fun _ => (f_X12_kind h 183 x4).bind fun r30 => (if r30 = (J 4) then some ((J 0), h) else tlN h x2 x4) else tlN h x2 x4))))) := rfl
theorem m_tlN (P : PW (d 185)) (f0 : 0 ≤ d 194 0 ∧ d 194 0 ≤ 99) (f1 : 0 ≤ d 194 1 ∧ d 194 1 ≤ 99) (c : d 185 1741 < 16) : if btS (d 185) (d 194 0) (d 194 1) = none then ∃ D, tlN (mkH d) (J (d 194 0)) (J (d 194 1)) = some (J 1, mkH D) ∧ D 185 = nwM (d 194) (d 185) ∧ ∀ x, x ≠ 185 → D x = d x else tlN (mkH d) (J (d 194 0)) (J (d 194 1)) = some (J 0, mkH d) := by
  obtain ⟨p1, p2, p3, p4, -⟩ := PW_b P
  have q := m_between P (a := d 194 0) (b := d 194 1) f0.1 f0.2 f1.1 f1.2
  obtain ⟨g, hg⟩ : ∃ g, g = d 185 1741 := ⟨_, rfl⟩
  rw [← hg] at c p3 p4
  unfold tlN
  cases hb : btS (d 185) (d 194 0) (d 194 1) with
  | some m =>
    rw [hb] at q
    have q : f_X12_between (mkH d) 183 (J (d 194 0)) (J (d 194 1)) = some (J (m : Int)) := q
    have ml := bt_lt hb
    rw [if_neg (by simp)]
    refine bind_eq (isO183 _) (bind_eq q ?_)
    rw [if_neg (by rw [J_zero, J_lt (by omega) (by omega) (by omega) (by omega)]; omega)]
  | none =>
    rw [hb] at q
    have q : f_X12_between (mkH d) 183 (J (d 194 0)) (J (d 194 1)) = some (J (-1)) := q
    rw [if_pos rfl]
    obtain ⟨d1, h1⟩ : ∃ d1, d1 = up d 185 (228 + 3 * g) (d 194 0) := ⟨_, rfl⟩
    obtain ⟨d2, h2⟩ : ∃ d2, d2 = up d1 185 (228 + 3 * g + 1) (d 194 1) := ⟨_, rfl⟩
    obtain ⟨d3, h3⟩ : ∃ d3, d3 = up d2 185 (228 + 3 * g + 2) 62 := ⟨_, rfl⟩
    have e41 : d3 185 1741 = g := by rw [h3, up_nk (by omega), h2, up_nk (by omega), h1, up_nk (by omega), hg]
    refine ⟨up d3 185 1741 (g + 1), ?_, ?_, fun x hx => by rw [up_row hx, h3, up_row hx, h2, up_row hx, h1, up_row hx]⟩
    · refine bind_eq (isO183 _) (bind_eq q ?_)
      rw [if_pos (by decide)]
      refine bind_eq (z183_2 _) (bind_eq (aI185 d (by decide) (by decide)) ?_)
      rw [← hg, J_mul, J_add]
      refine bind_eq rfl (bind_eq (z183_2 _) (bind_eq (sI185 d (by omega) (by omega)) ?_))
      rw [← h1]
      refine bind_eq (z183_2 _) ?_
      rw [J_add]
      refine bind_eq (sI185 d1 (by omega) (by omega)) ?_
      rw [← h2]
      refine bind_eq (z183_2 _) ?_
      rw [J_add]
      refine bind_eq (sI185 d2 (by omega) (by omega)) ?_
      rw [← h3]
      refine bind_eq (z183_2 _) (bind_eq rfl (bind_eq (aI185 d3 (by decide) (by decide)) ?_))
      rw [e41, J_add]
      exact bind_eq (sI185 d3 (by decide) (by decide)) rfl
    · funext k
      unfold nwM
      rw [← hg]
      by_cases k1 : k = 1741
      · rw [if_pos k1, k1, up_same]
      · rw [if_neg k1, up_nk k1, h3]
        by_cases k2 : k = 228 + 3 * g + 2
        · rw [if_pos k2, k2, up_same]
        · rw [if_neg k2, up_nk k2, h2]
          by_cases k3 : k = 228 + 3 * g + 1
          · rw [if_pos k3, k3, up_same]
          · rw [if_neg k3, up_nk k3, h1]
            by_cases k4 : k = 228 + 3 * g + 0
            · rw [if_pos k4, k4, Int.add_zero, up_same]
            · rw [if_neg k4, up_nk (by omega)]
theorem m_makesMesh (P : PW (d 185)) (f0 : 0 ≤ d 194 0 ∧ d 194 0 ≤ 99) (f1 : 0 ≤ d 194 1 ∧ d 194 1 ≤ 99) : if okM (d 194) (d 185) = true then ∃ D, f_X12_makesMesh (mkH d) 183 = some (J 1, mkH D) ∧ D 185 = nwM (d 194) (d 185) ∧ ∀ x, x ≠ 185 → D x = d x else f_X12_makesMesh (mkH d) 183 = some (J 0, mkH d) := by
  obtain ⟨p1, p2, p3, p4, p5⟩ := PW_b P
  have t0 := aI194 d (k := 0) (by decide) (by decide)
  have t1 := aI194 d (k := 1) (by decide) (by decide)
  have a41 := aI185 d (k := 1741) (by decide) (by decide)
  have w1 := m_isG P (z := d 194 0) (by omega) (by omega)
  have w2 := m_isG P (z := d 194 1) (by omega) (by omega)
  rw [makesMesh_form]
  have no : ∀ {X : Option (Int32 × Hp)}, ¬ okM (d 194) (d 185) = true → X = some (J 0, mkH d) → if okM (d 194) (d 185) = true then ∃ D, X = some (J 1, mkH D) ∧ D 185 = nwM (d 194) (d 185) ∧ ∀ x, x ≠ 185 → D x = d x else X = some (J 0, mkH d) := fun {X} h e => by
    rw [if_neg h]
    exact e
  by_cases c0 : d 185 1741 < 16
  · have e16 : ¬ (J (d 185 1741) = J 16) := by rw [J_eq (by omega) (by omega) (by omega) (by omega)]; omega
    by_cases c1 : 0 ≤ d 194 0 ∧ d 194 0 ≤ d 185 1740 - 1
    · rw [B_t c1] at w1
      by_cases c2 : 0 ≤ d 194 1 ∧ d 194 1 ≤ d 185 1740 - 1
      · rw [B_t c2] at w2
        by_cases c3 : d 194 0 = d 194 1
        · refine no (fun h => (okM_iff.mp h).1.2.2.1 c3) ?_
          refine bind_eq (z183_25 d) (bind_eq t0 (bind_eq (z183_25 d) (bind_eq t1 (bind_eq (z183_2 d) (bind_eq a41 ?_)))))
          rw [if_neg e16]
          refine bind_eq (isO183 _) (bind_eq w1 ?_)
          rw [if_neg (by first | exact n1J | decide)]
          refine bind_eq (isO183 _) (bind_eq w2 ?_)
          rw [if_neg (by first | exact n1J | decide), if_pos (by rw [c3])]
        · have nj : ¬ (J (d 194 0) = J (d 194 1)) := by
            rw [J_eq (by omega) (by omega) (by omega) (by omega)]
            exact c3
          have T := m_tlN P f0 f1 c0
          have ka := m_kind (d := d) (i := d 194 0) c1.1 (by omega)
          have kb := m_kind (d := d) (i := d 194 1) c2.1 (by omega)
          obtain ⟨a0, a1⟩ := p5 (d 194 0) c1.1 (by omega)
          obtain ⟨b0, b1⟩ := p5 (d 194 1) c2.1 (by omega)
          have ja : (J (d 185 (19 * d 194 0)) = J 4) ↔ d 185 (19 * d 194 0) = 4 := J_eq (by omega) (by omega) (by omega) (by omega)
          have jb : (J (d 185 (19 * d 194 1)) = J 4) ↔ d 185 (19 * d 194 1) = 4 := J_eq (by omega) (by omega) (by omega) (by omega)
          have pre : ∀ {X : Option (Int32 × Hp)}, (f_X12_kind (mkH d) 183 (J (d 194 0))).bind (fun r12 => (if r12 = (J 4) then (isO (mkH d) 183 11).bind fun _ => (f_X12_kind (mkH d) 183 (J (d 194 1))).bind fun r30 => (if r30 = (J 4) then some ((J 0), mkH d) else tlN (mkH d) (J (d 194 0)) (J (d 194 1))) else tlN (mkH d) (J (d 194 0)) (J (d 194 1)))) = X → ((gR (mkH d) 183 11 17).bind fun x1 => (aI (mkH d) x1 (J 0)).bind fun x2 => (gR (mkH d) 183 11 17).bind fun x3 => (aI (mkH d) x3 (J 1)).bind fun x4 => (gR (mkH d) 183 11 1).bind fun x5 => (aI (mkH d) x5 (J 1741)).bind fun x6 => (if x6 = (J 16) then some ((J 0), (mkH d)) else (isO (mkH d) 183 11).bind fun _ => (f_X12_isGear (mkH d) 183 x2).bind fun r8 => (if r8 = 0 then some ((J 0), (mkH d)) else (isO (mkH d) 183 11).bind fun _ => (f_X12_isGear (mkH d) 183 x4).bind fun r10 => (if r10 = 0 then some ((J 0), (mkH d)) else (if x2 = x4 then some ((J 0), (mkH d)) else (isO (mkH d) 183 11).bind fun _ => (f_X12_kind (mkH d) 183 x2).bind fun r12 => (if r12 = (J 4) then (isO (mkH d) 183 11).bind fun _ => (f_X12_kind (mkH d) 183 x4).bind fun r30 => (if r30 = (J 4) then some ((J 0), (mkH d)) else tlN (mkH d) x2 x4) else tlN (mkH d) x2 x4)))))) = X := by
            intro X hX
            refine bind_eq (z183_25 d) (bind_eq t0 (bind_eq (z183_25 d) (bind_eq t1 (bind_eq (z183_2 d) (bind_eq a41 ?_)))))
            rw [if_neg e16]
            refine bind_eq (isO183 _) (bind_eq w1 ?_)
            rw [if_neg (by first | exact n1J | decide)]
            refine bind_eq (isO183 _) (bind_eq w2 ?_)
            rw [if_neg (by first | exact n1J | decide), if_neg nj]
            exact bind_eq (isO183 _) hX
          by_cases cr : d 185 (19 * d 194 0) = 4 ∧ d 185 (19 * d 194 1) = 4
          · refine no (fun h => (okM_iff.mp h).1.2.2.2.1 cr) (pre ?_)
            refine bind_eq ka ?_
            rw [if_pos (ja.mpr cr.1)]
            refine bind_eq (isO183 _) (bind_eq kb ?_)
            rw [if_pos (jb.mpr cr.2)]
          · have via : ∀ {X : Option (Int32 × Hp)}, tlN (mkH d) (J (d 194 0)) (J (d 194 1)) = X → (f_X12_kind (mkH d) 183 (J (d 194 0))).bind (fun r12 => (if r12 = (J 4) then (isO (mkH d) 183 11).bind fun _ => (f_X12_kind (mkH d) 183 (J (d 194 1))).bind fun r30 => (if r30 = (J 4) then some ((J 0), mkH d) else tlN (mkH d) (J (d 194 0)) (J (d 194 1))) else tlN (mkH d) (J (d 194 0)) (J (d 194 1)))) = X := by
              intro X hX
              refine bind_eq ka ?_
              by_cases ca : d 185 (19 * d 194 0) = 4
              · rw [if_pos (ja.mpr ca)]
                refine bind_eq (isO183 _) (bind_eq kb ?_)
                rw [if_neg (fun h => cr ⟨ca, jb.mp h⟩)]
                exact hX
              · rw [if_neg (fun h => ca (ja.mp h))]
                exact hX
            by_cases cb : btS (d 185) (d 194 0) (d 194 1) = none
            · rw [if_pos cb] at T
              obtain ⟨D, h1, h2⟩ := T
              rw [if_pos (okM_iff.mpr ⟨⟨by omega, by omega, c3, cr, c0⟩, cb⟩)]
              exact ⟨D, pre (via h1), h2⟩
            · rw [if_neg cb] at T
              exact no (fun h => cb (okM_iff.mp h).2) (pre (via T))
      · rw [B_f c2] at w2
        refine no (fun h => by have := (okM_iff.mp h).1.2.1; omega) ?_
        refine bind_eq (z183_25 d) (bind_eq t0 (bind_eq (z183_25 d) (bind_eq t1 (bind_eq (z183_2 d) (bind_eq a41 ?_)))))
        rw [if_neg e16]
        refine bind_eq (isO183 _) (bind_eq w1 ?_)
        rw [if_neg (by first | exact n1J | decide)]
        exact bind_eq (isO183 _) (bind_eq w2 rfl)
    · rw [B_f c1] at w1
      refine no (fun h => by have := (okM_iff.mp h).1.1; omega) ?_
      refine bind_eq (z183_25 d) (bind_eq t0 (bind_eq (z183_25 d) (bind_eq t1 (bind_eq (z183_2 d) (bind_eq a41 ?_)))))
      rw [if_neg e16]
      exact bind_eq (isO183 _) (bind_eq w1 rfl)
  · refine no (fun h => c0 (okM_iff.mp h).1.2.2.2.2) ?_
    refine bind_eq (z183_25 d) (bind_eq t0 (bind_eq (z183_25 d) (bind_eq t1 (bind_eq (z183_2 d) (bind_eq a41 ?_)))))
    rw [if_pos (by rw [J_eq (by omega) (by omega) (by omega) (by omega)]; omega)]
theorem m_makesRoom (P : PW (d 185)) (f0 : 0 ≤ d 194 0 ∧ d 194 0 ≤ 99) (f1 : 0 ≤ d 194 1 ∧ d 194 1 ≤ 99) (f2 : 0 ≤ d 194 2 ∧ d 194 2 ≤ 99) : match doS 100 (d 194) (d 185) with
    | none => f_X12_makesRoom (mkH d) 183 = some (J 0, mkH d)
    | some w => ∃ D, f_X12_makesRoom (mkH d) 183 = some (J 1, mkH D) ∧ D 185 = w ∧ ∀ x, x ≠ 185 → D x = d x := by
  obtain ⟨p1, p2, p3, p4, p5⟩ := PW_b P
  have t0 := aI194 d (k := 0) (by decide) (by decide)
  have t1 := aI194 d (k := 1) (by decide) (by decide)
  have t2 := aI194 d (k := 2) (by decide) (by decide)
  have q := m_between P (a := d 194 0) (b := d 194 1) f0.1 f0.2 f1.1 f1.2
  unfold doS
  rw [if_neg (by first | exact n1J | decide), if_neg (by first | exact n1J | decide)]
  cases hb : btS (d 185) (d 194 0) (d 194 1) with
  | none =>
    rw [hb] at q
    have q : f_X12_between (mkH d) 183 (J (d 194 0)) (J (d 194 1)) = some (J (-1)) := q
    exact bind_eq (z183_25 d) (bind_eq t0 (bind_eq (z183_25 d) (bind_eq t1 (bind_eq (isO183 _) (bind_eq q rfl)))))
  | some m =>
    rw [hb] at q
    have q : f_X12_between (mkH d) 183 (J (d 194 0)) (J (d 194 1)) = some (J (m : Int)) := q
    have ml := bt_lt hb
    have nm : ¬ (J (m : Int) < 0) := by
      rw [J_zero, J_lt (by omega) (by omega) (by omega) (by omega)]
      omega
    by_cases c : d 194 2 ≤ 62
    · simp only [if_pos c]
      refine ⟨up d 185 (228 + 3 * (m : Int) + 2) (d 194 2), ?_, ?_, fun x hx => up_row hx⟩
      · refine bind_eq (z183_25 d) (bind_eq t0 (bind_eq (z183_25 d) (bind_eq t1 (bind_eq (isO183 _) (bind_eq q ?_)))))
        rw [if_neg nm]
        refine bind_eq (z183_25 d) (bind_eq t2 ?_)
        rw [if_pos (by rw [J_le (by omega) (by omega) (by omega) (by omega)]; exact c)]
        refine bind_eq (z183_2 d) (bind_eq (z183_25 d) (bind_eq t2 ?_))
        rw [J_mul, J_add, J_add]
        exact bind_eq (sI185 d (by omega) (by omega)) rfl
      · exact up_self_row _ _ _ _
    · simp only [if_neg c]
      refine bind_eq (z183_25 d) (bind_eq t0 (bind_eq (z183_25 d) (bind_eq t1 (bind_eq (isO183 _) (bind_eq q ?_)))))
      rw [if_neg nm]
      refine bind_eq (z183_25 d) (bind_eq t2 ?_)
      rw [if_neg (by rw [J_le (by omega) (by omega) (by omega) (by omega)]; exact c)]
/-- a statement is done by the reference: letter l, numbers told at 194 -/
def mkS (l : Int) (h : Hp) : Option (Int32 × Hp) := if l = 103 then f_X12_makesGear h 183 else if l = 109 then f_X12_makesMesh h 183 else f_X12_makesRoom h 183
theorem m_does (P : PW (d 185)) {l : Int} (hl : l = 103 ∨ l = 109 ∨ l = 100) (hf : ∀ k, 0 ≤ k → k < (wnt l : Int) → 0 ≤ d 194 k ∧ d 194 k ≤ 99) : match doS l (d 194) (d 185) with
    | none => mkS l (mkH d) = some (J 0, mkH d)
    | some w => ∃ D, mkS l (mkH d) = some (J 1, mkH D) ∧ D 185 = w ∧ ∀ x, x ≠ 185 → D x = d x := by
  have f0 := hf 0 (by decide) (by unfold wnt; split <;> omega)
  have f1 := hf 1 (by decide) (by unfold wnt; split <;> omega)
  rcases hl with rfl | rfl | rfl
  · have k := m_makesGear P f0 f1 (hf 2 (by decide) (by decide))
    unfold doS mkS
    rw [if_pos rfl, if_pos rfl]
    by_cases c : okG (d 194) (d 185) = true
    · rw [if_pos c] at k
      simp only [if_pos c]
      exact k
    · rw [if_neg c] at k
      simp only [if_neg c]
      exact k
  · have k := m_makesMesh P f0 f1
    unfold doS mkS
    rw [if_neg (by decide : ¬ (109 : Int) = 103), if_pos (rfl : (109 : Int) = 109), if_neg (by decide : ¬ (109 : Int) = 103), if_pos (rfl : (109 : Int) = 109)]
    by_cases c : okM (d 194) (d 185) = true
    · rw [if_pos c] at k
      simp only [if_pos c]
      exact k
    · rw [if_neg c] at k
      simp only [if_neg c]
      exact k
  · have k := m_makesRoom P f0 f1 (hf 2 (by decide) (by decide))
    unfold mkS
    rw [if_neg (by decide : ¬ (100 : Int) = 103), if_neg (by decide : ¬ (100 : Int) = 109)]
    exact k
end
