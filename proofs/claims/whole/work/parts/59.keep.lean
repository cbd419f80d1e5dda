/-! keep -/
section
variable {d : Mem}
theorem m_rowEq {d d' : Mem} (e : d' 185 = d 185) {k : Int} (h0 : 0 ≤ k) (h1 : k < 12) (k0 : 0 ≤ d 185 (19 * k)) (k1 : d 185 (19 * k) ≤ 4) (t0 : 0 ≤ d 185 (19 * k + 1)) (t1 : d 185 (19 * k + 1) ≤ 99) (ok : Wok (vw d 185 k)) : f_X12_kind (mkH d') 183 (J k) = some (J (d 185 (19 * k))) ∧ f_X12_teeth (mkH d') 183 (J k) = some (J (d 185 (19 * k + 1))) ∧ f_X12_hard (mkH d') 183 (J k) = some (J (hardS (d 185 (19 * k)) (d 185 (19 * k + 1)))) ∧ f_X12_thin (mkH d') 183 (J k) = some (J (thinS (vw d 185 k))) ∧ f_X12_widthOf (mkH d') 183 (J k) (J 15) = some (J (vw d 185 k 15)) := by
  have ev : vw d' 185 k = vw d 185 k := vw_row e
  refine ⟨?_, ?_, ?_, ?_, ?_⟩
  · rw [m_kind h0 h1, e]
  · rw [m_teeth h0 h1, e]
  · rw [m_hard h0 h1 (by rw [e]; exact k0) (by rw [e]; exact k1) (by rw [e]; exact t0) (by rw [e]; exact t1), e]
  · rw [m_thin h0 h1 (by rw [ev]; exact ok), ev]
  · rw [m_widthOf h0 h1 (by decide) (by decide), ev]
theorem ag_keep (I : INV d) (x y u : Int32) : ∃ r d1 d2, f_X11_keep (mkH d) 0 x y u = some (r, mkH d1) ∧ f_X12_keep (mkH d1) 183 x y u = some (r, mkH d2) ∧ INV d2 := by
  obtain ⟨i, z1, z2, rfl⟩ := J_of x
  obtain ⟨w, w1, w2, rfl⟩ := J_of y
  obtain ⟨k, k1, k2, rfl⟩ := J_of u
  have e1 := c_isShelf z1 z2
  have e2 := m_isShelf z1 z2
  have n1 : ¬ (J 1 = 0) := by decide
  by_cases c : 0 ≤ i ∧ i ≤ 7
  · rw [B_t c] at e1 e2
    obtain ⟨c1, c2⟩ := c
    have c3 : i < 8 := by omega
    have hS := isS_A c1 c3
    have sl := sA_le c1 c3
    obtain ⟨s1, s2, s3, s4, s5, s6, s7, s8, s9, s10, s11⟩ := I.2.2.2.2.1 i c1 c3
    have eW := w_isWithin w1 w2 (l := 0) (u := 1) (by decide) (by decide) (by decide) (by decide)
    have eW' : f_X12_isIn ((J w).toInt64) (K 0) (K 1) = some (J (B (0 ≤ w ∧ w ≤ 1))) := by simp (disch := first | omega | assumption | decide) only [SN0, SN1, SN2, SN3, SN4, SN5, SN6, SN7, SN8, SN9, SN10, SN11, SN12, SN13, SN14, SN15, SN16, SN17, SN18, SJ0, SJ1, SJ2, SJ3, SJ4, SJ5, bindS, if_pos, if_neg, w_isWithin, w_isIn, JB_0, JB_1, bz_B, ite10, ite01, Int.natCast_add, csN0, csN1, csN16, Int.toNat_natCast, ite_not, not_true_eq_false, not_false_eq_true]
    by_cases cw0 : w = 0
    · subst cw0
      rw [B_t (show (0 : Int) ≤ 0 ∧ (0 : Int) ≤ 1 by omega)] at eW eW'
      have q1 : f_X11_keep (mkH d) 0 (J i) (J 0) (J k) = some (J 0, mkH (up d (sA i) 0 0)) := by
        refine bind_eq e1 ?_
        rw [if_neg n1]
        refine bind_eq eW ?_
        rw [if_neg n1, if_neg (by decide)]
        refine bind_eq (a := mkH (up d (sA i) 0 0)) ?_ rfl
        rw [if_pos (by rfl)]
        refine bind_eq (q_gR rfl rfl) (bind_eq (z124_0 d i c1 c3) (bind_eq (SS0 d _ hS) (bind_eq (a := mkH (up d (sA i) 0 0)) (bind_eq (SS6 d _ 0 hS) rfl) rfl)))
      have q2 : f_X12_keep (mkH (up d (sA i) 0 0)) 183 (J i) (J 0) (J k) = some (J 0, mkH (up (up d (sA i) 0 0) 188 i 0)) := by
        refine bind_eq e2 ?_
        rw [if_neg n1]
        refine bind_eq eW' ?_
        rw [if_neg n1, if_neg (by decide)]
        refine bind_eq (q_gR rfl rfl) (bind_eq (q_sI (len := 8) rfl (by decide) c1 c3) ?_)
        rw [if_pos (by rfl)]
      refine ⟨J 0, _, _, q1, q2, INV_sh I i c1 c3 ?_ ?_⟩
      · unfold SH
        have g : ∀ a y, ¬ (a = 188 ∧ y = i) → ¬ (a = sA i ∧ y = 0) → up (up d (sA i) 0 0) 188 i 0 a y = d a y := fun a y h1 h2 => by
          unfold up
          rw [if_neg h1, if_neg h2]
        rw [g (sA i) 2 (by omega) (by omega), g (sA i) 3 (by omega) (by omega), g 189 i (by omega) (by omega), g 190 i (by omega) (by omega), up_same, up_na (show sA i ≠ 188 by omega), up_same]
        refine ⟨rfl, s2, s3, by omega, by omega, s6, s7, s8, s9, fun y y0 y1 => ?_, fun h => by omega⟩
        rw [g (sA i + 3) y (by omega) (by omega), g 191 (120 * i + y) (by omega) (by omega)]
        exact s10 y y0 y1
      · intro a y sc m1 m2 m3 m4 m5 m6
        unfold up
        rw [if_neg (fun h => m5 (by omega) h.2), if_neg (fun h => m1 h.1)]
    · by_cases cw1 : w = 1
      · subst cw1
        rw [B_t (show (0 : Int) ≤ 1 ∧ (1 : Int) ≤ 1 by omega)] at eW eW'
        have eG := c_isGear I.1 k1 k2
        by_cases ck : 0 ≤ k ∧ k ≤ d 185 1740 - 1
        · rw [B_t ck] at eG
          obtain ⟨p1, p2, p3, p4, p5, p6, p7, p8⟩ := id I.1
          obtain ⟨ck0, ck1⟩ := ck
          have k12 : k < 12 := by omega
          obtain ⟨g0, g1, g2, g3, gw, r0, r1, t0, t1, h0, h1, ok⟩ := p7 k ck0 (by omega)
          have hg := isG_1 ck0 k12
          have hg' := isG_S c1 c3
          have gl := gA_le (p := 1) ck0 k12
          obtain ⟨dd, hdd⟩ : ∃ dd, dd = up d (sA i) 0 1 := ⟨_, rfl⟩
          have ht := c_gearTake (d := dd) hg' hg (by omega)
          obtain ⟨d1, hd1⟩ : ∃ d1, d1 = cpG dd (sA i + 1) (gA 1 k) := ⟨_, rfl⟩
          rw [← hd1] at ht
          have q1 : f_X11_keep (mkH d) 0 (J i) (J 1) (J k) = some (J 0, mkH d1) := by
            refine bind_eq e1 ?_
            rw [if_neg n1]
            refine bind_eq eW ?_
            rw [if_neg n1, if_pos rfl]
            refine bind_eq (z0_0 d) (bind_eq eG ?_)
            rw [if_neg n1]
            refine bind_eq (a := mkH d1) ?_ rfl
            rw [if_neg n1]
            refine bind_eq (q_gR rfl rfl) (bind_eq (z124_0 d i c1 c3) (bind_eq (q_gR rfl rfl) (bind_eq (q_gR rfl rfl) (bind_eq (z2_0 d k ck0 k12) (bind_eq (SS0 d _ hS) (bind_eq (a := mkH d1) ?_ rfl))))))
            refine bind_eq (SS6 d _ 1 hS) ?_
            rw [← hdd]
            exact bind_eq (SS2 dd _ hS) (bind_eq (q_isO hg'.1) (bind_eq ht rfl))
          have fo : ∀ a y, a ≠ sA i → a ≠ sA i + 1 → a ≠ sA i + 2 → d1 a y = d a y := fun a y h1 h2 h3 => by
            rw [hd1, cpG_na h2 h3, hdd, up_na h1]
          have e185 : d1 185 = d 185 := funext fun y => fo 185 y (by omega) (by omega) (by omega)
          have x1740 : d1 185 1740 = d 185 1740 := by rw [e185]
          have eM : f_X12_isGear (mkH d1) 183 (J k) = some (J 1) := by
            have b := B_t (p := 0 ≤ k ∧ k ≤ d 185 1740 - 1) ⟨ck0, ck1⟩
            simp (disch := first | omega | assumption | decide) only [f_X12_isGear, x1740, b, z183_0, z183_1, z183_2, z183_3, z183_4, z183_5, z183_6, z183_7, z183_8, z183_9, z183_10, z183_11, z183_12, z183_13, z183_14, z183_15, z183_16, z183_17, z183_18, z183_19, z183_20, z183_21, z183_22, z183_23, z183_24, z183_25, z183_26, z183_27, z183_28, z183_29, z183_30, z183_31, z183_32, z183_33, z183_34, z183_35, z183_36, z183_37, z183_38, z183_39, z183_40, z183_41, z183_42, z184_0, z184_1, z185_0, z185_1, z186_0, z186_1, z187_0, z187_1, z188_0, z188_1, z189_0, z189_1, z190_0, z190_1, z191_0, z191_1, z192_0, z192_1, z193_0, z193_1, z194_0, z194_1, z195_0, z195_1, z196_0, z196_1, z197_0, z197_1, z198_0, z198_1, z198_2, z199_0, z199_1, z200_0, z200_1, z201_0, z201_1, z202_0, z202_1, SN0, SN1, SN2, SN3, SN4, SN5, SN6, SN7, SN8, SN9, SN10, SN11, SN12, SN13, SN14, SN15, SN16, SN17, SN18, SJ0, SJ1, SJ2, SJ3, SJ4, SJ5, bindS, if_pos, if_neg, w_isWithin, w_isIn, JB_0, JB_1, bz_B, ite10, ite01, Int.natCast_add, csN0, csN1, csN16, Int.toNat_natCast, ite_not, not_true_eq_false, not_false_eq_true]
          obtain ⟨D1, hD1⟩ : ∃ D1, D1 = up d1 188 i 1 := ⟨_, rfl⟩
          have f1 : D1 185 = d 185 := by rw [hD1, up_row (by decide)]; exact e185
          obtain ⟨m1, m2, m3, m4, m5⟩ := m_rowEq f1 ck0 k12 r0 r1 (by omega) t1 ok
          obtain ⟨W, hW⟩ : ∃ W, W = wgS (d 185 (19 * k)) (d 185 (19 * k + 1)) (vw d 185 k) := ⟨_, rfl⟩
          obtain ⟨T, hT⟩ : ∃ T, T = tsS (d 185 (19 * k)) k (vw d 185 k) := ⟨_, rfl⟩
          obtain ⟨D2, hD2⟩ : ∃ D2, D2 = up D1 192 i W := ⟨_, rfl⟩
          have f2 : D2 185 = d 185 := by rw [hD2, up_row (by decide)]; exact f1
          obtain ⟨-, -, -, m6, -⟩ := m_rowEq f2 ck0 k12 r0 r1 (by omega) t1 ok
          have thr := thin_rng ok
          have q2 : f_X12_keep (mkH d1) 183 (J i) (J 1) (J k) = some (J 0, mkH (up D2 193 i T)) := by
            refine bind_eq e2 ?_
            rw [if_neg n1]
            refine bind_eq eW' ?_
            rw [if_neg n1, if_pos rfl]
            refine bind_eq (z183_0 d1) (bind_eq eM ?_)
            rw [if_neg n1]
            refine bind_eq (q_gR rfl rfl) (bind_eq (q_sI (len := 8) rfl (by decide) c1 c3) ?_)
            rw [if_neg n1, ← hD1]
            refine bind_eq (z183_0 D1) (bind_eq m1 (bind_eq (z183_0 D1) (bind_eq m2 (bind_eq (z183_0 D1) (bind_eq m3 ?_)))))
            have ek : d 185 (19 * k) = 0 ∨ d 185 (19 * k) = 1 ∨ d 185 (19 * k) = 2 ∨ d 185 (19 * k) = 3 ∨ d 185 (19 * k) = 4 := by omega
            have a0 : (some ((((J 100) + J (d 185 (19 * k + 1))) + J (hardS (d 185 (19 * k)) (d 185 (19 * k + 1)))) + J (if d 185 (19 * k) = 0 then 0 else if d 185 (19 * k) = 4 then vw d 185 k 15 else thinS (vw d 185 k)))) = some (J (100 + d 185 (19 * k + 1) + hardS (d 185 (19 * k)) (d 185 (19 * k + 1)) + (if d 185 (19 * k) = 0 then 0 else if d 185 (19 * k) = 4 then vw d 185 k 15 else thinS (vw d 185 k)))) := by simp only [J_add]
            refine bind_eq (a := J (if d 185 (19 * k) = 0 then 0 else if d 185 (19 * k) = 4 then vw d 185 k 15 else thinS (vw d 185 k))) ?_ (bind_eq a0 ?_)
            · rcases ek with e | e | e | e | e <;> rw [e]
              · rfl
              · rw [if_neg (by decide), if_neg (by decide)]
                exact bind_eq (z183_0 D1) (bind_eq m4 rfl)
              · rw [if_neg (by decide), if_neg (by decide)]
                exact bind_eq (z183_0 D1) (bind_eq m4 rfl)
              · rw [if_neg (by decide), if_neg (by decide)]
                exact bind_eq (z183_0 D1) (bind_eq m4 rfl)
              · rw [if_neg (by decide), if_pos rfl]
                exact bind_eq (z183_0 D1) (bind_eq m5 rfl)
            · refine bind_eq (q_gR rfl rfl) (bind_eq (a := J W) ?_ (bind_eq (q_sI (len := 8) rfl (by decide) c1 c3) ?_))
              · rw [hW]
                unfold wgS
                rcases ek with e | e | e | e | e <;> rw [e]
                · rfl
                · rfl
                · rfl
                · rw [if_pos rfl, J_mul]
                  rfl
                · rfl
              · rw [← hD2]
                refine bind_eq (q_gR rfl rfl) (bind_eq (a := J T) ?_ (bind_eq (q_sI (len := 8) rfl (by decide) c1 c3) rfl))
                rw [hT]
                unfold tsS
                rcases ek with e | e | e | e | e <;> rw [e]
                · rfl
                · rfl
                · rw [if_neg (by decide), if_neg (by decide), if_pos rfl, if_neg (by omega), if_pos rfl]
                  refine bind_eq (z183_0 D2) (bind_eq m6 ?_)
                  rw [J_add, J_add]
                · rw [if_neg (by decide), if_pos rfl]
                  refine bind_eq (z183_0 D2) (bind_eq m6 ?_)
                  by_cases t31 : thinS (vw d 185 k) = 31
                  · rw [if_pos (by rw [t31]), if_pos (Or.inr ⟨rfl, t31⟩)]
                  · rw [if_neg (by rw [J_eq (by omega) (by omega) (by omega) (by omega)]; exact t31), if_neg (by decide), if_neg (by
                      intro h
                      rcases h with h | h
                      · exact absurd h (by decide)
                      · exact t31 h.2), if_neg (by decide)]
                · rfl
          refine ⟨J 0, d1, _, q1, q2, INV_sh I i c1 c3 ?_ ?_⟩
          · have g : ∀ a y, ¬ (a = 188 ∧ y = i) → ¬ (a = 192 ∧ y = i) → ¬ (a = 193 ∧ y = i) → up D2 193 i T a y = d1 a y := fun a y h1 h2 h3 => by
              rw [hD2, hD1]
              unfold up
              rw [if_neg h3, if_neg h2, if_neg h1]
            have v188 : up D2 193 i T 188 i = 1 := by rw [up_na (by decide), hD2, up_na (by decide), hD1, up_same]
            have v192 : up D2 193 i T 192 i = W := by rw [up_na (by decide), hD2, up_same]
            have x0 : d1 (sA i) 0 = 1 := by rw [hd1, cpG_na (by omega) (by omega), hdd, up_same]
            have x2 : d1 (sA i) 2 = d (sA i) 2 := by rw [hd1, cpG_na (by omega) (by omega), hdd, up_nk (by decide)]
            have x3 : d1 (sA i) 3 = d (sA i) 3 := by rw [hd1, cpG_na (by omega) (by omega), hdd, up_nk (by decide)]
            have gf : ∀ y, 0 ≤ y → y < 4 → up D2 193 i T (sA i + 1) y = d (gA 1 k) y := fun y y0 y1 => by
              rw [g (sA i + 1) y (by omega) (by omega) (by omega), hd1, cpG_f y0 y1, hdd, up_na (by omega)]
            have gc : cw (up D2 193 i T) (sA i + 1) = vw d 185 k := by
              have e : cw (up D2 193 i T) (sA i + 1) = cw d1 (sA i + 1) := cw_na (fun y _ _ => g _ y (by omega) (by omega) (by omega))
              have e2 : cw dd (gA 1 k) = cw d (gA 1 k) := cw_row (by rw [hdd, up_row (by omega)])
              rw [e, hd1, cpG_w, e2, gw]
            unfold SH HG
            rw [v188, v192, up_same, gf 0 (by decide) (by decide), gf 1 (by decide) (by decide), gf 2 (by decide) (by decide), gc, g (sA i) 0 (by omega) (by omega) (by omega), g (sA i) 2 (by omega) (by omega) (by omega), g (sA i) 3 (by omega) (by omega) (by omega), g 189 i (by omega) (by omega) (by omega), g 190 i (by omega) (by omega) (by omega), x0, x2, x3, fo 189 i (by omega) (by omega) (by omega), fo 190 i (by omega) (by omega) (by omega), g0, g1, g2]
            refine ⟨rfl, s2, s3, by omega, by omega, s6, s7, s8, s9, fun y y0 y1 => ?_, fun _ => ⟨ck0, by omega, r0, r1, t0, t1, ok, hW, hT⟩⟩
            rw [g (sA i + 3) y (by omega) (by omega) (by omega), g 191 (120 * i + y) (by omega) (by omega) (by omega), fo (sA i + 3) y (by omega) (by omega) (by omega), fo 191 (120 * i + y) (by omega) (by omega) (by omega)]
            exact s10 y y0 y1
          · intro a y sc m1' m2' m3' m4' m5' m6'
            rw [hD2, hD1]
            have e : up (up (up d1 188 i 1) 192 i W) 193 i T a y = d1 a y := by
              unfold up
              rw [if_neg (fun h => m5' (by omega) h.2), if_neg (fun h => m5' (by omega) h.2), if_neg (fun h => m5' (by omega) h.2)]
            rw [e]
            exact fo a y m1' m2' m3'
        · rw [B_f ck] at eG
          have eM := m_isGear I.1 k1 k2
          rw [B_f ck] at eM
          refine ⟨J (-1), d, d, ?_, ?_, I⟩
          · refine bind_eq e1 ?_
            rw [if_neg n1]
            refine bind_eq eW ?_
            rw [if_neg n1, if_pos rfl]
            exact bind_eq (z0_0 d) (bind_eq eG rfl)
          · refine bind_eq e2 ?_
            rw [if_neg n1]
            refine bind_eq eW' ?_
            rw [if_neg n1, if_pos rfl]
            exact bind_eq (z183_0 d) (bind_eq eM rfl)
      · rw [B_f (show ¬ (0 ≤ w ∧ w ≤ 1) by omega)] at eW eW'
        refine ⟨J (-1), d, d, ?_, ?_, I⟩
        · refine bind_eq e1 ?_
          rw [if_neg n1]
          exact bind_eq eW rfl
        · refine bind_eq e2 ?_
          rw [if_neg n1]
          exact bind_eq eW' rfl
  · rw [B_f c] at e1 e2
    exact ⟨J (-1), d, d, bind_eq e1 rfl, bind_eq e2 rfl, I⟩
end
