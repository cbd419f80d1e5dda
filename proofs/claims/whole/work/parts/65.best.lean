/-! bestShift -/
theorem even_rng {wA wB : Int → Int} {rm : Int} (o1 : Wok wA) (o2 : Wok wB) (r0 : 0 ≤ rm) (r1 : rm ≤ 62) : 0 ≤ evenS wA wB rm ∧ evenS wA wB rm ≤ 62 := by
  have ob : ∀ n : Nat, rm - 62 ≤ offS wA wB rm n ∧ offS wA wB rm n ≤ rm := fun n => by
    have := both_rng o1 o2 n (touch wA wB n)
    unfold offS
    omega
  have h1 := mx_rng ob 15
  have h2 := mn_rng ob 15
  have h3 : ∀ n : Nat, mnS (offS wA wB rm) n ≤ mxS (offS wA wB rm) n := fun n => by
    induction n with
    | zero => exact Int.le_refl _
    | succ n ih =>
      unfold mnS mxS
      split <;> split <;> omega
  have h4 := h3 15
  unfold evenS gapS
  omega
theorem jam_rng (wA wB : Int → Int) (rm : Int) : jamS wA wB rm = -4 ∨ 0 ≤ jamS wA wB rm ∧ jamS wA wB rm ≤ 15 := by
  unfold jamS
  cases h : srch (fun n => decide (offS wA wB rm n < 0)) 16 with
  | none => exact Or.inl rfl
  | some i =>
    have := (srch_lt h).1
    exact Or.inr ⟨by show (0 : Int) ≤ (i : Int); omega, by show (i : Int) ≤ 15; omega⟩
/-- the shift of the k-th try -/
def shfS (k : Nat) : Int := if (k : Int) % 2 = 1 then ((k : Int) + 1) / 2 else -((k : Int) / 2)
/-- best and least behind k tries -/
def bsS (J : Int → Int) (E : Int → Int) : Nat → Int × Int
  | 0 => (-4000, 63)
  | k + 1 => if J (shfS k) = -4 ∧ E (shfS k) < (bsS J E k).2 then (shfS k, E (shfS k)) else bsS J E k
theorem shf_rng {k : Nat} (h : k < 17) : -8 ≤ shfS k ∧ shfS k ≤ 8 := by
  unfold shfS
  split <;> omega
theorem bs_rng {J E : Int → Int} (hE : ∀ s, 0 ≤ E s ∧ E s ≤ 62) : ∀ k : Nat, k ≤ 17 → ((bsS J E k).1 = -4000 ∧ (bsS J E k).2 = 63) ∨ (-8 ≤ (bsS J E k).1 ∧ (bsS J E k).1 ≤ 8 ∧ 0 ≤ (bsS J E k).2 ∧ (bsS J E k).2 ≤ 62)
  | 0, _ => Or.inl ⟨rfl, rfl⟩
  | k + 1, h => by
    have q := bs_rng (J := J) hE k (by omega)
    have r := shf_rng (k := k) (by omega)
    have e := hE (shfS k)
    unfold bsS
    split
    · exact Or.inr ⟨r.1, r.2, e.1, e.2⟩
    · exact q
section
variable {d : Mem}
theorem ag_bestShift (I : INV d) (x y u : Int32) : ∃ r d1 d2, f_X11_bestShift (mkH d) 0 x y u = some (r, mkH d1) ∧ f_X12_bestShift (mkH d1) 183 x y u = some (r, mkH d2) ∧ INV d2 := by
  obtain ⟨z, z1, z2, rfl⟩ := J_of x
  obtain ⟨i, y1, y2, rfl⟩ := J_of y
  obtain ⟨a, a1, a2, rfl⟩ := J_of u
  have n1 : ¬ (J 1 = 0) := by decide
  have e1 := c_isMesh I.1 z1 z2
  have e2 := m_isMesh I.1 z1 z2
  have e3 := c_isShelf y1 y2
  have e4 := m_isShelf y1 y2
  have e5 := c_isSteps a1 a2
  have e6 : f_X12_isIn (J a).toInt64 (K 1) (K 32) = some (J (B (1 ≤ a ∧ a ≤ 32))) := by simp (disch := first | omega | assumption | decide) only [SN0, SN1, SN2, SN3, SN4, SN5, SN6, SN7, SN8, SN9, SN10, SN11, SN12, SN13, SN14, SN15, SN16, SN17, SN18, SJ0, SJ1, SJ2, SJ3, SJ4, SJ5, bindS, if_pos, if_neg, w_isWithin, w_isIn, JB_0, JB_1, bz_B, ite10, ite01, Int.natCast_add, csN0, csN1, csN16, Int.toNat_natCast, ite_not, not_true_eq_false, not_false_eq_true]
  by_cases cz : 0 ≤ z ∧ z ≤ d 185 1741 - 1
  · rw [B_t cz] at e1 e2
    by_cases ci : 0 ≤ i ∧ i ≤ 7
    · rw [B_t ci] at e3 e4
      by_cases ca : 1 ≤ a ∧ a ≤ 32
      · rw [B_t ca] at e5 e6
        obtain ⟨i0, i7⟩ := ci
        have i8 : i < 8 := by omega
        have S := I.2.2.2.2.1 i i0 i8
        have k1 := c_cutterR S i0 i8
        have k2 := m_wrongCutter S i0 i8
        have hS := isS_A i0 i8
        have sl := sA_le i0 i8
        by_cases ok : cuS d i = 0
        · rw [ok] at k1 k2
          obtain ⟨q1, q2, q3, q4⟩ := cu_ok ok
          obtain ⟨c1, c2⟩ := cz
          obtain ⟨n, hn⟩ : ∃ n : Nat, a = n := ⟨a.toNat, by omega⟩
          subst hn
          have n0 : 1 ≤ n := by omega
          have n32 : n ≤ 32 := by omega
          have rr : ∀ y, 0 ≤ y → y < 16 → d (sA i + 3) y = d 191 (120 * i + y) := fun y h0 h1 => (S.2.2.2.2.2.2.2.2.2.1 y h0 (by omega)).1
          obtain ⟨d1, ga, gb, rm, q, F, C1, wa, wb, er, Ms, MM, rows, ga1, gb1, -, -⟩ := spares_go I c1 (by omega)
          obtain ⟨m0, m1, -, -, -, a0, a12, b0, b12, nab, r0, r1, oka, okb⟩ := id MM.1
          generalize hr : (fun y => d 191 (120 * i + y)) = r at *
          have hr' : ∀ y, r y = d 191 (120 * i + y) := fun y => by rw [← hr]
          generalize hwB : vw d 185 gb = wB at *
          generalize hW : (fun s => cutN r s n n) = W
          have hW' : ∀ s, W s = cutN r s n n := fun s => by rw [← hW]
          have okW : ∀ s, Wok (W s) := fun s => by rw [hW']; exact cutN_rng n
          have trW : ∀ s, tr (W s) = W s := fun s => by rw [hW']; exact cutN_tr n
          generalize hJ : (fun s => jamS (W s) wB rm) = Jm
          have hJ' : ∀ s, Jm s = jamS (W s) wB rm := fun s => by rw [← hJ]
          generalize hE : (fun s => evenS (W s) wB rm) = E
          have hE' : ∀ s, E s = evenS (W s) wB rm := fun s => by rw [← hE]
          have hEr : ∀ s, 0 ≤ E s ∧ E s ≤ 62 := fun s => by rw [hE']; exact even_rng (okW s) okb r0 r1
          have hJr : ∀ s, Jm s = -4 ∨ 0 ≤ Jm s ∧ Jm s ≤ 15 := fun s => by rw [hJ']; exact jam_rng _ _ _
          have shc : ∀ k : Nat, k < 17 → (if (J (k : Int) - J (k : Int) / J 2 * J 2) = J 1 then (nz (J 2)).bind fun u4 => some ((J (k : Int) + J 1) / J 2) else (nz (J 2)).bind fun u3 => some (-(J (k : Int) / J 2))) = some (J (shfS k)) := fun k hk => by
            have h1 : (J (k : Int) - J (k : Int) / J 2 * J 2) = J ((k : Int) % 2) := J_mod (by omega) (by omega) (by decide) (by decide)
            have h2 : J (k : Int) / J 2 = J ((k : Int) / 2) := J_div (by omega) (by omega) (by decide) (by decide)
            rw [h1, h2, J_add, J_div (by omega) (by omega) (by decide) (by decide)]
            unfold shfS
            by_cases c : (k : Int) % 2 = 1
            · rw [if_pos c, if_pos (by rw [c])]
              rfl
            · rw [if_neg c, if_neg (by rw [J_eq (by omega) (by omega) (by decide) (by decide)]; exact c), J_neg]
              rfl
          have L1 : ∃ e, iter (b_X11_bestShift_65 0 (J i) (J n)) FU (J (-4000), J 63, J 0, mkH d1) = some e ∧ ∃ d' : Mem, (∀ x, x < 136 ∨ 146 ≤ x → d' x = d x) ∧ e = (J (bsS Jm E 17).1, mkH d') := by
            refine iter_for (fun k s => ∃ d' : Mem, s = (J (bsS Jm E k).1, J (bsS Jm E k).2, J (k : Int), mkH d') ∧ (∀ x, x < 136 ∨ 146 ≤ x → d' x = d x) ∧ d' 140 0 = 136 ∧ d' 140 1 = 138 ∧ d' 140 2 = rm ∧ cw d' 138 = wB) _ 17 (by decide) ⟨d1, rfl, rows, C1.1.1, C1.1.2.1, er, wb⟩ ?_ ?_
            · rintro k s hk ⟨d', rfl, h0, h1, h2, h3, h4⟩
              obtain ⟨sr0, sr1⟩ := shf_rng hk
              have sc := shc k hk
              generalize hsh : shfS k = sh at *
              have kc := c_cutBy (d := d') (g := 136) (e := sA i + 3) (sh := sh) (n := n) isG_136 hS.2 (by omega) (fun y y0 y1 => by rw [h0 _ (by omega), rr y y0 y1]; exact q4 y y0 y1) sr0 sr1 n0 n32
              rw [cutN_cong (r' := r) (fun y y0 y1 => by rw [h0 _ (by omega), rr y y0 y1, hr']) n, ← hW'] at kc
              obtain ⟨d'', hd⟩ : ∃ d'', d'' = fl d' (136 + 1) 0 16 (W sh) := ⟨_, rfl⟩
              rw [← hd] at kc
              have x1 : ∀ x, x ≠ 137 → d'' x = d' x := fun x hx => by rw [hd, fl_row hx]
              have c136 : cw d'' 136 = W sh := by rw [hd, cw_fl, trW]
              have c138 : cw d'' 138 = wB := by rw [cw_row (x1 139 (by decide)), h4]
              have e140 : d'' 140 = d' 140 := x1 140 (by decide)
              have R : RLg d'' 136 138 := ⟨by rw [e140]; exact h1, by rw [e140]; exact h2, isG_136, isG_138, by rw [c136]; exact okW sh, by rw [c138]; exact okb, by rw [e140, h3]; exact r0, by rw [e140, h3]; exact r1⟩
              have km := c_measure R
              rw [c136, c138, e140, h3] at km
              obtain ⟨d3, hd3⟩ : ∃ d3, d3 = fl d'' 145 0 16 (offS (W sh) wB rm) := ⟨_, rfl⟩
              rw [← hd3] at km
              have x3 : ∀ x, x ≠ 145 → d3 x = d'' x := fun x h => by rw [hd3, fl_row h]
              have M3 : Msd d3 (offS (W sh) wB rm) := ⟨fun t t0 t1 => by rw [hd3]; exact fl_in (by omega) (by omega), fun n => off_rng (okW sh) okb ⟨r0, r1⟩ n⟩
              have kj : f_X5_firstJam (mkH d3) 140 = some (J (Jm sh)) := by
                rw [hJ']
                unfold jamS
                exact c_firstJam M3
              have ks : f_X5_spread (mkH d3) 140 = some (J (E sh)) := by
                rw [hE']
                exact c_spread M3
              have br := bs_rng (J := Jm) (E := E) hEr k (by omega)
              have jr := hJr sh
              have er' := hEr sh
              have bstep : bsS Jm E (k + 1) = if Jm sh = -4 ∧ E sh < (bsS Jm E k).2 then (sh, E sh) else bsS Jm E k := by
                rw [← hsh]
                rfl
              refine ⟨(J (bsS Jm E (k + 1)).1, J (bsS Jm E (k + 1)).2, J ((k + 1 : Nat) : Int), mkH d3), ?_, d3, rfl, fun x h => by rw [x3 x (by omega), x1 x (by omega), h0 x h], by rw [x3 140 (by decide), e140, h1], by rw [x3 140 (by decide), e140, h2], by rw [x3 140 (by decide), e140, h3], by rw [cw_row (x3 139 (by decide)), c138]⟩
              show (if J 16 < J (k : Int) then _ else _) = _
              rw [if_neg (by rw [J_lt (by omega) (by omega) (by omega) (by omega)]; omega)]
              refine bind_eq rfl (bind_eq sc ?_)
              refine bind_eq (q_gR rfl rfl) (bind_eq (q_gR rfl rfl) (bind_eq (z124_0 d' i i0 i8) (bind_eq (SS5 d' _ hS) (bind_eq (q_isO rfl) (bind_eq kc ?_)))))
              refine bind_eq (q_gR rfl rfl) (bind_eq (q_isO rfl) (bind_eq km (bind_eq (q_gR rfl rfl) (bind_eq (q_isO rfl) (bind_eq kj ?_)))))
              refine bind_eq (a := (J (bsS Jm E (k + 1)).1, J (bsS Jm E (k + 1)).2)) ?_ (bind_eq rfl (by rw [J_add]; rfl))
              rw [bstep]
              by_cases cj : Jm sh = -4
              · rw [if_pos (by rw [cj])]
                refine bind_eq (q_gR rfl rfl) (bind_eq (q_isO rfl) (bind_eq ks ?_))
                by_cases ce : E sh < (bsS Jm E k).2
                · rw [if_pos (show Jm sh = -4 ∧ E sh < (bsS Jm E k).2 from ⟨cj, ce⟩), if_neg (show ¬ (J (bsS Jm E k).2 ≤ J (E sh)) by rw [J_le (by omega) (by omega) (by omega) (by omega)]; omega)]
                  exact bind_eq (q_gR rfl rfl) (bind_eq (q_isO rfl) (bind_eq ks rfl))
                · rw [if_neg (show ¬ (Jm sh = -4 ∧ E sh < (bsS Jm E k).2) from fun h => ce h.2), if_pos (show J (bsS Jm E k).2 ≤ J (E sh) by rw [J_le (by omega) (by omega) (by omega) (by omega)]; omega)]
              · rw [if_neg (show ¬ (Jm sh = -4 ∧ E sh < (bsS Jm E k).2) from fun h => cj h.1), if_neg (show ¬ (J (Jm sh) = J (-4)) by rw [J_eq (by omega) (by omega) (by omega) (by omega)]; exact cj)]
            · rintro s ⟨d', rfl, h0, -⟩
              exact ⟨_, by simp (disch := first | omega | assumption | decide) only [b_X11_bestShift_65, z0_0, z0_1, z0_2, z0_3, z0_4, z0_5, z0_6, z0_7, z0_8, z0_9, z0_10, z0_11, z0_12, z0_13, z0_14, z0_15, z0_16, z0_17, z1_0, z1_1, z1_2, z1_3, z1_4, z1_5, z1_6, z1_7, z1_8, z2_0, z3_0, z3_1, z4_0, z4_1, z5_0, z5_1, z124_0, SG0, SG1, SG2, SG3, SG4, SG5, SG6, SG7, SG8, SG9, SG10, SG11, SG12, SS0, SS1, SS2, SS3, SS4, SS5, SS6, SS7, SS8, SS9, SS10, SS11, z30_0, z30_1, z30_2, z30_3, z30_4, z30_5, z30_6, z30_7, z30_8, z59_0, z59_1, z59_2, z59_3, z59_4, z62_0, z62_1, z62_2, z62_3, z62_4, z63_0, z76_0, z76_1, z125_0, z125_1, z125_2, z125_3, z125_4, z125_5, z125_6, z125_7, z125_8, z125_9, z125_10, z125_11, z125_12, z125_13, z128_0, z128_1, z128_2, z128_3, z128_4, z128_5, z128_6, z128_7, z128_8, z128_9, z130_0, z130_1, z131_0, z131_1, z131_2, z131_3, z131_4, z131_5, z131_6, z131_7, z131_8, z140_0, z140_1, z140_2, z140_3, z140_4, z140_5, z140_6, z140_7, z145_0, z145_1, z146_0, z146_1, z146_2, z146_3, z146_4, z146_5, z146_6, z146_7, z146_8, z146_9, z146_10, z146_11, z146_12, z146_13, z146_14, SN0, SN1, SN2, SN3, SN4, SN5, SN6, SN7, SN8, SN9, SN10, SN11, SN12, SN13, SN14, SN15, SN16, SN17, SN18, SJ0, SJ1, SJ2, SJ3, SJ4, SJ5, bindS, if_pos, if_neg, w_isWithin, w_isIn, JB_0, JB_1, bz_B, ite10, ite01, Int.natCast_add, csN0, csN1, csN16, Int.toNat_natCast, ite_not, not_true_eq_false, not_false_eq_true], d', h0, rfl⟩
          obtain ⟨e, L2, D, h0, he⟩ := L1
          subst he
          have e185 : D 185 = d 185 := h0 185 (by decide)
          have e4' := m_isMeshR (d' := D) e185 I.1 z1 z2
          rw [B_t ⟨c1, c2⟩] at e4'
          have S1 : SH D i := SH_rows (h0 _ (by omega)) (h0 _ (by omega)) (h0 _ (by omega)) (h0 _ (by omega)) (congrFun (h0 188 (by omega)) i) (congrFun (h0 189 (by omega)) i) (congrFun (h0 190 (by omega)) i) (fun k _ _ => congrFun (h0 191 (by omega)) _) (congrFun (h0 192 (by omega)) i) (congrFun (h0 193 (by omega)) i) S
          have k2' := m_wrongCutter S1 i0 i8
          have cu1 : cuS D i = 0 := by
            have e8 := h0 188 (by omega)
            have e9 := h0 189 (by omega)
            have e0 := h0 190 (by omega)
            have e1 := h0 191 (by omega)
            rw [← ok]
            unfold cuS allS
            rw [e8, e9, e0, e1]
          rw [cu1] at k2'
          have sv := m_saves (d := D)
          obtain ⟨D1, hD1⟩ : ∃ D1, D1 = fl D 187 0 228 (D 185) := ⟨_, rfl⟩
          rw [← hD1] at sv
          have f185 : D1 185 = d 185 := by rw [hD1, fl_row (by decide)]; exact e185
          have f191 : D1 191 = d 191 := by rw [hD1, fl_row (by decide)]; exact h0 191 (by omega)
          have f187 : ∀ k, 0 ≤ k → k < 228 → D1 187 k = d 185 k := fun k k0 k1 => by rw [hD1, fl_in k0 (by omega), e185]
          have M1 : ∃ e, iter (b_X12_bestShift_64 183 (J z) (J i) (J n)) FU (J (-4000), J 0, J 0, mkH D1) = some e ∧ ∃ d' : Mem, (∀ x k, ¬ (x = 199 ∨ x = 185 ∧ RGN ga ga k) → d' x k = D1 x k) ∧ e = (J (bsS Jm E 17).1, mkH d') := by
            refine iter_for (fun k s => ∃ d' : Mem, s = (J (bsS Jm E k).1, J (if (bsS Jm E k).1 = -4000 then 0 else (bsS Jm E k).2), J (k : Int), mkH d') ∧ (∀ x k, ¬ (x = 199 ∨ x = 185 ∧ RGN ga ga k) → d' x k = D1 x k)) _ 17 (by decide) ⟨D1, rfl, fun _ _ _ => rfl⟩ ?_ ?_
            · rintro k s hk ⟨d', rfl, h3⟩
              obtain ⟨sr0, sr1⟩ := shf_rng hk
              have sc : (if (J (k : Int) - J (k : Int) / J 2 * J 2) = J 1 then (nz (J 2)).bind fun u4 => some ((J (k : Int) + J 1) / J 2) else (nz (J 2)).bind fun u3 => some ((-J (k : Int)) / J 2)) = some (J (shfS k)) := by
                have h1 : (J (k : Int) - J (k : Int) / J 2 * J 2) = J ((k : Int) % 2) := J_mod (by omega) (by omega) (by decide) (by decide)
                rw [h1, J_add, J_div (by omega) (by omega) (by decide) (by decide), J_neg, J_tdiv (by omega) (by omega) (by decide) (by decide)]
                unfold shfS
                by_cases c : (k : Int) % 2 = 1
                · rw [if_pos c, if_pos (by rw [c])]
                  rfl
                · rw [if_neg c, if_neg (by rw [J_eq (by omega) (by omega) (by decide) (by decide)]; exact c)]
                  have hk2 : (-(k : Int)).tdiv 2 = -((k : Int) / 2) := by
                    rw [Int.neg_tdiv, Int.tdiv_eq_ediv_of_nonneg (by omega)]
                  rw [hk2]
                  rfl
              generalize hsh : shfS k = sh at *
              have x191 : ∀ y, d' 191 y = d 191 y := fun y => by rw [h3 191 y (by omega), f191]
              have kd := m_cuts (d := d') (i := i) (sh := sh) (n := n) i0 i8 (fun y y0 y1 => by rw [x191]; exact q4 y y0 y1) sr0 sr1 n0 n32
              rw [show (fun y => d' 191 (120 * i + y)) = r from by rw [← hr]; exact funext fun y => x191 _, ← hW'] at kd
              obtain ⟨d'', hd⟩ : ∃ d'', d'' = fl d' 199 0 16 (W sh) := ⟨_, rfl⟩
              rw [← hd] at kd
              have kp := m_puts (d := d'') (g := ga) a0 a12
              obtain ⟨d3, hd3⟩ : ∃ d3, d3 = fl d'' 185 (19 * ga + 3) 16 (fun c => d'' 199 (c - (19 * ga + 3))) := ⟨_, rfl⟩
              have vW : vw d3 185 ga = W sh := by
                rw [hd3, vw_puts, ← trW]
                exact tr_cong (fun y y0 y1 => by rw [hd, fl_in y0 (by omega)])
              rw [← hd3] at kp
              have h4 : ∀ x k, ¬ (x = 199 ∨ x = 185 ∧ RGN ga ga k) → d3 x k = D1 x k := fun x k hx => by
                rw [hd3]
                by_cases x185 : x = 185
                · subst x185
                  rw [fl_out (by
                    by_cases h : k < 19 * ga + 3
                    · exact Or.inl h
                    · refine Or.inr ?_
                      by_cases h2 : k < 19 * ga + 19
                      · exact absurd (Or.inr ⟨rfl, Or.inl ⟨by omega, h2⟩⟩) hx
                      · omega), hd, fl_na (by decide)]
                  exact h3 185 k hx
                · rw [fl_na x185, hd, fl_na (fun e => hx (Or.inl e))]
                  exact h3 x k hx
              have g185 : ∀ k, ¬ RGN ga ga k → d3 185 k = d 185 k := fun k hk => by rw [h4 185 k (fun e => e.elim (fun e => absurd e (by decide)) (fun e => hk e.2)), f185]
              have gm : ∀ k, ¬ RGN ga ga k → d'' 185 k = d 185 k := fun k hk => by rw [hd, fl_na (by decide), h3 185 k (fun e => e.elim (fun e => absurd e (by decide)) (fun e => hk e.2)), f185]
              obtain ⟨ea, eb, erm⟩ := And.intro MM.1.2.2.1 (And.intro MM.1.2.2.2.1 MM.1.2.2.2.2.1)
              have vB : vw d3 185 gb = wB := by
                rw [← hwB]
                exact tr_cong (fun y y0 y1 => g185 _ (by unfold RGN; omega))
              have M3 : MS d3 z ga gb rm := by
                refine ⟨m0, m1, ?_, ?_, ?_, a0, a12, b0, b12, nab, r0, r1, by rw [vW]; exact okW sh, by rw [vB]; exact okb⟩
                · unfold mm at ea ⊢
                  rw [g185 _ (by unfold RGN; omega)]
                  exact ea
                · unfold mm at eb ⊢
                  rw [g185 _ (by unfold RGN; omega)]
                  exact eb
                · unfold mm at erm ⊢
                  rw [g185 _ (by unfold RGN; omega)]
                  exact erm
              have kj := m_jamOf M3
              have ks := m_evenOf M3
              rw [vW, vB, ← hJ'] at kj
              rw [vW, vB, ← hE'] at ks
              have kma : f_X12_meshOf (mkH d'') 183 (J z) (J 0) = some (J ga) := by
                rw [m_meshOf m0 m1 (by decide) (by decide)]
                unfold mm at ea ⊢
                rw [gm _ (by unfold RGN; omega), ea]
              have br := bs_rng (J := Jm) (E := E) hEr k (by omega)
              have jr := hJr sh
              have er' := hEr sh
              have bstep : bsS Jm E (k + 1) = if Jm sh = -4 ∧ E sh < (bsS Jm E k).2 then (sh, E sh) else bsS Jm E k := by
                rw [← hsh]
                rfl
              refine ⟨(J (bsS Jm E (k + 1)).1, J (if (bsS Jm E (k + 1)).1 = -4000 then 0 else (bsS Jm E (k + 1)).2), J ((k + 1 : Nat) : Int), mkH d3), ?_, d3, rfl, h4⟩
              show (if J 16 < J (k : Int) then _ else _) = _
              rw [if_neg (by rw [J_lt (by omega) (by omega) (by omega) (by omega)]; omega)]
              refine bind_eq rfl (bind_eq sc ?_)
              refine bind_eq (z183_0 d') (bind_eq kd (bind_eq (z183_0 d'') (bind_eq kma (bind_eq (z183_0 d'') (bind_eq kp (bind_eq (z183_0 d3) (bind_eq kj ?_)))))))
              refine bind_eq (a := (J (bsS Jm E (k + 1)).1, J (if (bsS Jm E (k + 1)).1 = -4000 then 0 else (bsS Jm E (k + 1)).2))) ?_ (bind_eq rfl (by rw [J_add]; rfl))
              rw [bstep]
              by_cases cj : Jm sh = -4
              · rw [if_neg (by rw [cj]; decide)]
                rcases br with ⟨b1, b2⟩ | ⟨b1, b2, b3, b4⟩
                · rw [if_pos (by rw [b1])]
                  refine bind_eq (z183_0 d3) (bind_eq ks ?_)
                  rw [if_pos (show Jm sh = -4 ∧ E sh < (bsS Jm E k).2 from ⟨cj, by omega⟩)]
                  show _ = some (J sh, J (if sh = -4000 then 0 else E sh))
                  rw [if_neg (show ¬ sh = -4000 by omega)]
                · rw [if_neg (show ¬ (J (bsS Jm E k).1 = J (-4000)) by rw [J_eq (by omega) (by omega) (by omega) (by omega)]; omega)]
                  refine bind_eq (z183_0 d3) (bind_eq ks ?_)
                  rw [if_neg (show ¬ (bsS Jm E k).1 = -4000 by omega)]
                  by_cases ce : E sh < (bsS Jm E k).2
                  · rw [if_pos (show Jm sh = -4 ∧ E sh < (bsS Jm E k).2 from ⟨cj, ce⟩), if_pos (show J (E sh) < J (bsS Jm E k).2 from (J_lt (by omega) (by omega) (by omega) (by omega)).mpr ce)]
                    refine bind_eq (z183_0 d3) (bind_eq ks ?_)
                    show _ = some (J sh, J (if sh = -4000 then 0 else E sh))
                    rw [if_neg (show ¬ sh = -4000 by omega)]
                  · rw [if_neg (show ¬ (Jm sh = -4 ∧ E sh < (bsS Jm E k).2) from fun h => ce h.2), if_neg (show ¬ (J (E sh) < J (bsS Jm E k).2) by rw [J_lt (by omega) (by omega) (by omega) (by omega)]; exact ce), if_neg (show ¬ (bsS Jm E k).1 = -4000 by omega)]
              · rw [if_pos (show 0 ≤ J (Jm sh) by rw [J_zero, J_le (by omega) (by omega) (by omega) (by omega)]; omega), if_neg (show ¬ (Jm sh = -4 ∧ E sh < (bsS Jm E k).2) from fun h => cj h.1)]
            · rintro s ⟨d', rfl, h3⟩
              exact ⟨_, by simp (disch := first | omega | assumption | decide) only [b_X12_bestShift_64, z183_0, z183_1, z183_2, z183_3, z183_4, z183_5, z183_6, z183_7, z183_8, z183_9, z183_10, z183_11, z183_12, z183_13, z183_14, z183_15, z183_16, z183_17, z183_18, z183_19, z183_20, z183_21, z183_22, z183_23, z183_24, z183_25, z183_26, z183_27, z183_28, z183_29, z183_30, z183_31, z183_32, z183_33, z183_34, z183_35, z183_36, z183_37, z183_38, z183_39, z183_40, z183_41, z183_42, z184_0, z184_1, z185_0, z185_1, z186_0, z186_1, z187_0, z187_1, z188_0, z188_1, z189_0, z189_1, z190_0, z190_1, z191_0, z191_1, z192_0, z192_1, z193_0, z193_1, z194_0, z194_1, z195_0, z195_1, z196_0, z196_1, z197_0, z197_1, z198_0, z198_1, z198_2, z199_0, z199_1, z200_0, z200_1, z201_0, z201_1, z202_0, z202_1, SN0, SN1, SN2, SN3, SN4, SN5, SN6, SN7, SN8, SN9, SN10, SN11, SN12, SN13, SN14, SN15, SN16, SN17, SN18, SJ0, SJ1, SJ2, SJ3, SJ4, SJ5, bindS, if_pos, if_neg, w_isWithin, w_isIn, JB_0, JB_1, bz_B, ite10, ite01, Int.natCast_add, csN0, csN1, csN16, Int.toNat_natCast, ite_not, not_true_eq_false, not_false_eq_true], d', h3, rfl⟩
          obtain ⟨e', M2, D2, h5, he'⟩ := M1
          subst he'
          have bk := m_back (d := D2)
          have fin : ∀ k, fl D2 185 0 228 (D2 187) 185 k = d 185 k := back_eq a0 a12 a0 a12 (fun k k0 k1 => by rw [h5 187 k (by omega), f187 k k0 k1]) (fun k hk => by rw [h5 185 k (fun e => e.elim (fun e => absurd e (by decide)) (fun e => hk e.2)), f185])
          have I2 : INV (fl D2 185 0 228 (D2 187)) := INV_fr I (fun x k sc => by
            by_cases x185 : x = 185
            · subst x185
              exact fin k
            · rw [fl_na x185, h5 x k (fun e => by
                rcases e with e | e
                · exact sc (by unfold Sc; omega)
                · exact x185 e.1), hD1, fl_na (fun e => sc (by unfold Sc; omega)), h0 x (by
                by_cases h : x < 136 ∨ 146 ≤ x
                · exact h
                · exact absurd (by unfold Sc; omega) sc)])
          refine ⟨J (bsS Jm E 17).1, D, _, ?_, ?_, I2⟩
          · refine bind_eq (z0_0 d) (bind_eq e1 ?_)
            rw [if_neg n1]
            refine bind_eq e3 ?_
            rw [if_neg n1]
            refine bind_eq e5 ?_
            rw [if_neg n1]
            refine bind_eq (q_gR rfl rfl) (bind_eq (z124_0 d i i0 i8) (bind_eq (SS0 d _ hS) (bind_eq k1 ?_)))
            rw [if_pos (by rfl)]
            exact bind_eq (z0_0 d) (bind_eq q (bind_eq rfl (bind_eq rfl (bind_eq rfl (bind_eq L2 rfl)))))
          · refine bind_eq (z183_0 D) (bind_eq e4' ?_)
            rw [if_neg n1]
            refine bind_eq e4 ?_
            rw [if_neg n1]
            refine bind_eq e6 ?_
            rw [if_neg n1]
            refine bind_eq (z183_0 D) (bind_eq k2' ?_)
            rw [if_pos (by rfl)]
            exact bind_eq (z183_0 D) (bind_eq sv (bind_eq rfl (bind_eq rfl (bind_eq rfl (bind_eq M2 (bind_eq (z183_0 D2) (bind_eq bk rfl)))))))
        · have nb : ¬ (J (cuS d i) = 0) := by
            rcases cu_rng (d := d) (i := i) with h | h | h | h
            · exact absurd h ok
            · rw [h]; decide
            · rw [h]; decide
            · rw [h]; decide
          refine ⟨J (-1000000000) + J (cuS d i), d, d, ?_, ?_, I⟩
          · refine bind_eq (z0_0 d) (bind_eq e1 ?_)
            rw [if_neg n1]
            refine bind_eq e3 ?_
            rw [if_neg n1]
            refine bind_eq e5 ?_
            rw [if_neg n1]
            refine bind_eq (q_gR rfl rfl) (bind_eq (z124_0 d i i0 i8) (bind_eq (SS0 d _ hS) (bind_eq k1 ?_)))
            rw [if_neg nb]
          · refine bind_eq (z183_0 d) (bind_eq e2 ?_)
            rw [if_neg n1]
            refine bind_eq e4 ?_
            rw [if_neg n1]
            refine bind_eq e6 ?_
            rw [if_neg n1]
            refine bind_eq (z183_0 d) (bind_eq k2 ?_)
            rw [if_neg nb]
      · rw [B_f ca] at e5 e6
        refine ⟨J (-1000000001), d, d, ?_, ?_, I⟩
        · refine bind_eq (z0_0 d) (bind_eq e1 ?_)
          rw [if_neg n1]
          refine bind_eq e3 ?_
          rw [if_neg n1]
          exact bind_eq e5 rfl
        · refine bind_eq (z183_0 d) (bind_eq e2 ?_)
          rw [if_neg n1]
          refine bind_eq e4 ?_
          rw [if_neg n1]
          exact bind_eq e6 rfl
    · rw [B_f ci] at e3 e4
      refine ⟨J (-1000000001), d, d, ?_, ?_, I⟩
      · refine bind_eq (z0_0 d) (bind_eq e1 ?_)
        rw [if_neg n1]
        exact bind_eq e3 rfl
      · refine bind_eq (z183_0 d) (bind_eq e2 ?_)
        rw [if_neg n1]
        exact bind_eq e4 rfl
  · rw [B_f cz] at e1 e2
    exact ⟨J (-1000000001), d, d, bind_eq (z0_0 d) (bind_eq e1 rfl), bind_eq (z183_0 d) (bind_eq e2 rfl), I⟩
end
