/-! watch -/
section
variable {d : Mem}
theorem CR_fr {d D : Mem} (h : ∀ x, x ≠ 128 → x ≠ 130 → D x = d x) (C : CR d 136 138) : CR D 136 138 ∧ cw D 136 = cw d 136 ∧ cw D 138 = cw d 138 ∧ (∀ l, laS D 136 l = laS d 136 l) ∧ (∀ l, laS D 138 l = laS d 138 l) := by
  obtain ⟨⟨r0, r1, hg, hg', ok, ok', r2, r3⟩, hn, fa, fb⟩ := C
  have e140 := h 140 (by decide) (by decide)
  have e136 := h 136 (by decide) (by decide)
  have e138 := h 138 (by decide) (by decide)
  have w1 : cw D 136 = cw d 136 := cw_row (h 137 (by decide) (by decide))
  have w2 : cw D 138 = cw d 138 := cw_row (h 139 (by decide) (by decide))
  refine ⟨⟨⟨by rw [e140]; exact r0, by rw [e140]; exact r1, hg, hg', by rw [w1]; exact ok, by rw [w2]; exact ok', by rw [e140]; exact r2, by rw [e140]; exact r3⟩, hn, ?_, ?_⟩, w1, w2, fun l => ?_, fun l => ?_⟩
  · unfold GF
    rw [e136]
    exact fa
  · unfold GF
    rw [e138]
    exact fb
  · unfold laS
    rw [e136]
  · unfold laS
    rw [e138]
theorem ag_watch (I : INV d) (x y u : Int32) : ∃ r d1 d2, f_X11_watch (mkH d) 0 x y u = some (r, mkH d1) ∧ f_X12_watch (mkH d1) 183 x y u = some (r, mkH d2) ∧ INV d2 := by
  obtain ⟨q, q1, q2, rfl⟩ := J_of x
  obtain ⟨z, z1, z2, rfl⟩ := J_of y
  obtain ⟨l, l1, l2, rfl⟩ := J_of u
  have n1 : ¬ (J 1 = 0) := by decide
  have e0 := c_isRule I.2.2.1 q1 q2
  have e1 := c_isMesh I.1 z1 z2
  have e2 := m_isMesh I.1 z1 z2
  have e3 := m_isRule (d' := d) rfl I.2.2.1 q1 q2
  have e5 := c_isWearLoad l1 l2
  have e6 : f_X12_isIn (J l).toInt64 (K 1) (K 999) = some (J (B (1 ≤ l ∧ l ≤ 999))) := by simp (disch := first | omega | assumption | decide) only [SN0, SN1, SN2, SN3, SN4, SN5, SN6, SN7, SN8, SN9, SN10, SN11, SN12, SN13, SN14, SN15, SN16, SN17, SN18, SJ0, SJ1, SJ2, SJ3, SJ4, SJ5, bindS, if_pos, if_neg, w_isWithin, w_isIn, JB_0, JB_1, bz_B, ite10, ite01, Int.natCast_add, csN0, csN1, csN16, Int.toNat_natCast, ite_not, not_true_eq_false, not_false_eq_true]
  by_cases cq : 0 ≤ q ∧ q ≤ d 185 1742 - 1
  · rw [B_t cq] at e0 e3
    by_cases c : 0 ≤ z ∧ z ≤ d 185 1741 - 1
    · rw [B_t c] at e1 e2
      by_cases c3 : 1 ≤ l ∧ l ≤ 999
      · rw [B_t c3] at e5 e6
        obtain ⟨c1, c2⟩ := c
        obtain ⟨c3, c4⟩ := c3
        obtain ⟨cq1, cq2⟩ := cq
        obtain ⟨-, -, r3, r4⟩ := id I.2.2.1
        have q12 : q < 12 := by omega
        obtain ⟨n, tx, t1, t2, t3, t4, t5, t6, t7⟩ := RU_t (r4 q cq1 (by omega))
        have rl := rA_le (b := 62) cq1 q12
        obtain ⟨d1, a, b, rm, qr, F, C1, wa, wb, er, Ms, MM, rows, a1, b1, hla, hlb⟩ := spares_go I c1 (by omega)
        obtain ⟨m0, m1, -, -, -, a0, a2, b0, b2, nab, r0, r1, ok, ok'⟩ := id MM.1
        generalize hS : rnS (maS d a l) (maS d b l) (vw d 185 a, vw d 185 b) = S
        have hS0 : S 0 = (vw d 185 a, vw d 185 b) := by rw [← hS]; rfl
        have hS1 : ∀ i, S (i + 1) = wrS (maS d a l) (maS d b l) (S i) 16 := fun i => by rw [← hS]; rfl
        have hSo : ∀ i, Wok (S i).1 ∧ Wok (S i).2 := fun i => by rw [← hS]; exact rnS_ok ok ok' i
        obtain ⟨N, hN⟩ : ∃ N : Nat, N = 201 := ⟨_, rfl⟩
        generalize hc : (fun i : Nat => (topS (chS tx n) (fldM (offS (S i).1 (S i).2 rm) (S i).1 (S i).2 (i : Int))).2.2) = C
        have hC : ∀ i : Nat, (topS (chS tx n) (fldM (offS (S i).1 (S i).2 rm) (S i).1 (S i).2 (i : Int))).2.2 = C i := fun i => by rw [← hc]
        have askC : ∀ (i : Nat) (d' : Mem), i < N → (∀ x, x < 125 ∨ 147 ≤ x → d' x = d x) → CR d' 136 138 → (cw d' 136, cw d' 138) = S i → d' 140 2 = rm → Msd d' (offS (S i).1 (S i).2 rm) → ∃ e, f_X5_tellFields (mkH d') 140 130 (J (i : Int)) = some (mkH e) ∧ aR (mkH e) 63 5 (J q) = some (rA 62 q) ∧ aI (mkH e) 76 (J q) = some (J n) ∧ ∃ D, f_X7_readAll (mkH e) 128 (rA 62 q) (J n) = some (J (B (C i = true)), mkH D) ∧ ∀ x, x ≠ 128 → x ≠ 130 → D x = d' x := by
          intro i d' hi h0 h1 h2 h5 h6
          obtain ⟨e, g2, f2, ef⟩ := c_tellFields h1.1 h6 (r := (i : Int))
          rw [show cw d' 136 = (S i).1 from congrArg Prod.fst h2, show cw d' 138 = (S i).2 from congrArg Prod.snd h2] at ef
          obtain ⟨k1, k2, D, k3, f3⟩ := c_readRule (d := e) cq1 q12 (by rw [f2 76 (by decide), h0 76 (by omega)]; exact t2) t3 t4 (fun k k0 k1 => by rw [f2 _ (by omega), h0 _ (by omega)]; exact t6 k k0 k1) t7
          rw [ef, hC] at k3
          exact ⟨e, g2, k1, k2, D, k3, fun x n1 n2 => by rw [f3 x n1, f2 x n2]⟩
        have stepC : ∀ (i : Nat) (d' : Mem), CR d' 136 138 → (cw d' 136, cw d' 138) = S i → (∀ l, laS d' 136 l = maS d a l) → (∀ l, laS d' 138 l = maS d b l) → d' 140 2 = rm → ∃ d'', f_X5_wearRound (mkH d') 140 (J l) = some (mkH d'') ∧ ∃ d3, f_X5_measure (mkH d'') 140 = some (mkH d3) ∧ CR d3 136 138 ∧ (cw d3 136, cw d3 138) = S (i + 1) ∧ (∀ l, laS d3 136 l = maS d a l) ∧ (∀ l, laS d3 138 l = maS d b l) ∧ d3 140 2 = rm ∧ Msd d3 (offS (S (i + 1)).1 (S (i + 1)).2 rm) ∧ ∀ x, x < 136 ∨ 147 ≤ x → d3 x = d' x := by
          intro i d' h1 h2 h3 h4 h5
          obtain ⟨d'', g1, g2, g3, g4, g5, g6, g7⟩ := c_round h1 c3 c4
          have k := c_measure g4.1
          have gS : (cw d'' 136, cw d'' 138) = S (i + 1) := by rw [g3, h3, h4, h2, hS1]
          have gA' : cw d'' 136 = (S (i + 1)).1 := congrArg Prod.fst gS
          have gB' : cw d'' 138 = (S (i + 1)).2 := congrArg Prod.snd gS
          have g140 : d'' 140 2 = rm := by rw [g7]; exact h5
          rw [gA', gB', g140] at k
          refine ⟨d'', g1, _, k, ?_⟩
          generalize hd3 : fl d'' 145 0 16 (offS (S (i + 1)).1 (S (i + 1)).2 rm) = d3
          have r3 : ∀ x, x ≠ 145 → d3 x = d'' x := fun x h => by rw [← hd3, fl_row h]
          have M3 : Msd d3 (offS (S (i + 1)).1 (S (i + 1)).2 rm) := ⟨fun t t0 t1 => by rw [← hd3]; exact fl_in (by omega) (by omega), fun n => off_rng (hSo _).1 (hSo _).2 ⟨r0, r1⟩ n⟩
          have w1 : cw d3 136 = (S (i + 1)).1 := by rw [cw_row (r3 137 (by decide)), gA']
          have w2 : cw d3 138 = (S (i + 1)).2 := by rw [cw_row (r3 139 (by decide)), gB']
          obtain ⟨C3, f1, f2, f3⟩ := CR_row (d' := d3) g4 (fun x n0 _ _ => r3 x n0) (by rw [w1]; exact (hSo _).1) (by rw [w2]; exact (hSo _).2)
          refine ⟨C3, by rw [w1, w2], fun l => ?_, fun l => ?_, by rw [f3]; exact g140, M3, fun x h => ?_⟩
          · rw [← h3 l]
            unfold laS
            rw [f1, g5]
          · rw [← h4 l]
            unfold laS
            rw [f2, g6]
          · rw [r3 x (by omega), g2 x (by omega) (by omega)]
        have L1 : ∃ e, iter (b_X11_watch_33 0 (J q) (J l)) FU (J 0, mkH d1) = some e ∧ ∃ d' : Mem, (∀ x, x < 125 ∨ 147 ≤ x → d' x = d x) ∧ e = (match srch C N with
            | some t => .inr (J (t : Int), mkH d')
            | none => .inl (mkH d')) := by
          refine iter_srE (fun i s => ∃ d' : Mem, s = (J (i : Int), mkH d') ∧ (∀ x, x < 125 ∨ 147 ≤ x → d' x = d x) ∧ CR d' 136 138 ∧ (cw d' 136, cw d' 138) = S i ∧ (∀ l, laS d' 136 l = maS d a l) ∧ (∀ l, laS d' 138 l = maS d b l) ∧ d' 140 2 = rm ∧ Msd d' (offS (S i).1 (S i).2 rm)) C N (fun (o : Option Nat) (e : Hp ⊕ (Int32 × Hp)) => ∃ d' : Mem, (∀ x, x < 125 ∨ 147 ≤ x → d' x = d x) ∧ e = (match o with
            | some t => .inr (J (t : Int), mkH d')
            | none => .inl (mkH d'))) (by omega) ⟨d1, rfl, fun x h => rows x (by omega), C1, by rw [wa, wb, hS0], hla, hlb, er, by rw [hS0]; exact Ms⟩ ?_ ?_ ?_
          · rintro i s hi ⟨d', rfl, h0, h1, h2, h3, h4, h5, h6⟩ hct
            obtain ⟨e, g1, g2, g3, D, g4, g5⟩ := askC i d' hi h0 h1 h2 h5 h6
            obtain ⟨CD, w1, w2, la1, la2⟩ := CR_fr g5 h1
            obtain ⟨d'', k1, d3, k2, k3, k4, k5, k6, k7, k8, k9⟩ := stepC i D CD (by rw [w1, w2]; exact h2) (fun l => by rw [la1, h3]) (fun l => by rw [la2, h4]) (by rw [g5 140 (by decide) (by decide)]; exact h5)
            rw [hct, B_f (by decide)] at g4
            refine ⟨(J (((i + 1 : Nat) : Int)), mkH d3), ?_, d3, rfl, fun x h => by rw [k9 x (by omega), g5 x (by omega) (by omega), h0 x h], k3, k4, k5, k6, k7, k8⟩
            unfold b_X11_watch_33
            rw [if_neg (by rw [J_lt (by omega) (by omega) (by omega) (by omega)]; omega)]
            refine bind_eq (q_gR rfl rfl) (bind_eq (q_gR rfl rfl) (bind_eq (q_gR rfl rfl) (bind_eq (q_isO rfl) (bind_eq g1 (bind_eq (q_gR rfl rfl) (bind_eq (q_gR rfl rfl) (bind_eq (q_gR rfl rfl) (bind_eq g2 (bind_eq (q_gR rfl rfl) (bind_eq (q_gR rfl rfl) (bind_eq g3 (bind_eq (q_isO rfl) (bind_eq g4 ?_)))))))))))))
            rw [if_pos (by rfl)]
            refine bind_eq (q_gR rfl rfl) (bind_eq (q_isO rfl) (bind_eq k1 (bind_eq (q_gR rfl rfl) (bind_eq (q_isO rfl) (bind_eq k2 (bind_eq rfl ?_))))))
            rw [J_add]
            rfl
          · rintro i s hi ⟨d', rfl, h0, h1, h2, h3, h4, h5, h6⟩ hct
            obtain ⟨e, g1, g2, g3, D, g4, g5⟩ := askC i d' hi h0 h1 h2 h5 h6
            rw [hct, B_t (by decide)] at g4
            refine ⟨.inr (J (i : Int), mkH D), ?_, D, fun x h => by rw [g5 x (by omega) (by omega), h0 x h], rfl⟩
            unfold b_X11_watch_33
            rw [if_neg (by rw [J_lt (by omega) (by omega) (by omega) (by omega)]; omega)]
            refine bind_eq (q_gR rfl rfl) (bind_eq (q_gR rfl rfl) (bind_eq (q_gR rfl rfl) (bind_eq (q_isO rfl) (bind_eq g1 (bind_eq (q_gR rfl rfl) (bind_eq (q_gR rfl rfl) (bind_eq (q_gR rfl rfl) (bind_eq g2 (bind_eq (q_gR rfl rfl) (bind_eq (q_gR rfl rfl) (bind_eq g3 (bind_eq (q_isO rfl) (bind_eq g4 ?_)))))))))))))
            rw [if_neg n1]
          · rintro s ⟨d', rfl, h0, -⟩
            refine ⟨.inl (mkH d'), ?_, d', h0, rfl⟩
            unfold b_X11_watch_33
            rw [if_pos (by rw [J_lt (by omega) (by omega) (by omega) (by omega)]; omega)]
        obtain ⟨e, L2, D, h0, he⟩ := L1
        have e185 : D 185 = d 185 := h0 185 (by decide)
        have e4 := m_isMeshR (d' := D) e185 I.1 z1 z2
        rw [B_t ⟨c1, c2⟩] at e4
        have e7 := m_isRule (d' := D) (by rw [e185]) I.2.2.1 q1 q2
        rw [B_t ⟨cq1, cq2⟩] at e7
        have sv := m_saves (d := D)
        obtain ⟨D1, hD1⟩ : ∃ D1, D1 = fl D 187 0 228 (D 185) := ⟨_, rfl⟩
        rw [← hD1] at sv
        have f185 : D1 185 = d 185 := by rw [hD1, fl_row (by decide)]; exact e185
        have f184 : D1 184 = d 184 := by rw [hD1, fl_row (by decide)]; exact h0 184 (by decide)
        have f187 : ∀ k, 0 ≤ k → k < 228 → D1 187 k = d 185 k := fun k k0 k1 => by rw [hD1, fl_in k0 (by omega), e185]
        obtain ⟨MR1, va, vb, ma, mb⟩ := MR_row f185 MM
        have askM : ∀ (i : Nat) (d' : Mem), (∀ x k, ¬ (x = 185 ∧ RGN a b k) → ¬ (x = 183 ∧ k ≠ 10) → d' x k = D1 x k) → MR d' z a b rm → (vw d' 185 a, vw d' 185 b) = S i → ∃ E, f_X12_holdsFor (mkH d') 183 (J q) (J z) (J (i : Int)) = some (J (B (C i = true)), mkH E) ∧ ∀ x k, ¬ (x = 183 ∧ k ≠ 10) → E x k = d' x k := by
          intro i d' h1 h3 h2
          have far : ∀ k, 276 + 121 * q ≤ k → d' 185 k = d 185 k := fun k hk => by rw [h1 185 k (by unfold RGN; omega) (by omega), f185]
          obtain ⟨E, g1, g2⟩ := m_holdsFor (d := d') (q := q) (r := (i : Int)) cq1 q12 (fun y y0 y1 => by rw [h1 184 y (by omega) (by omega), f184]; exact I.2.2.2.2.2 y y0 y1) h3.1 (by rw [far _ (by omega)]; exact t1) t3 t4 (fun k k0 k1 => by
            rw [far _ (by omega)]
            exact ⟨t5 k, (t6 k k0 k1).2⟩) t7
          rw [show vw d' 185 a = (S i).1 from congrArg Prod.fst h2, show vw d' 185 b = (S i).2 from congrArg Prod.snd h2, hC] at g1
          exact ⟨E, g1, g2⟩
        have M1 : ∃ e, iter (b_X12_watch_41 183 (J q) (J z) (J l)) FU (J (-4), J 0, mkH D1) = some e ∧ ∃ d' : Mem, (∀ x k, ¬ (x = 185 ∧ RGN a b k) → ¬ (x = 183 ∧ k ≠ 10) → d' x k = D1 x k) ∧ e = (J (optI (srch C N) (fun t => (t : Int)) (-4)), mkH d') := by
          have wearM : ∀ (i : Nat) (d' : Mem), (vw d' 185 a, vw d' 185 b) = S (i - 1) → MR d' z a b rm → maS d' a l = maS d a l → maS d' b l = maS d b l → ∃ d'', ((if (J (i : Int)) ≤ 0 then some (mkH d') else (isO (mkH d') 183 11).bind fun _ => (f_X12_wears (mkH d') 183 (J z) (J l)).bind fun r3 => some r3) : Option Hp) = some (mkH d'') ∧ (∀ x k, ¬ (x = 185 ∧ RGN a b k) → d'' x k = d' x k) ∧ (vw d'' 185 a, vw d'' 185 b) = S i ∧ MR d'' z a b rm ∧ maS d'' a l = maS d a l ∧ maS d'' b l = maS d b l ∨ 200 < i := by
            intro i d' h2 h3 h4 h5
            by_cases hb : 200 < i
            · exact ⟨d', Or.inr hb⟩
            cases i with
            | zero => exact ⟨d', Or.inl ⟨by rw [if_pos (by decide)], fun _ _ _ => rfl, h2, h3, h4, h5⟩⟩
            | succ j =>
              obtain ⟨d'', g1, g2, g3, g4, g5, g6⟩ := m_round h3 c3 c4
              refine ⟨d'', Or.inl ⟨?_, g2, by rw [g3, h4, h5, h2, hS1]; rfl, g4, g5.trans h4, g6.trans h5⟩⟩
              have e0 : ¬ (J ((j + 1 : Nat) : Int) ≤ 0) := by
                rw [J_zero, J_le (by omega) (by omega) (by omega) (by omega)]
                omega
              rw [if_neg e0]
              exact bind_eq (z183_0 d') (bind_eq g1 rfl)
          refine iter_late (fun i s => ∃ d' : Mem, s = (J (-4), J (i : Int), mkH d') ∧ (∀ x k, ¬ (x = 185 ∧ RGN a b k) → ¬ (x = 183 ∧ k ≠ 10) → d' x k = D1 x k) ∧ (vw d' 185 a, vw d' 185 b) = S (i - 1) ∧ MR d' z a b rm ∧ maS d' a l = maS d a l ∧ maS d' b l = maS d b l) (fun i s => ∃ d' : Mem, s = (J (i : Int), J ((i : Int) + 1), mkH d') ∧ (∀ x k, ¬ (x = 185 ∧ RGN a b k) → ¬ (x = 183 ∧ k ≠ 10) → d' x k = D1 x k)) C N (fun (o : Option Nat) (e : Int32 × Hp) => ∃ d' : Mem, (∀ x k, ¬ (x = 185 ∧ RGN a b k) → ¬ (x = 183 ∧ k ≠ 10) → d' x k = D1 x k) ∧ e = (J (optI o (fun t => (t : Int)) (-4)), mkH d')) (by omega) ⟨D1, rfl, fun _ _ _ _ => rfl, by rw [va, vb]; exact hS0.symm, MR1, ma l, mb l⟩ ?_ ?_ ?_ ?_
          · rintro i s hi ⟨d', rfl, h1, h2, h3, h4, h5⟩ hct
            obtain ⟨d'', ⟨w1, w2, w3, w4, w5, w6⟩ | hb⟩ := wearM i d' h2 h3 h4 h5
            · obtain ⟨E, g1, g2⟩ := askM i d'' (fun x k k1 k2 => (w2 x k k1).trans (h1 x k k1 k2)) w4 w3
              rw [hct, B_f (by decide)] at g1
              have gE : E 185 = d'' 185 := funext fun k => g2 185 k (by omega)
              obtain ⟨MRE, va', vb', ma', mb'⟩ := MR_row gE w4
              refine ⟨(J (-4), J ((i + 1 : Nat) : Int), mkH E), ?_, E, rfl, fun x k k1 k2 => (g2 x k k2).trans ((w2 x k k1).trans (h1 x k k1 k2)), by rw [va', vb']; exact w3, MRE, by rw [ma', w5], by rw [mb', w6]⟩
              unfold b_X12_watch_41
              rw [if_neg (by rw [J_lt (by omega) (by omega) (by omega) (by omega)]; omega), if_neg (by rw [J_zero, J_le (by omega) (by omega) (by omega) (by omega)]; omega)]
              refine bind_eq w1 (bind_eq (z183_0 d'') (bind_eq g1 (bind_eq (a := J (-4)) (by rfl) (bind_eq rfl ?_))))
              rw [J_add]
              rfl
            · omega
          · rintro i s hi ⟨d', rfl, h1, h2, h3, h4, h5⟩ hct
            obtain ⟨d'', ⟨w1, w2, w3, w4, w5, w6⟩ | hb⟩ := wearM i d' h2 h3 h4 h5
            · obtain ⟨E, g1, g2⟩ := askM i d'' (fun x k k1 k2 => (w2 x k k1).trans (h1 x k k1 k2)) w4 w3
              rw [hct, B_t (by decide)] at g1
              refine ⟨(J (i : Int), J ((i : Int) + 1), mkH E), ?_, E, rfl, fun x k k1 k2 => (g2 x k k2).trans ((w2 x k k1).trans (h1 x k k1 k2))⟩
              unfold b_X12_watch_41
              rw [if_neg (by rw [J_lt (by omega) (by omega) (by omega) (by omega)]; omega), if_neg (by rw [J_zero, J_le (by omega) (by omega) (by omega) (by omega)]; omega)]
              refine bind_eq w1 (bind_eq (z183_0 d'') (bind_eq g1 (bind_eq (a := J (i : Int)) (by rw [if_neg n1]) (bind_eq rfl ?_))))
              rw [J_add]
            · omega
          · rintro i s hi ⟨d', rfl, h1⟩
            refine ⟨(J (i : Int), mkH d'), ?_, d', h1, rfl⟩
            unfold b_X12_watch_41
            by_cases e200 : (200 : Int) < (i : Int) + 1
            · rw [if_pos (by rw [J_lt (by omega) (by omega) (by omega) (by omega)]; omega)]
            · rw [if_neg (by rw [J_lt (by omega) (by omega) (by omega) (by omega)]; omega), if_pos (by rw [J_zero, J_le (by omega) (by omega) (by omega) (by omega)]; omega)]
          · rintro s ⟨d', rfl, h1, -⟩
            refine ⟨(J (-4), mkH d'), ?_, d', h1, rfl⟩
            unfold b_X12_watch_41
            rw [if_pos (by rw [J_lt (by omega) (by omega) (by omega) (by omega)]; omega)]
        obtain ⟨e', M2, D2, h1, he'⟩ := M1
        subst he'
        have bk := m_back (d := D2)
        have fin : ∀ k, fl D2 185 0 228 (D2 187) 185 k = d 185 k := back_eq a0 a2 b0 b2 (fun k k0 k1 => by rw [h1 187 k (fun e => absurd e.1 (by decide)) (by omega), f187 k k0 k1]) (fun k hk => by rw [h1 185 k (fun e => hk e.2) (by omega), f185])
        have I2 : INV (fl D2 185 0 228 (D2 187)) := INV_fr I (fun x k sc => by
          by_cases x185 : x = 185
          · subst x185
            exact fin k
          · rw [fl_na x185, h1 x k (fun e => x185 e.1) (fun e => sc (by unfold Sc; omega)), hD1, fl_na (fun e => sc (by unfold Sc; omega)), h0 x (by
              by_cases h : x < 125 ∨ 147 ≤ x
              · exact h
              · exact absurd (by unfold Sc; omega) sc)])
        refine ⟨J (optI (srch C N) (fun t => (t : Int)) (-4)), D, _, ?_, ?_, I2⟩
        · refine bind_eq (z0_0 d) (bind_eq e0 ?_)
          rw [if_neg n1]
          refine bind_eq (z0_0 d) (bind_eq e1 ?_)
          rw [if_neg n1]
          refine bind_eq e5 ?_
          rw [if_neg n1]
          refine bind_eq (z0_0 d) (bind_eq qr (bind_eq rfl (bind_eq L2 ?_)))
          rw [he]
          cases srch C N with
          | some t => rfl
          | none => rfl
        · refine bind_eq (z183_0 D) (bind_eq e7 ?_)
          rw [if_neg n1]
          refine bind_eq (z183_0 D) (bind_eq e4 ?_)
          rw [if_neg n1]
          refine bind_eq e6 ?_
          rw [if_neg n1]
          exact bind_eq (z183_0 D) (bind_eq sv (bind_eq rfl (bind_eq rfl (bind_eq M2 (bind_eq (z183_0 D2) (bind_eq bk rfl))))))
      · rw [B_f c3] at e5 e6
        refine ⟨J (-1), d, d, ?_, ?_, I⟩
        · refine bind_eq (z0_0 d) (bind_eq e0 ?_)
          rw [if_neg n1]
          refine bind_eq (z0_0 d) (bind_eq e1 ?_)
          rw [if_neg n1]
          exact bind_eq e5 rfl
        · refine bind_eq (z183_0 d) (bind_eq e3 ?_)
          rw [if_neg n1]
          refine bind_eq (z183_0 d) (bind_eq e2 ?_)
          rw [if_neg n1]
          exact bind_eq e6 rfl
    · rw [B_f c] at e1 e2
      refine ⟨J (-1), d, d, ?_, ?_, I⟩
      · refine bind_eq (z0_0 d) (bind_eq e0 ?_)
        rw [if_neg n1]
        exact bind_eq (z0_0 d) (bind_eq e1 rfl)
      · refine bind_eq (z183_0 d) (bind_eq e3 ?_)
        rw [if_neg n1]
        exact bind_eq (z183_0 d) (bind_eq e2 rfl)
  · rw [B_f cq] at e0 e3
    exact ⟨J (-1), d, d, bind_eq (z0_0 d) (bind_eq e0 rfl), bind_eq (z183_0 d) (bind_eq e3 rfl), I⟩
end
