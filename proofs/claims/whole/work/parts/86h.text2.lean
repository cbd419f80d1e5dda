/-! text agrees -/
section
variable {d : Mem} {tx : Int → Int} {n : Int}
theorem tx_le : ∀ (K : Nat) (p : Int), 0 ≤ p → p ≤ n → TX (chS tx n) n K p → (K : Int) ≤ n - p
  | 0, p, p0, p1, T => by omega
  | K + 1, p, p0, p1, T => by
    obtain ⟨T1, T2, T3⟩ := T
    obtain ⟨g1, g2, g3⟩ := st_rng (tx := tx) (n := n) (p := p) (f := zf) p0 p1
    obtain ⟨l1, l2, -⟩ := g3 T2
    have := tx_le K _ (by omega) g2 T3
    omega
theorem m_copy (D : Mem) {N : Nat} (hN : N = 1744) : iter (b_X12_text_47 183) FU (J 0, mkH D) = some (mkH (fl D 187 0 N (D 185))) := by
  refine iter_at (fun k => (J (k : Int), mkH (fl D 187 0 k (D 185)))) N (by simp only [cs0, fl_0]) (by omega) (fun k hk => ?_) ?_
  · unfold b_X12_text_47
    rw [if_neg (by rw [J_le (by omega) (by omega) (by omega) (by omega)]; omega)]
    refine bind_eq (z183_4 _) (bind_eq (z183_2 _) (bind_eq (aI185 _ (by omega) (by omega)) (bind_eq (q_sI (len := 1744) rfl (by decide) (by omega) (by omega)) (bind_eq rfl ?_))))
    rw [J_add, fl_na (by decide)]
    exact congrArg (fun z => some (Sum.inl (J ((k : Int) + 1), mkH z))) (fl_up (by omega) (by omega) rfl)
  · unfold b_X12_text_47
    rw [if_pos (by rw [J_le (by omega) (by omega) (by omega) (by omega)]; omega)]
theorem m_undo (D : Mem) {N : Nat} (hN : N = 1744) (p4 : Int32) : iter (b_X12_text_156 183 p4) FU (J 0, mkH D) = some (mkH (fl D 185 0 N (D 187))) := by
  refine iter_at (fun k => (J (k : Int), mkH (fl D 185 0 k (D 187)))) N (by simp only [cs0, fl_0]) (by omega) (fun k hk => ?_) ?_
  · unfold b_X12_text_156
    rw [if_neg (by rw [J_le (by omega) (by omega) (by omega) (by omega)]; omega)]
    refine bind_eq (z183_2 _) (bind_eq (z183_4 _) (bind_eq (q_aI (len := 1744) rfl (by decide) (by omega) (by omega)) (bind_eq (sI185 _ (by omega) (by omega)) (bind_eq rfl ?_))))
    rw [J_add, fl_na (by decide)]
    exact congrArg (fun z => some (Sum.inl (J ((k : Int) + 1), mkH z))) (fl_up (by omega) (by omega) rfl)
  · unfold b_X12_text_156
    rw [if_pos (by rw [J_le (by omega) (by omega) (by omega) (by omega)]; omega)]
/-- the reference's text, by what its reader says -/
theorem m_text {i : Int} (i0 : 0 ≤ i) (i1 : i < 8) (hw : f_X12_wrongRow (mkH d) 183 (J i) (J 0) = some (J 0)) (hn : d 190 i = n) (n0 : 0 ≤ n) (n1 : n ≤ 120) (ht : ∀ k, 0 ≤ k → k < n → d 191 (120 * i + k) = tx k ∧ -128 ≤ tx k ∧ tx k ≤ 127) (P : PW (d 185)) : ((txS (chS tx n) n 130 0).2.1 = false → ∃ D, f_X12_text (mkH d) 183 (J i) = some (J (-1000 - (txS (chS tx n) n 130 0).1), mkH D) ∧ ∀ x k, x ≠ 194 → ¬ (x = 183 ∧ k ≠ 10) → D x k = d x k) ∧ ((txS (chS tx n) n 130 0).2.1 = true → match rnT (chS tx n) (txS (chS tx n) n 130 0).2.2 0 (d 185) with
    | .inl q => ∃ D, f_X12_text (mkH d) 183 (J i) = some (J (-2000 - q), mkH D) ∧ ∀ x k, x ≠ 194 → x ≠ 187 → ¬ (x = 183 ∧ k ≠ 10) → D x k = d x k
    | .inr w => ∃ D, f_X12_text (mkH d) 183 (J i) = some (J ((txS (chS tx n) n 130 0).2.2 : Int), mkH D) ∧ D 185 = w ∧ ∀ x k, x ≠ 194 → x ≠ 187 → x ≠ 185 → ¬ (x = 183 ∧ k ≠ 10) → D x k = d x k) := by
  obtain ⟨M0, hM0⟩ : ∃ M0, M0 = mo d (191 : Nat) (120 * i) n := ⟨_, rfl⟩
  have MM : MD M0 191 (120 * i) tx n := by
    rw [hM0]
    exact mo_MD n0 n1 (by decide) ⟨960, rfl, by omega, by omega, by decide⟩ ht
  have f0 : ∀ x k, ¬ (x = 183 ∧ k ≠ 10) → M0 x k = d x k := fun x k h => by rw [hM0]; exact mo_na (by omega)
  have q1 : f_X12_opens (mkH d) 183 (J i) = some (mkH (ms M0 0 (M0 183 25))) := by
    have a : ∀ D : Mem, aI (mkH D) 190 (J i) = some (J (D 190 i)) := fun D => q_aI (len := 8) rfl (by decide) i0 (by omega)
    have e : up (up d 183 16 ((191 : Nat) : Int)) 183 13 (120 * i) 190 i = n := by rw [up_na (by decide), up_na (by decide), hn]
    rw [← ms_12, hM0]
    simp (disch := first | omega | assumption | decide) only [f_X12_opens, a, e, z183_0, z183_1, z183_2, z183_3, z183_4, z183_5, z183_6, z183_7, z183_8, z183_9, z183_10, z183_11, z183_12, z183_13, z183_14, z183_15, z183_16, z183_17, z183_18, z183_19, z183_20, z183_21, z183_22, z183_23, z183_24, z183_25, z183_26, z183_27, z183_28, z183_29, z183_30, z183_31, z183_32, z183_33, z183_34, z183_35, z183_36, z183_37, z183_38, z183_39, z183_40, z183_41, z183_42, z184_0, z184_1, z185_0, z185_1, z186_0, z186_1, z187_0, z187_1, z188_0, z188_1, z189_0, z189_1, z190_0, z190_1, z191_0, z191_1, z192_0, z192_1, z193_0, z193_1, z194_0, z194_1, z195_0, z195_1, z196_0, z196_1, z197_0, z197_1, z198_0, z198_1, z198_2, z199_0, z199_1, z200_0, z200_1, z201_0, z201_1, z202_0, z202_1, SN0, SN1, SN2, SN3, SN4, SN5, SN6, SN7, SN8, SN9, SN10, SN11, SN12, SN13, SN14, SN15, SN16, SN17, SN18, SJ0, SJ1, SJ2, SJ3, SJ4, SJ5, bindS, if_pos, if_neg, w_isWithin, w_isIn, JB_0, JB_1, bz_B, ite10, ite01, Int.natCast_add, csN0, csN1, csN16, Int.toNat_natCast, ite_not, not_true_eq_false, not_false_eq_true]
    rfl
  obtain ⟨E1, s1, s2⟩ := m_pass (s := M0 183 25) 130 FU M0 0 (by omega) (by decide) MM (by decide) n0
  have TXl := tx_TX (tx := tx) (n := n) 130 0 (by decide) n0
  generalize txS (chS tx n) n 130 0 = X at *
  have pre : f_X12_text (mkH d) 183 (J i) = ((iter (b_X12_text_18 183) FU (mkH (ms M0 0 (M0 183 25)))).bind fun e5 =>
    (match e5 with
    | .inl e6 =>
      (gI e6 183 11 12).bind fun x7 =>
      some (((J (-1000)) - x7), e6)
    | .inr e8 =>
      (some (J 0)).bind fun x9 =>
      (iter (b_X12_text_47 183) FU (x9, e8)).bind fun e10 =>
      (pF e10 183 11 12 (.int (J 0))).bind fun h11 =>
      (some (J 0)).bind fun x12 =>
      (iter (b_X12_text_79 183) FU (x12, h11)).bind fun e13 =>
      (match e13 with
      | .inl e14 =>
        some (e14.1, e14.2)
      | .inr e15 =>
        (some (J 0)).bind fun x16 =>
        (iter (b_X12_text_156 183 e15.1) FU (x16, e15.2)).bind fun e17 =>
        some (((J (-2000)) - e15.1), e17)))) := by
    unfold f_X12_text
    refine bind_eq (isO183 _) (bind_eq hw ?_)
    rw [if_pos (by rfl)]
    exact bind_eq (isO183 _) (bind_eq q1 rfl)
  rw [pre]
  have frE : ∀ P1 x k, x ≠ 194 → ¬ (x = 183 ∧ k ≠ 10) → ms E1 P1 (M0 183 25) x k = d x k := fun P1 x k h1 h2 => by
    rw [ms_nn (by omega), s2 x k h1 (by omega), f0 x k h2]
  refine ⟨fun ok => ?_, fun ok => ?_⟩
  · rw [if_neg (by rw [ok]; exact nFT)] at s1
    refine ⟨_, bind_eq s1 (bind_eq (g12 _ _ _) ?_), fun x k h1 h2 => frE X.1 x k h1 h2⟩
    rw [J_sub]
  · rw [if_pos ok] at s1
    have T := TXl ok
    have Kl := tx_le X.2.2 0 (by decide) n0 T
    obtain ⟨N, hN⟩ : ∃ N : Nat, N = 1744 := ⟨_, rfl⟩
    obtain ⟨G, hG⟩ : ∃ G, G = ms E1 X.1 (M0 183 25) := ⟨_, rfl⟩
    rw [← hG] at s1
    have GD : ∀ x k, x ≠ 194 → ¬ (x = 183 ∧ k ≠ 10) → G x k = d x k := fun x k h1 h2 => by rw [hG]; exact frE X.1 x k h1 h2
    have c := m_copy G hN
    obtain ⟨H, hH⟩ : ∃ H, H = fl G 187 0 N (G 185) := ⟨_, rfl⟩
    rw [← hH] at c
    have Hx : ∀ x, x ≠ 187 → H x = G x := fun x h => by rw [hH, fl_row h]
    have H185 : H 185 = d 185 := by rw [Hx 185 (by decide)]; exact funext fun k => GD 185 k (by decide) (by omega)
    have H187 : ∀ k, 0 ≤ k → k < 1744 → H 187 k = d 185 k := fun k k0 k1 => by
      rw [hH, fl_in k0 (by omega)]
      exact GD 185 k (by decide) (by omega)
    have p12' : pF (mkH H) 183 11 12 (.int (J 0)) = some (mkH (ms H 0 (H 183 25))) := by
      rw [← ms_12]
      exact q_pI rfl rfl
    have MH : MD H 191 (120 * i) tx n := by
      have h : ∀ x k, x ≠ 194 → x ≠ 187 → ¬ (x = 183 ∧ (k = 12 ∨ k = 15 ∨ k = 25)) → H x k = M0 x k := fun x k h1 h2 h3 => by
        rw [Hx x h2, hG, ms_nn (by omega)]
        exact s2 x k h1 (by omega)
      obtain ⟨r0, r1, r2, r3, r4, r5, r6, r7⟩ := MM
      exact ⟨by rw [h _ _ (by decide) (by decide) (by omega)]; exact r0, by rw [h _ _ (by decide) (by decide) (by omega)]; exact r1, by rw [h _ _ (by decide) (by decide) (by omega)]; exact r2, r3, r4, r5, r6, fun k h0 h1 => by rw [h 191 _ (by decide) (by decide) (by omega)]; exact r7 k h0 h1⟩
    obtain ⟨D', q2, q3, q4⟩ := m_run (o := 120 * i) (s := H 183 25) X.2.2 0 FU H 0 T (by unfold FU; omega) MH (by rw [H185]; exact P) (by decide) n0
    rw [H185] at q4
    cases hr : rnT (chS tx n) X.2.2 0 (d 185) with
    | inr w =>
      rw [hr] at q4
      obtain ⟨q5, q6⟩ := q4
      refine ⟨D', ?_, q6, fun x k h1 h2 h3 h4 => by rw [q2 x k h3 h1 h4, Hx x h2, GD x k h1 h4]⟩
      refine bind_eq s1 (bind_eq rfl (bind_eq c (bind_eq p12' (bind_eq rfl (bind_eq q5 ?_)))))
      rw [Nat.zero_add]
    | inl q =>
      rw [hr] at q4
      have u := m_undo D' hN (J q)
      refine ⟨fl D' 185 0 N (D' 187), ?_, fun x k h1 h2 h4 => ?_⟩
      · refine bind_eq s1 (bind_eq rfl (bind_eq c (bind_eq p12' (bind_eq rfl (bind_eq q4 (bind_eq rfl (bind_eq u ?_)))))))
        rw [J_sub]
      · by_cases e : x = 185
        · subst e
          by_cases ck : 0 ≤ k ∧ k < 1744
          · rw [fl_in ck.1 (by omega), q2 187 k (by decide) (by decide) (by omega), H187 k ck.1 ck.2]
          · rw [fl_out (by omega), q3 k (by omega), H185]
        · rw [fl_na e, q2 x k e h1 h4, Hx x h2, GD x k h1 h4]
theorem ag_text (I : INV d) (x : Int32) : ∃ r d1 d2, f_X11_text (mkH d) 0 x = some (r, mkH d1) ∧ f_X12_text (mkH d1) 183 x = some (r, mkH d2) ∧ INV d2 := by
  obtain ⟨i, z1, z2, rfl⟩ := J_of x
  have e1 := c_isShelf z1 z2
  by_cases c : 0 ≤ i ∧ i ≤ 7
  · rw [B_t c] at e1
    obtain ⟨c1, c2⟩ := c
    have c3 : i < 8 := by omega
    have hS := isS_A c1 c3
    have sl := sA_le c1 c3
    obtain ⟨s1, s2, s3, s4, s5, s6, s7, s8, s9, s10, s11⟩ := I.2.2.2.2.1 i c1 c3
    have g := c_bytesR (d := d) hS (by omega) (by omega) (by omega) (by omega)
    have w := m_wrongRow (d := d) c1 c3 s4 s5 s6 s7 (f := 0) (by decide) (by decide)
    rw [s1, s2] at g
    unfold wrS2 at w
    have aS := z124_0 d i c1 c3
    have bad : ∀ v : Int, v ≠ 0 → -100 ≤ v → v ≤ 0 → f_X8_bytesRefusal (mkH d) (sA i) = some (J v) → f_X12_wrongRow (mkH d) 183 (J i) (J 0) = some (J v) → ∃ r d1 d2, f_X11_text (mkH d) 0 (J i) = some (r, mkH d1) ∧ f_X12_text (mkH d1) 183 (J i) = some (r, mkH d2) ∧ INV d2 := fun v v0 v1 v2 h1 h2 => by
      have nv : ¬ (J v = 0) := by
        rw [J_zero, J_eq (by omega) (by omega) (by omega) (by omega)]
        exact v0
      refine ⟨J v, d, d, ?_, ?_, I⟩
      · unfold f_X11_text
        refine bind_eq e1 ?_
        rw [if_neg n1J]
        refine bind_eq (z0_10 d) (bind_eq aS (bind_eq (SS0 d _ hS) (bind_eq h1 ?_)))
        rw [if_neg nv]
      · unfold f_X12_text
        refine bind_eq (isO183 _) (bind_eq h2 ?_)
        rw [if_neg nv]
    by_cases k0 : d 188 i = 0
    · rw [if_pos k0] at g w
      exact bad _ (by decide) (by decide) (by decide) g w
    · rw [if_neg k0] at g w
      by_cases k2 : d 188 i = 2
      · rw [if_pos k2, if_neg (by decide)] at w
        by_cases k3 : d 189 i = 0
        · rw [if_pos k3] at w
          rw [if_pos ⟨k2, k3⟩] at g
          obtain ⟨n, hn⟩ : ∃ n, n = d 190 i := ⟨_, rfl⟩
          rw [← hn] at s3 s8 s9
          obtain ⟨tx, htx⟩ : ∃ tx : Int → Int, tx = fun k => d 191 (120 * i + k) := ⟨_, rfl⟩
          have ht : ∀ k, 0 ≤ k → k < n → d 191 (120 * i + k) = tx k ∧ -128 ≤ tx k ∧ tx k ≤ 127 := fun k h0 h1 => by
            rw [htx]
            exact ⟨rfl, (s10 k h0 (by omega)).2.2.2 k3⟩
          have hb : ∀ k, 0 ≤ k → k < n → d (sA i + 3) k = tx k ∧ -128 ≤ tx k ∧ tx k ≤ 127 := fun k h0 h1 => ⟨by rw [(s10 k h0 (by omega)).1]; exact (ht k h0 h1).1, (ht k h0 h1).2⟩
          obtain ⟨P, L, RR, -, -, -⟩ := id I
          have gh : ∀ D : Mem, (∀ x, 1 ≤ x → x ≤ 29 → D x = d x) → D 500 = d 185 → PL D 1 3 4 5 500 := fun D h1 h2 => by
            have e : PL (fun x => if x = 185 then d 185 else D x) 1 3 4 5 185 := PL_rows (d := d) (by show (if (1 : Nat) = 185 then d 185 else D 1) = d 1; rw [if_neg (by decide)]; exact h1 1 (by decide) (by decide)) (by show (if (3 : Nat) = 185 then d 185 else D 3) = d 3; rw [if_neg (by decide)]; exact h1 3 (by decide) (by decide)) (by show (if (4 : Nat) = 185 then d 185 else D 4) = d 4; rw [if_neg (by decide)]; exact h1 4 (by decide) (by decide)) (by show (if (5 : Nat) = 185 then d 185 else D 5) = d 5; rw [if_neg (by decide)]; exact h1 5 (by decide) (by decide)) (if_pos rfl) (fun j j0 j1 => by
              have gl := gA_le (p := 1) j0 j1
              refine ⟨?_, ?_⟩
              · show (if gA 1 j = 185 then d 185 else D (gA 1 j)) = d (gA 1 j)
                rw [if_neg (by omega)]
                exact h1 _ (by omega) (by omega)
              · show (if gA 1 j + 1 = 185 then d 185 else D (gA 1 j + 1)) = d (gA 1 j + 1)
                rw [if_neg (by omega)]
                exact h1 _ (by omega) (by omega)) P
            have e2 : PL (fun x => if x = 185 then d 185 else D x) 1 3 4 5 500 := PL_r (r := 185) (r' := 500) (fun k _ _ => by
              show (if (500 : Nat) = 185 then d 185 else D 500) k = (if (185 : Nat) = 185 then d 185 else D 185) k
              rw [if_neg (by decide), if_pos rfl, h2]) e
            refine PL_rows ?_ ?_ ?_ ?_ ?_ (fun j j0 j1 => ?_) e2
            · exact (if_neg (by decide)).symm
            · exact (if_neg (by decide)).symm
            · exact (if_neg (by decide)).symm
            · exact (if_neg (by decide)).symm
            · exact (if_neg (by decide)).symm
            · have gl := gA_le (p := 1) j0 j1
              exact ⟨(if_neg (by omega)).symm, (if_neg (by omega)).symm⟩
          have PWd : PW (d 185) := by
            obtain ⟨G1, -, P1, x1⟩ := c_plantTake (d := fun x => if x = 500 then d 185 else d x) (p := 30) (p' := 1) (r := 500) isP_30 isP_1 (by omega) (by omega) (gh _ (fun x h1 h2 => if_neg (by omega)) (if_pos rfl))
            exact ⟨G1, P1, by rw [x1 500 (by omega)]; exact if_pos rfl⟩
          -- the class counts
          obtain ⟨E0, hE0⟩ : ∃ E0, E0 = up (up d 125 0 ((sA i + 3 : Nat) : Int)) 125 1 n := ⟨_, rfl⟩
          have so := t_startOn (d := d) (m := n) hS.2 s8 s9
          rw [← hE0] at so
          have E0x : ∀ x, x ≠ 125 → E0 x = d x := fun x h => by rw [hE0, up_row h, up_row h]
          have R0 : RT E0 (sA i + 3) tx n := ⟨by rw [hE0, up_nk (by decide), up_same], by rw [hE0, up_same], s8, s9, hS.2, fun k h0 h1 => by rw [E0x _ (by omega)]; exact hb k h0 h1⟩
          obtain ⟨E1, p1, f1⟩ := t_pass 130 FU E0 0 0 (by omega) (by decide) R0 (by decide) (by decide) s8
          have TXl := tx_TX (tx := tx) (n := n) 130 0 (by decide) s8
          have mt : ∀ D : Mem, (∀ x, x = 185 ∨ 188 ≤ x ∧ x ≤ 191 → D x = d x) → _ := fun D fD => m_text (d := D) (tx := tx) (n := n) c1 c3 (by
            have h := m_wrongRow (d := D) c1 c3 (by rw [fD 188 (by omega)]; exact s4) (by rw [fD 188 (by omega)]; exact s5) (by rw [fD 189 (by omega)]; exact s6) (by rw [fD 189 (by omega)]; exact s7) (f := 0) (by decide) (by decide)
            unfold wrS2 at h
            rw [fD 188 (by omega), fD 189 (by omega), if_neg k0, if_pos k2, if_neg (by decide), if_pos k3] at h
            exact h) (by rw [fD 190 (by omega)]; exact hn.symm) s8 s9 (fun k h0 h1 => by rw [fD 191 (by omega)]; exact ht k h0 h1) (by rw [fD 185 (by omega)]; exact PWd)
          generalize txS (chS tx n) n 130 0 = X at *
          rw [Int.zero_add] at p1
          obtain ⟨H1, hH1⟩ : ∃ H1, H1 = ts E1 X.1 (if X.2.1 = true then 0 else 1) := ⟨_, rfl⟩
          rw [← hH1] at p1
          have H1x : ∀ x, x ≠ 125 → x ≠ 127 → H1 x = d x := fun x h1 h2 => by
            rw [← E0x x h1, hH1]
            exact funext fun k => (ts_na h1).trans (f1 x k h2 (fun e => h1 e.1))
          have cs : f_X9_countStatements (mkH d) 125 (sA i + 3) (J n) = some (J (X.2.2 : Int), mkH H1) := bind_eq (z125_0 d) (bind_eq so (bind_eq rfl (bind_eq p1 rfl)))
          have preC : ∀ {Y : Option (Int32 × Hp)}, ((gR (mkH H1) 0 10 9).bind fun x11 =>
      (gI (mkH H1) x11 8 3).bind fun x12 =>
      (if x12 = 0 then
        (gR (mkH H1) 0 10 1).bind fun x13 =>
        (gR (mkH H1) 0 10 0).bind fun x14 =>
        (isO (mkH H1) x13 3).bind fun u15 =>
        (f_X3_takeFrom (mkH H1) x13 x14).bind fun r16 =>
        (gR r16 0 10 9).bind fun x17 =>
        (gR r16 (sA i) 7 4).bind fun x18 =>
        (gI r16 (sA i) 7 3).bind fun x19 =>
        (isO r16 x17 8).bind fun u20 =>
        (f_X4_startOn_8 r16 x17 x18 x19).bind fun r21 =>
        (some (J 0)).bind fun x22 =>
        (iter (b_X11_text_95 0 (J (X.2.2 : Int))) FU (x22, r21)).bind fun e23 =>
        (match e23 with
        | .inl e24 =>
          (gR e24 0 10 0).bind fun x25 =>
          (gR e24 0 10 1).bind fun x26 =>
          (isO e24 x25 3).bind fun u27 =>
          (f_X3_takeFrom e24 x25 x26).bind fun r28 =>
          some (J (X.2.2 : Int), r28)
        | .inr e29 =>
          (gR e29 0 10 9).bind fun x30 =>
          (gI e29 x30 8 5).bind fun x31 =>
          some (((J (-2000)) - x31), e29))
      else
        (gR (mkH H1) 0 10 9).bind fun x32 =>
        (gI (mkH H1) x32 8 2).bind fun x33 =>
        some (((J (-1000)) - x33), mkH H1))) = Y → f_X11_text (mkH d) 0 (J i) = Y := by
            intro Y hY
            unfold f_X11_text
            refine bind_eq e1 ?_
            rw [if_neg n1J]
            refine bind_eq (z0_10 d) (bind_eq aS (bind_eq (SS0 d _ hS) (bind_eq g ?_)))
            rw [if_pos (by rfl)]
            refine bind_eq (z0_11 d) (bind_eq (SS5 d _ hS) (bind_eq (SS4 d _ hS) ?_))
            rw [s3]
            exact bind_eq (z125_0 d) (bind_eq cs hY)
          by_cases ok : X.2.1 = true
          · rw [if_pos ok] at hH1
            have T := TXl ok
            have Kl := tx_le X.2.2 0 (by decide) s8 T
            have h3 : H1 125 3 = 0 := by rw [hH1]; exact ts_st _ _ _
            obtain ⟨G, hG⟩ : ∃ G : Mem, G = fun x => if x = 500 then d 185 else H1 x := ⟨_, rfl⟩
            have Gx : ∀ x, x ≠ 500 → G x = H1 x := fun x h => by rw [hG]; exact if_neg h
            have G500 : G 500 = d 185 := by rw [hG]; exact if_pos rfl
            have gm : mkH G = mkH H1 := mkH_gh Gx
            obtain ⟨G1, t1, P1, x1⟩ := c_plantTake (d := G) (p := 30) (p' := 1) (r := 500) isP_30 isP_1 (by omega) (by omega) (gh G (fun x h1 h2 => by rw [Gx x (by omega), H1x x (by omega) (by omega)]) G500)
            rw [gm] at t1
            have G1x : ∀ x, (x < 30 ∨ 58 < x) → x ≠ 500 → x ≠ 125 → x ≠ 127 → G1 x = d x := fun x h1 h2 h3 h4 => by rw [x1 x h1, Gx x h2, H1x x h3 h4]
            have so2 := t_startOn (d := G1) (m := n) hS.2 s8 s9
            obtain ⟨E2, hE2⟩ : ∃ E2, E2 = up (up G1 125 0 ((sA i + 3 : Nat) : Int)) 125 1 n := ⟨_, rfl⟩
            rw [← hE2] at so2
            have E2x : ∀ x, x ≠ 125 → E2 x = G1 x := fun x h => by rw [hE2, up_row h, up_row h]
            have R2 : RT E2 (sA i + 3) tx n := ⟨by rw [hE2, up_nk (by decide), up_same], by rw [hE2, up_same], s8, s9, hS.2, fun k h0 h1 => by rw [E2x _ (by omega), G1x _ (by omega) (by omega) (by omega) (by omega)]; exact hb k h0 h1⟩
            have P2 : PL E2 30 32 33 34 500 := PL_same (d := G1) (fun x h _ => E2x x h) (by decide) (by decide) (by decide) (by decide) (by decide) P1
            have E500 : E2 500 = d 185 := by rw [E2x 500 (by decide), x1 500 (by omega), G500]
            obtain ⟨E', q1, q2⟩ := t_run (b := sA i + 3) ⟨by omega, by omega⟩ X.2.2 0 FU E2 0 T (by unfold FU; omega) (by omega) R2 P2 (by decide) s8
            rw [E500] at q2
            have E'x : ∀ x, (x < 30 ∨ 58 < x) → x ≠ 500 → x ≠ 125 → x ≠ 127 → E' x = d x := fun x h1 h2 h3 h4 => by rw [q1 x h1 h3 h4 h2, E2x x h3, G1x x h1 h2 h3 h4]
            have j0 : J ((0 + X.2.2 : Nat) : Int) = J (X.2.2 : Int) := by rw [Nat.zero_add]
            rw [j0] at q2
            have cz : J ((0 : Nat) : Int) = J 0 := rfl
            rw [cz] at q2
            have via : ∀ {Y : Option (Int32 × Hp)}, ((iter (b_X11_text_95 0 (J (X.2.2 : Int))) FU (J 0, mkH (ts E2 0 0))).bind fun e23 =>
        (match e23 with
        | .inl e24 =>
          (gR e24 0 10 0).bind fun x25 =>
          (gR e24 0 10 1).bind fun x26 =>
          (isO e24 x25 3).bind fun u27 =>
          (f_X3_takeFrom e24 x25 x26).bind fun r28 =>
          some (J (X.2.2 : Int), r28)
        | .inr e29 =>
          (gR e29 0 10 9).bind fun x30 =>
          (gI e29 x30 8 5).bind fun x31 =>
          some (((J (-2000)) - x31), e29))) = Y → f_X11_text (mkH d) 0 (J i) = Y := by
              intro Y hY
              refine preC (bind_eq (z0_11 H1) (bind_eq (z125_7 H1) ?_))
              rw [h3, if_pos (by rfl)]
              refine bind_eq (z0_2 H1) (bind_eq (z0_1 H1) (bind_eq (z30_0 H1) (bind_eq t1 (bind_eq (z0_11 G1) (bind_eq (SS5 G1 _ hS) (bind_eq (SS4 G1 _ hS) ?_))))))
              rw [G1x (sA i) (by omega) (by omega) (by omega) (by omega), s3]
              exact bind_eq (z125_0 G1) (bind_eq so2 (bind_eq rfl hY))
            cases hr : rnT (chS tx n) X.2.2 0 (d 185) with
            | inl q =>
              rw [hr] at q2
              obtain ⟨q3, q4⟩ := q2
              have mm := (mt E' (fun x h => E'x x (by omega) (by omega) (by omega) (by omega))).2 ok
              rw [E'x 185 (by omega) (by decide) (by decide) (by decide), hr] at mm
              obtain ⟨D, m1, m2⟩ := mm
              refine ⟨J (-2000 - q), E', D, via (bind_eq q3 (bind_eq (z0_11 E') (bind_eq (z125_11 E') ?_))), m1, INV_fr I (fun a k h => ?_)⟩
              · rw [q4, J_sub]
              · rw [m2 a k (fun e => h (by unfold Sc; omega)) (fun e => h (by unfold Sc; omega)) (fun e => h (by unfold Sc; omega))]
                have ha : (a < 30 ∨ 58 < a) ∧ a ≠ 500 ∧ a ≠ 125 ∧ a ≠ 127 := by
                  by_cases hh : (a < 30 ∨ 58 < a) ∧ a ≠ 500 ∧ a ≠ 125 ∧ a ≠ 127
                  · exact hh
                  · exact absurd (by unfold Sc; omega) h
                rw [E'x a ha.1 ha.2.1 ha.2.2.1 ha.2.2.2]
            | inr w' =>
              rw [hr] at q2
              obtain ⟨q3, q4, q5⟩ := q2
              obtain ⟨F, t2, P3, x3⟩ := c_plantTake (d := E') (p := 1) (p' := 30) (r := 500) isP_1 isP_30 (by omega) (by omega) q4
              have F500 : F 500 = w' := by rw [x3 500 (by omega), q5]
              have Fx : ∀ x, x = 0 ∨ 58 < x → x ≠ 500 → x ≠ 125 → x ≠ 127 → F x = d x := fun x h1 h2 h3 h4 => by rw [x3 x (by omega), E'x x (by omega) h2 h3 h4]
              have mm := (mt F (fun x h => Fx x (by omega) (by omega) (by omega) (by omega))).2 ok
              rw [Fx 185 (by omega) (by decide) (by decide) (by decide), hr] at mm
              obtain ⟨D, m1, m2, m3⟩ := mm
              have keep := rn_keep X.2.2 0 (d 185) PWd (by decide) s8 T w' hr
              have Dx : ∀ x, x < 183 → D x = F x := fun x hx => funext fun k => m3 x k (by omega) (by omega) (by omega) (by omega)
              have Dd : ∀ x, x = 0 ∨ 58 < x → x ≠ 500 → x ≠ 125 → x ≠ 127 → x < 183 → D x = d x := fun x h1 h2 h3 h4 h5 => by rw [Dx x h5, Fx x h1 h2 h3 h4]
              have D185 : ∀ k, (k < 0 ∨ 276 ≤ k ∧ k ≠ 1740 ∧ k ≠ 1741) → D 185 k = d 185 k := fun k hk => by rw [m2, keep k hk]
              have D500 : D 500 = w' := by
                rw [← F500]
                exact funext fun k => m3 500 k (by decide) (by decide) (by decide) (by omega)
              have P4 : PL D 1 3 4 5 500 := PL_rows (d := F) (Dx 1 (by decide)) (Dx 3 (by decide)) (Dx 4 (by decide)) (Dx 5 (by decide)) (by rw [D500, F500]) (fun j j0 j1 => by
                have gl := gA_le (p := 1) j0 j1
                exact ⟨Dx _ (by omega), Dx _ (by omega)⟩) P3
              have P5 : PL D 1 3 4 5 185 := PL_r (r := 500) (r' := 185) (fun k _ _ => by rw [m2, D500]) P4
              refine ⟨J (X.2.2 : Int), F, D, via (bind_eq q3 (bind_eq (z0_1 E') (bind_eq (z0_2 E') (bind_eq (z1_0 E') (bind_eq t2 rfl))))), m1, INV_mk I P5 (LD_keep L (fun x k h0 h1 => congrFun (Dd x (by omega) (by omega) (by omega) (by omega) (by omega)) k) (fun k hk => D185 k (by omega))) (RB_keep RR (fun x k h0 h1 => congrFun (Dd x (by omega) (by omega) (by omega) (by omega) (by omega)) k) (fun k hk => D185 k (by omega))) (fun a k h h1 h2 => ?_)⟩
              rw [m3 a k (fun e => h (by unfold Sc; omega)) (fun e => h (by unfold Sc; omega)) h2 (fun e => h (by unfold Sc; omega)), Fx a (by omega) (fun e => h (by unfold Sc; omega)) (fun e => h (by unfold Sc; omega)) (fun e => h (by unfold Sc; omega))]
          · rw [if_neg ok] at hH1
            have h3 : H1 125 3 = 1 := by rw [hH1]; exact ts_st _ _ _
            have h2 : H1 125 2 = X.1 := by rw [hH1]; exact ts_at _ _ _
            obtain ⟨D, m1, m2⟩ := (mt H1 (fun x h => H1x x (by omega) (by omega))).1 (by cases hq : X.2.1 <;> simp_all)
            refine ⟨J (-1000 - X.1), H1, D, preC (bind_eq (z0_11 H1) (bind_eq (z125_7 H1) ?_)), m1, INV_fr I (fun a k h => ?_)⟩
            · rw [h3, if_neg n1J]
              refine bind_eq (z0_11 H1) (bind_eq (z125_5 H1) ?_)
              rw [h2, J_sub]
            · rw [m2 a k (fun e => h (by unfold Sc; omega)) (fun e => h (by unfold Sc; omega)), H1x a (fun e => h (by unfold Sc; omega)) (fun e => h (by unfold Sc; omega))]
        · rw [if_neg k3] at w
          rw [if_neg (fun h => k3 h.2)] at g
          exact bad _ (by decide) (by decide) (by decide) g w
      · rw [if_neg k2] at w
        rw [if_neg (fun h => k2 h.1)] at g
        exact bad _ (by decide) (by decide) (by decide) g w
  · rw [B_f c] at e1
    have w := m_wrongRowBad (d := d) z1 z2 c (f := 0)
    refine ⟨J (-1), d, d, bind_eq e1 rfl, ?_, I⟩
    unfold f_X12_text
    refine bind_eq (isO183 _) (bind_eq w ?_)
    rw [if_neg (by decide)]
end
