/-! the fields; holds -/
def fldM (f wa wb : Int → Int) (r : Int) (c : Int) : Int32 := J (if c = 101 then mxS f 15 - mnS f 15 else if c = 103 then mnS f 15 else if c = 119 then whS (loudS f) 7 else if c = 108 then (if 9999 < loudS f (whS (loudS f) 7) then 9999 else loudS f (whS (loudS f) 7)) else if c = 114 then r else if c = 116 then thinS wa else thinS wb)
section
variable {d : Mem}
theorem c_tellFields {ga gb : Nat} {f : Int → Int} (R : RLg d ga gb) (M : Msd d f) {r : Int} : ∃ d', f_X5_tellFields (mkH d) 140 130 (J r) = some (mkH d') ∧ (∀ x, x ≠ 130 → d' x = d x) ∧ fldC d' = fldM f (cw d ga) (cw d gb) r := by
  obtain ⟨r0, r1, hg, hg', ok, ok', -, -⟩ := id R
  have ng : ∀ {g : Nat}, isG g → g + 1 ≠ 130 := fun {g} h e => by
    have : g = 129 := by omega
    subst this
    exact absurd h.1 (by decide)
  have sI7 : ∀ (D : Mem) (k v : Int), 0 ≤ k → k < 7 → sI (mkH D) 130 (J k) (J v) = some (mkH (up D 130 k v)) := fun D k v h0 h1 => q_sI (len := 7) rfl (by decide) h0 h1
  have Mq : ∀ D : Mem, (∀ x, x ≠ 130 → D x = d x) → Msd D f := fun D h => ⟨fun t t0 t1 => by rw [h 145 (by decide)]; exact M.1 t t0 t1, M.2⟩
  have gR0 : ∀ D : Mem, (∀ x, x ≠ 130 → D x = d x) → gR (mkH D) 140 4 0 = some ga := fun D h => by
    rw [q_gV rfl rfl, h 140 (by decide)]
    exact congrArg some (by show (d 140 0).toNat = ga; rw [r0]; exact Int.toNat_natCast ga)
  have gR1 : ∀ D : Mem, (∀ x, x ≠ 130 → D x = d x) → gR (mkH D) 140 4 1 = some gb := fun D h => by
    rw [q_gV rfl rfl, h 140 (by decide)]
    exact congrArg some (by show (d 140 1).toNat = gb; rw [r1]; exact Int.toNat_natCast gb)
  have th0 : ∀ D : Mem, (∀ x, x ≠ 130 → D x = d x) → f_X0_thin (mkH D) ga = some (J (thinS (cw d ga))) := fun D h => by
    have e : cw D ga = cw d ga := cw_row (h _ (ng hg))
    rw [c_thin hg (by rw [e]; exact ok), e]
  have th1 : ∀ D : Mem, (∀ x, x ≠ 130 → D x = d x) → f_X0_thin (mkH D) gb = some (J (thinS (cw d gb))) := fun D h => by
    have e : cw D gb = cw d gb := cw_row (h _ (ng hg'))
    rw [c_thin hg' (by rw [e]; exact ok'), e]
  have w := wh_rng (loudS f) 7
  have lr := loud_rng M.2 (whS (loudS f) 7)
  have q0 := c_loudestTone M
  generalize hW : whS (loudS f) 7 = W at *
  have lo : ∀ D : Mem, (∀ x, x ≠ 130 → D x = d x) → f_X5_loudness (mkH D) 140 (J W) = some (K (loudS f W)) := fun D h => c_loudness (Mq D h) (by omega) (by omega)
  generalize hL : loudS f W = L at *
  have em : (if (K 9999) < K L then (K 9999) else K L).toInt32 = J (if 9999 < L then 9999 else L) := by
    by_cases c : (9999 : Int) < L
    · rw [if_pos ((K_lt (by omega) (by omega) (by omega) (by omega)).mpr c), if_pos c, K_32 (by omega) (by omega)]
    · rw [if_neg (fun h => c ((K_lt (by omega) (by omega) (by omega) (by omega)).mp h)), if_neg c, K_32 (by omega) (by omega)]
  obtain ⟨e0, h0⟩ : ∃ e0, e0 = up d 130 0 (mxS f 15 - mnS f 15) := ⟨_, rfl⟩
  obtain ⟨e1, h1⟩ : ∃ e1, e1 = up e0 130 1 (mnS f 15) := ⟨_, rfl⟩
  obtain ⟨e2, h2⟩ : ∃ e2, e2 = up e1 130 2 W := ⟨_, rfl⟩
  obtain ⟨e3, h3⟩ : ∃ e3, e3 = up e2 130 3 (if 9999 < L then 9999 else L) := ⟨_, rfl⟩
  obtain ⟨e4, h4⟩ : ∃ e4, e4 = up e3 130 4 r := ⟨_, rfl⟩
  obtain ⟨e5, h5⟩ : ∃ e5, e5 = up e4 130 5 (thinS (cw d ga)) := ⟨_, rfl⟩
  obtain ⟨e6, h6⟩ : ∃ e6, e6 = up e5 130 6 (thinS (cw d gb)) := ⟨_, rfl⟩
  have f0 : ∀ x, x ≠ 130 → e0 x = d x := fun x h => by rw [h0, up_row h]
  have f1 : ∀ x, x ≠ 130 → e1 x = d x := fun x h => by rw [h1, up_row h, f0 x h]
  have f2 : ∀ x, x ≠ 130 → e2 x = d x := fun x h => by rw [h2, up_row h, f1 x h]
  have f3 : ∀ x, x ≠ 130 → e3 x = d x := fun x h => by rw [h3, up_row h, f2 x h]
  have f4 : ∀ x, x ≠ 130 → e4 x = d x := fun x h => by rw [h4, up_row h, f3 x h]
  have f5 : ∀ x, x ≠ 130 → e5 x = d x := fun x h => by rw [h5, up_row h, f4 x h]
  have f6 : ∀ x, x ≠ 130 → e6 x = d x := fun x h => by rw [h6, up_row h, f5 x h]
  refine ⟨e6, ?_, f6, ?_⟩
  · refine bind_eq (q_isO rfl) (bind_eq q0 (bind_eq (q_isO rfl) (bind_eq (c_spread M) ?_)))
    refine bind_eq (sI7 d 0 _ (by decide) (by decide)) ?_
    rw [← h0]
    refine bind_eq (q_isO rfl) (bind_eq (c_leastOff (Mq e0 f0)) (bind_eq (sI7 e0 1 _ (by decide) (by decide)) ?_))
    rw [← h1]
    refine bind_eq (sI7 e1 2 _ (by decide) (by decide)) ?_
    rw [← h2]
    refine bind_eq (q_isO rfl) (bind_eq (lo e2 f2) ?_)
    rw [em]
    refine bind_eq (sI7 e2 3 _ (by decide) (by decide)) ?_
    rw [← h3]
    refine bind_eq (sI7 e3 4 _ (by decide) (by decide)) ?_
    rw [← h4]
    refine bind_eq (gR0 e4 f4) (bind_eq (q_isO hg.1) (bind_eq (th0 e4 f4) (bind_eq (sI7 e4 5 _ (by decide) (by decide)) ?_)))
    rw [← h5]
    refine bind_eq (gR1 e5 f5) (bind_eq (q_isO hg'.1) (bind_eq (th1 e5 f5) (bind_eq (sI7 e5 6 _ (by decide) (by decide)) ?_)))
    rw [← h6]
  · have v6 : e6 130 6 = thinS (cw d gb) := by rw [h6, up_same]
    have v5 : e6 130 5 = thinS (cw d ga) := by rw [h6, up_nk (by decide), h5, up_same]
    have v4 : e6 130 4 = r := by rw [h6, up_nk (by decide), h5, up_nk (by decide), h4, up_same]
    have v3 : e6 130 3 = if 9999 < L then 9999 else L := by rw [h6, up_nk (by decide), h5, up_nk (by decide), h4, up_nk (by decide), h3, up_same]
    have v2 : e6 130 2 = W := by rw [h6, up_nk (by decide), h5, up_nk (by decide), h4, up_nk (by decide), h3, up_nk (by decide), h2, up_same]
    have v1 : e6 130 1 = mnS f 15 := by rw [h6, up_nk (by decide), h5, up_nk (by decide), h4, up_nk (by decide), h3, up_nk (by decide), h2, up_nk (by decide), h1, up_same]
    have v0 : e6 130 0 = mxS f 15 - mnS f 15 := by rw [h6, up_nk (by decide), h5, up_nk (by decide), h4, up_nk (by decide), h3, up_nk (by decide), h2, up_nk (by decide), h1, up_nk (by decide), h0, up_same]
    funext c
    unfold fldC fldM
    rw [hW, hL]
    refine congrArg J ?_
    by_cases k0 : c = 101
    · rw [if_pos k0, if_pos k0, v0]
    rw [if_neg k0, if_neg k0]
    by_cases k1 : c = 103
    · rw [if_pos k1, if_pos k1, v1]
    rw [if_neg k1, if_neg k1]
    by_cases k2 : c = 119
    · rw [if_pos k2, if_pos k2, v2]
    rw [if_neg k2, if_neg k2]
    by_cases k3 : c = 108
    · rw [if_pos k3, if_pos k3, v3]
    rw [if_neg k3, if_neg k3]
    by_cases k4 : c = 114
    · rw [if_pos k4, if_pos k4, v4]
    rw [if_neg k4, if_neg k4]
    by_cases k5 : c = 116
    · rw [if_pos k5, if_pos k5, v5]
    rw [if_neg k5, if_neg k5, v6]
theorem m_fieldOf {m a b rm r : Int} (C : COS d) (M : MS d m a b rm) (ea : d 183 26 = m) (er : d 183 27 = r) {x : Int} (hx : isFd x = true) : f_X12_fieldOf (mkH d) 183 (J x) = some (fldM (offS (vw d 185 a) (vw d 185 b) rm) (vw d 185 a) (vw d 185 b) r x) := by
  obtain ⟨m0, m1, eA, eB, -, a0, a1, b0, b1, -, r0, r1, ok, ok'⟩ := id M
  have g26 : gI (mkH d) 183 11 26 = some (J m) := by
    rw [q_gI rfl rfl]
    exact congrArg (fun z => some (J z)) ea
  have g27 : gI (mkH d) 183 11 27 = some (J r) := by
    rw [q_gI rfl rfl]
    exact congrArg (fun z => some (J z)) er
  have k1 := m_evenOf M
  have k2 := m_gapOf M
  have k3 := m_whineOf C M
  have w := wh_rng (loudS (offS (vw d 185 a) (vw d 185 b) rm)) 7
  have k4 := m_loudOf C M (k := whineS (vw d 185 a) (vw d 185 b) rm) (by unfold whineS; omega) (by unfold whineS; omega)
  have lr := loud_rng (fun n => m_offr M n) (whineS (vw d 185 a) (vw d 185 b) rm)
  have k5 := m_meshOf (d := d) m0 m1 (k := 0) (by decide) (by decide)
  have k6 := m_meshOf (d := d) m0 m1 (k := 1) (by decide) (by decide)
  rw [eA] at k5
  rw [eB] at k6
  have k7 := m_thin a0 a1 ok
  have k8 := m_thin b0 b1 ok'
  have hx := of_decide_eq_true hx
  unfold evenS gapS at k1
  unfold gapS at k2
  unfold whineS at k3 k4 lr
  unfold f_X12_fieldOf fldM
  generalize offS (vw d 185 a) (vw d 185 b) rm = f at *
  generalize whS (loudS f) 7 = W at *
  generalize loudS f W = L at *
  rcases hx with rfl | rfl | rfl | rfl | rfl | rfl | rfl
  · rw [if_pos (rfl : J 101 = J 101)]
    exact bind_eq g26 (bind_eq (isO183 _) (bind_eq k1 rfl))
  · rw [if_neg (by decide : ¬ J 103 = J 101), if_pos (rfl : J 103 = J 103)]
    exact bind_eq g26 (bind_eq (isO183 _) (bind_eq k2 rfl))
  · rw [if_neg (by decide : ¬ J 119 = J 101), if_neg (by decide : ¬ J 119 = J 103), if_neg (by decide : ¬ J 119 = J 108), if_neg (by decide : ¬ J 119 = J 114), if_neg (by decide : ¬ J 119 = J 116), if_pos (rfl : J 119 = J 119)]
    exact bind_eq g26 (bind_eq (isO183 _) (bind_eq k3 rfl))
  · rw [if_neg (by decide : ¬ J 108 = J 101), if_neg (by decide : ¬ J 108 = J 103), if_pos (rfl : J 108 = J 108)]
    refine bind_eq g26 (bind_eq g26 (bind_eq (isO183 _) (bind_eq k3 (bind_eq (isO183 _) (bind_eq k4 ?_)))))
    rw [if_neg (by decide : ¬ (108 : Int) = 101), if_neg (by decide : ¬ (108 : Int) = 103), if_neg (by decide : ¬ (108 : Int) = 119), if_pos (rfl : (108 : Int) = 108)]
    have e : lg_cmp (K L) (K 9999) ≤ 0 ↔ L ≤ 9999 := lg_le (by omega) (by omega) (by decide) (by decide)
    by_cases c : L ≤ 9999
    · rw [if_pos (e.mpr c), if_neg (by omega), K_32 (by omega) (by omega)]
      rfl
    · rw [if_neg (fun h => c (e.mp h)), if_pos (by omega)]
      rfl
  · rw [if_neg (by decide : ¬ J 114 = J 101), if_neg (by decide : ¬ J 114 = J 103), if_neg (by decide : ¬ J 114 = J 108), if_pos (rfl : J 114 = J 114)]
    exact bind_eq g27 rfl
  · rw [if_neg (by decide : ¬ J 116 = J 101), if_neg (by decide : ¬ J 116 = J 103), if_neg (by decide : ¬ J 116 = J 108), if_neg (by decide : ¬ J 116 = J 114), if_pos (rfl : J 116 = J 116)]
    exact bind_eq g26 (bind_eq (isO183 _) (bind_eq k5 (bind_eq (isO183 _) (bind_eq k7 rfl))))
  · rw [if_neg (by decide : ¬ J 117 = J 101), if_neg (by decide : ¬ J 117 = J 103), if_neg (by decide : ¬ J 117 = J 108), if_neg (by decide : ¬ J 117 = J 114), if_neg (by decide : ¬ J 117 = J 116), if_neg (by decide : ¬ J 117 = J 119)]
    exact bind_eq g26 (bind_eq (isO183 _) (bind_eq k6 (bind_eq (isO183 _) (bind_eq k8 rfl))))
theorem MS_row {d' : Mem} (h : d' 185 = d 185) {m a b rm : Int} (M : MS d m a b rm) : MS d' m a b rm ∧ vw d' 185 a = vw d 185 a ∧ vw d' 185 b = vw d 185 b := by
  have va : vw d' 185 a = vw d 185 a := vw_row h
  have vb : vw d' 185 b = vw d 185 b := vw_row h
  refine ⟨?_, va, vb⟩
  unfold MS mm at M ⊢
  rw [h, va, vb]
  exact M
theorem ms_12 (D : Mem) : up D 183 12 0 = ms D 0 (D 183 25) := by
  funext a k
  unfold up ms
  by_cases c : a = 183 ∧ k = 12
  · rw [if_pos c, if_pos c]
  · rw [if_neg c, if_neg c]
    by_cases c2 : a = 183 ∧ k = 25
    · rw [if_pos c2, c2.1, c2.2]
    · rw [if_neg c2]
theorem m_holdsFor {q m a b rm r n : Int} {tx : Int → Int} (q0 : 0 ≤ q) (q1 : q < 12) (C : COS d) (M : MS d m a b rm) (en : d 185 (276 + 121 * q) = n) (n0 : 0 ≤ n) (n1 : n ≤ 120) (ht : ∀ k, 0 ≤ k → k < n → d 185 (276 + 121 * q + 1 + k) = tx k ∧ -128 ≤ tx k ∧ tx k ≤ 127) (ok : ruleOK tx n) : ∃ D, f_X12_holdsFor (mkH d) 183 (J q) (J m) (J r) = some (J (B ((topS (chS tx n) (fldM (offS (vw d 185 a) (vw d 185 b) rm) (vw d 185 a) (vw d 185 b) r)).2.2 = true)), mkH D) ∧ ∀ x k, ¬ (x = 183 ∧ k ≠ 10) → D x k = d x k := by
  obtain ⟨d1, hd1⟩ : ∃ d1, d1 = up (up d 183 26 m) 183 27 r := ⟨_, rfl⟩
  obtain ⟨d2, hd2⟩ : ∃ d2, d2 = mo d1 (185 : Nat) (276 + 121 * q + 1) n := ⟨_, rfl⟩
  have f1 : ∀ x k, ¬ (x = 183 ∧ (k = 26 ∨ k = 27)) → d1 x k = d x k := fun x k h => by
    rw [hd1]
    unfold up
    rw [if_neg (by omega), if_neg (by omega)]
  have f2 : ∀ x k, ¬ (x = 183 ∧ (k = 16 ∨ k = 13 ∨ k = 14)) → d2 x k = d1 x k := fun x k h => by rw [hd2]; exact mo_na h
  have fr : ∀ x, x ≠ 183 → d2 x = d x := fun x h => funext fun k => by rw [f2 x k (by omega), f1 x k (by omega)]
  have e26 : d2 183 26 = m := by rw [f2 183 26 (by omega), hd1, up_nk (by decide), up_same]
  have e27 : d2 183 27 = r := by rw [f2 183 27 (by omega), hd1, up_same]
  obtain ⟨M2, va, vb⟩ := MS_row (fr 185 (by decide)) M
  have MD2 : MD d2 185 (276 + 121 * q + 1) tx n := by
    rw [hd2]
    exact mo_MD n0 n1 (by decide) ⟨1744, rfl, by omega, by omega, by decide⟩ (fun k h0 h1 => by
      rw [f1 185 _ (by omega)]
      exact ht k h0 h1)
  have HF : ∀ p x : Int, isFd x = true → f_X12_fieldOf (mkH (ms d2 p (d2 183 25))) 183 (J x) = some (fldM (offS (vw d 185 a) (vw d 185 b) rm) (vw d 185 a) (vw d 185 b) r x) := fun p x hx => by
    have g : ∀ y, y ≠ 183 → ms d2 p (d2 183 25) y = d2 y := fun y hy => funext fun k => ms_na hy
    obtain ⟨M3, va3, vb3⟩ := MS_row (g 185 (by decide)) M2
    have h := m_fieldOf (d := ms d2 p (d2 183 25)) (r := r) (fun y h0 h1 => by rw [g 184 (by decide), fr 184 (by decide)]; exact C y h0 h1) M3 (by rw [ms_nk (by decide) (by decide), e26]) (by rw [ms_nk (by decide) (by decide), e27]) hx
    rw [va3, vb3, va, vb] at h
    exact h
  have T := v_top MD2 (s := d2 183 25) HF ok
  refine ⟨_, ?_, fun x k h => (ms_nn (d := d2) (p := n) (s := d2 183 25) (x := x) (k := k) (by omega)).trans ?_⟩
  · have w26 : pF (mkH d) 183 11 26 (.int (J m)) = some (mkH (up d 183 26 m)) := q_pI rfl rfl
    have w27 : pF (mkH (up d 183 26 m)) 183 11 27 (.int (J r)) = some (mkH (up (up d 183 26 m) 183 27 r)) := q_pI rfl rfl
    rw [← hd1] at w27
    have g1 : ∀ D : Mem, gR (mkH D) 183 11 1 = some 185 := fun D => q_gR rfl rfl
    have w16 : pF (mkH d1) 183 11 16 (.ref 185) = some (mkH (up d1 183 16 (185 : Nat))) := q_pR rfl rfl
    have w13 : pF (mkH (up d1 183 16 (185 : Nat))) 183 11 13 (.int (J (276 + 121 * q + 1))) = some (mkH (up (up d1 183 16 (185 : Nat)) 183 13 (276 + 121 * q + 1))) := q_pI rfl rfl
    have wa : aI (mkH (up (up d1 183 16 (185 : Nat)) 183 13 (276 + 121 * q + 1))) 185 (J (276 + 121 * q)) = some (J n) := by
      rw [q_aI (len := 1744) rfl (by decide) (by omega) (by omega), up_na (by decide), up_na (by decide), f1 185 _ (by omega), en]
    have w14 : pF (mkH (up (up d1 183 16 (185 : Nat)) 183 13 (276 + 121 * q + 1))) 183 11 14 (.int (J n)) = some (mkH (up (up (up d1 183 16 (185 : Nat)) 183 13 (276 + 121 * q + 1)) 183 14 n)) := q_pI rfl rfl
    have w14 : pF (mkH (up (up d1 183 16 (185 : Nat)) 183 13 (276 + 121 * q + 1))) 183 11 14 (.int (J n)) = some (mkH d2) := by rw [w14, hd2]; rfl
    have w12 : pF (mkH d2) 183 11 12 (.int (J 0)) = some (mkH (ms d2 0 (d2 183 25))) := by
      rw [← ms_12]
      exact q_pI rfl rfl
    unfold f_X12_holdsFor
    simp only [J_mul, J_add]
    exact bind_eq w26 (bind_eq w27 (bind_eq (g1 _) (bind_eq w16 (bind_eq w13 (bind_eq (g1 _) (bind_eq wa (bind_eq w14 (bind_eq w12 (bind_eq (isO183 _) (bind_eq T (bind_eq (bzB _) rfl)))))))))))
  · rw [f2 x k (by omega), f1 x k (by omega)]
theorem c_isRule (R : RB d 62 76 185) {z : Int} (z1 : -2147483648 ≤ z) (z2 : z < 2147483648) : f_X11_isRule (mkH d) 0 (J z) = some (J (B (0 ≤ z ∧ z ≤ d 185 1742 - 1))) := by
  obtain ⟨p1, p2, p3, -⟩ := R
  simp (disch := first | omega | assumption | decide) only [f_X11_isRule, p1, z0_0, z0_1, z0_2, z0_3, z0_4, z0_5, z0_6, z0_7, z0_8, z0_9, z0_10, z0_11, z0_12, z0_13, z0_14, z0_15, z0_16, z0_17, z1_0, z1_1, z1_2, z1_3, z1_4, z1_5, z1_6, z1_7, z1_8, z2_0, z3_0, z3_1, z4_0, z4_1, z5_0, z5_1, z124_0, SG0, SG1, SG2, SG3, SG4, SG5, SG6, SG7, SG8, SG9, SG10, SG11, SG12, SS0, SS1, SS2, SS3, SS4, SS5, SS6, SS7, SS8, SS9, SS10, SS11, z30_0, z30_1, z30_2, z30_3, z30_4, z30_5, z30_6, z30_7, z30_8, z59_0, z59_1, z59_2, z59_3, z59_4, z62_0, z62_1, z62_2, z62_3, z62_4, z63_0, z76_0, z76_1, z125_0, z125_1, z125_2, z125_3, z125_4, z125_5, z125_6, z125_7, z125_8, z125_9, z125_10, z125_11, z125_12, z125_13, z128_0, z128_1, z128_2, z128_3, z128_4, z128_5, z128_6, z128_7, z128_8, z128_9, z130_0, z130_1, z131_0, z131_1, z131_2, z131_3, z131_4, z131_5, z131_6, z131_7, z131_8, z140_0, z140_1, z140_2, z140_3, z140_4, z140_5, z140_6, z140_7, z145_0, z145_1, z146_0, z146_1, z146_2, z146_3, z146_4, z146_5, z146_6, z146_7, z146_8, z146_9, z146_10, z146_11, z146_12, z146_13, z146_14, SN0, SN1, SN2, SN3, SN4, SN5, SN6, SN7, SN8, SN9, SN10, SN11, SN12, SN13, SN14, SN15, SN16, SN17, SN18, SJ0, SJ1, SJ2, SJ3, SJ4, SJ5, bindS, if_pos, if_neg, w_isWithin, w_isIn, JB_0, JB_1, bz_B, ite10, ite01, Int.natCast_add, csN0, csN1, csN16, Int.toNat_natCast, ite_not, not_true_eq_false, not_false_eq_true]
theorem m_isRule {d' : Mem} (h : d' 185 1742 = d 185 1742) (R : RB d 62 76 185) {z : Int} (z1 : -2147483648 ≤ z) (z2 : z < 2147483648) : f_X12_isRule (mkH d') 183 (J z) = some (J (B (0 ≤ z ∧ z ≤ d 185 1742 - 1))) := by
  obtain ⟨p1, p2, p3, -⟩ := R
  simp (disch := first | omega | assumption | decide) only [f_X12_isRule, h, z183_0, z183_1, z183_2, z183_3, z183_4, z183_5, z183_6, z183_7, z183_8, z183_9, z183_10, z183_11, z183_12, z183_13, z183_14, z183_15, z183_16, z183_17, z183_18, z183_19, z183_20, z183_21, z183_22, z183_23, z183_24, z183_25, z183_26, z183_27, z183_28, z183_29, z183_30, z183_31, z183_32, z183_33, z183_34, z183_35, z183_36, z183_37, z183_38, z183_39, z183_40, z183_41, z183_42, z184_0, z184_1, z185_0, z185_1, z186_0, z186_1, z187_0, z187_1, z188_0, z188_1, z189_0, z189_1, z190_0, z190_1, z191_0, z191_1, z192_0, z192_1, z193_0, z193_1, z194_0, z194_1, z195_0, z195_1, z196_0, z196_1, z197_0, z197_1, z198_0, z198_1, z198_2, z199_0, z199_1, z200_0, z200_1, z201_0, z201_1, z202_0, z202_1, SN0, SN1, SN2, SN3, SN4, SN5, SN6, SN7, SN8, SN9, SN10, SN11, SN12, SN13, SN14, SN15, SN16, SN17, SN18, SJ0, SJ1, SJ2, SJ3, SJ4, SJ5, bindS, if_pos, if_neg, w_isWithin, w_isIn, JB_0, JB_1, bz_B, ite10, ite01, Int.natCast_add, csN0, csN1, csN16, Int.toNat_natCast, ite_not, not_true_eq_false, not_false_eq_true]
/-- the class's reader on a rule that it keeps -/
theorem c_readRule {q : Int} (q0 : 0 ≤ q) (q1 : q < 12) {n : Int} {tx : Int → Int} (en : d 76 q = n) (n0 : 0 ≤ n) (n1 : n ≤ 120) (ht : ∀ k, 0 ≤ k → k < n → d (rA 62 q) k = tx k ∧ -128 ≤ tx k ∧ tx k ≤ 127) (ok : ruleOK tx n) : aR (mkH d) 63 5 (J q) = some (rA 62 q) ∧ aI (mkH d) 76 (J q) = some (J n) ∧ ∃ D, f_X7_readAll (mkH d) 128 (rA 62 q) (J n) = some (J (B ((topS (chS tx n) (fldC d)).2.2 = true)), mkH D) ∧ ∀ x, x ≠ 128 → D x = d x := by
  obtain ⟨s1, s2, s3, s4, s5, s6, s7, s8⟩ := SBp isB_62
  obtain ⟨v, D, g1, g2, g3, g4⟩ := k_all (d := d) (isB_62.2.2.2.2 q q0 q1) n0 n1 ht
  have a : aI (mkH d) 76 (J q) = some (J (d 76 q)) := s7 d q q0 q1
  rw [en] at a
  rw [g4 (ok (fldC d)).2] at g1
  exact ⟨s6 d q q0 q1, a, D, g1, g2⟩
theorem RU_t {q : Int} (R : RU d 62 76 185 q) : ∃ (n : Int) (tx : Int → Int), d 185 (276 + 121 * q) = n ∧ d 76 q = n ∧ 0 ≤ n ∧ n ≤ 120 ∧ (∀ k, d 185 (276 + 121 * q + 1 + k) = tx k) ∧ (∀ k, 0 ≤ k → k < n → d (rA 62 q) k = tx k ∧ -128 ≤ tx k ∧ tx k ≤ 127) ∧ ruleOK tx n := by
  obtain ⟨z1, z2, z3, z4, z5⟩ := R
  exact ⟨d 185 (276 + 121 * q), fun k => d 185 (276 + 121 * q + 1 + k), rfl, z1, z2, z3, fun k => rfl, z4, z5⟩
theorem jbt (v : Bool) : (if (J (B (v = true)) : Int32) = 0 then some (J 0) else some (J 1)) = some (J (B (v = true))) := by cases v <;> rfl
theorem ag_holds (I : INV d) (x y : Int32) : ∃ r d1 d2, f_X11_holds (mkH d) 0 x y = some (r, mkH d1) ∧ f_X12_holds (mkH d1) 183 x y = some (r, mkH d2) ∧ INV d2 := by
  obtain ⟨q, z1, z2, rfl⟩ := J_of x
  obtain ⟨z, v1, v2, rfl⟩ := J_of y
  have n1 : ¬ (J 1 = 0) := by decide
  have e1 := c_isRule I.2.2.1 z1 z2
  have e2 := c_isMesh I.1 v1 v2
  have e3 := m_isRule (d' := d) rfl I.2.2.1 z1 z2
  have e4 := m_isMesh I.1 v1 v2
  by_cases c : 0 ≤ q ∧ q ≤ d 185 1742 - 1
  · rw [B_t c] at e1 e3
    by_cases c' : 0 ≤ z ∧ z ≤ d 185 1741 - 1
    · rw [B_t c'] at e2 e4
      obtain ⟨c1, c2⟩ := c
      obtain ⟨c3, c4⟩ := c'
      obtain ⟨-, -, r3, r4⟩ := id I.2.2.1
      have q12 : q < 12 := by omega
      obtain ⟨d1, a, b, rm, g1, I1, F, R, wa, wb, er, Ms, MM, rows, -, -⟩ := roll_go I c3 (by omega)
      obtain ⟨n, tx, t1, t2, t3, t4, t5, t6, t7⟩ := RU_t (r4 q c1 (by omega))
      have rl := rA_le (b := 62) c1 q12
      obtain ⟨d2, g2, f2, ef⟩ := c_tellFields R Ms (r := 0)
      rw [wa, wb] at ef
      obtain ⟨k1, k2, D, k3, f3⟩ := c_readRule (d := d2) c1 q12 (by rw [f2 76 (by decide), rows 76 (by decide) (by decide)]; exact t2) t3 t4 (fun k h0 h1 => by rw [f2 _ (by omega), rows _ (by omega) (by omega)]; exact t6 k h0 h1) t7
      rw [ef] at k3
      have fD : ∀ x, x < 125 ∨ 147 ≤ x → D x = d x := fun x h => by rw [f3 x (by omega), f2 x (by omega), rows x (by omega) (by omega)]
      have fD1 : D 185 = d1 185 := by rw [f3 185 (by decide), f2 185 (by decide)]
      obtain ⟨M2, va, vb⟩ := MS_row fD1 MM
      have e5 := m_isRule (d' := D) (by rw [fD 185 (by decide)]) I.2.2.1 z1 z2
      rw [B_t ⟨c1, c2⟩] at e5
      have e6 := m_isMeshR (d' := D) (fD 185 (by decide)) I.1 v1 v2
      rw [B_t ⟨c3, c4⟩] at e6
      obtain ⟨E, h1, h2⟩ := m_holdsFor (d := D) (q := q) (r := 0) c1 q12 (fun y h0 h1 => by rw [fD 184 (by decide)]; exact I.2.2.2.2.2 y h0 h1) M2 (by rw [fD 185 (by decide)]; exact t1) t3 t4 (fun k h0 h1 => by
        rw [fD 185 (by decide)]
        exact ⟨t5 k, (t6 k h0 h1).2⟩) t7
      rw [va, vb] at h1
      generalize (topS (chS tx n) (fldM (offS (vw d1 185 a) (vw d1 185 b) rm) (vw d1 185 a) (vw d1 185 b) 0)).2.2 = v at *
      refine ⟨J (B (v = true)), D, E, ?_, ?_, INV_fr I (fun x k s => ?_)⟩
      · unfold f_X11_holds
        refine bind_eq (z0_0 d) (bind_eq e1 ?_)
        rw [if_neg n1]
        refine bind_eq (z0_0 d) (bind_eq e2 ?_)
        rw [if_neg n1]
        refine bind_eq (z0_0 d) (bind_eq g1 (bind_eq (q_gR rfl rfl) (bind_eq (q_gR rfl rfl) (bind_eq (q_gR rfl rfl) (bind_eq (q_isO rfl) (bind_eq g2 (bind_eq (q_gR rfl rfl) (bind_eq (q_gR rfl rfl) (bind_eq (q_gR rfl rfl) (bind_eq k1 (bind_eq (q_gR rfl rfl) (bind_eq (q_gR rfl rfl) (bind_eq k2 (bind_eq (q_isO rfl) (bind_eq k3 ?_)))))))))))))))
        exact bind_eq (jbt v) rfl
      · unfold f_X12_holds
        refine bind_eq (z183_0 D) (bind_eq e5 ?_)
        rw [if_neg n1]
        have e : ∀ (w : Bool), (if (J (B (w = true)) : Int32) = 0 then some (J 0, mkH E) else some (J 1, mkH E)) = some (J (B (w = true)), mkH E) := fun w => by cases w <;> rfl
        refine bind_eq (a := (J (B (v = true)), mkH E)) (bind_eq (z183_0 D) (bind_eq e6 ?_)) rfl
        rw [if_neg n1]
        exact bind_eq (z183_0 D) (bind_eq h1 (e v))
      · rw [h2 x k (fun e => s (by unfold Sc; omega))]
        exact congrFun (fD x (by
          by_cases h : x < 125 ∨ 147 ≤ x
          · exact h
          · exact absurd (by unfold Sc; omega) s)) k
    · rw [B_f c'] at e2 e4
      refine ⟨J (-1), d, d, ?_, ?_, I⟩
      · refine bind_eq (z0_0 d) (bind_eq e1 ?_)
        rw [if_neg n1]
        exact bind_eq (z0_0 d) (bind_eq e2 rfl)
      · refine bind_eq (z183_0 d) (bind_eq e3 ?_)
        rw [if_neg n1]
        exact bind_eq (a := (J (-1), mkH d)) (bind_eq (z183_0 d) (bind_eq e4 rfl)) rfl
  · rw [B_f c] at e1 e3
    exact ⟨J (-1), d, d, bind_eq (z0_0 d) (bind_eq e1 rfl), bind_eq (z183_0 d) (bind_eq e3 rfl), I⟩
end
