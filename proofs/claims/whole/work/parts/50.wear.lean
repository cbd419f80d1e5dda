/-! loops that change the memory, told by invariants -/
theorem iter_for {σ ε : Type} {b : σ → Option (σ ⊕ ε)} (I : Nat → σ → Prop) (Q : ε → Prop) (N : Nat) (hN : N < 100000000) {s0 : σ} (h0 : I 0 s0) (hs : ∀ i s, i < N → I i s → ∃ t, b s = some (.inl t) ∧ I (i + 1) t) (he : ∀ s, I N s → ∃ e, b s = some (.inr e) ∧ Q e) : ∃ e, iter b FU s0 = some e ∧ Q e := by
  refine iter_inv I Q N hN h0 (fun i s hi h => ?_)
  by_cases c : i < N
  · obtain ⟨t, h1, h2⟩ := hs i s c h
    exact Or.inl ⟨t, c, h1, h2⟩
  · have : i = N := by omega
    subst this
    exact Or.inr (he s h)
theorem srch_some {c : Nat → Bool} {N j : Nat} (hj : j < N) (hc : c j = true) (hb : ∀ i, i < j → c i = false) : srch c N = some j := by
  cases hq : srch c N with
  | none => exact absurd (srch_none hq j hj) (by simp [hc])
  | some k =>
    have q := srch_lt hq
    by_cases e1 : k < j
    · rw [hb k e1] at q
      exact absurd q.2.1 (by simp)
    · by_cases e2 : j < k
      · exact absurd (q.2.2 j e2) (by simp [hc])
      · rw [show k = j by omega]
theorem srch_no {c : Nat → Bool} {N : Nat} (hb : ∀ i, i < N → c i = false) : srch c N = none := by
  cases hq : srch c N with
  | none => rfl
  | some k =>
    have q := srch_lt hq
    rw [hb k q.1] at q
    exact absurd q.2.1 (by simp)
theorem iter_srE {σ ε : Type} {b : σ → Option (σ ⊕ ε)} (I : Nat → σ → Prop) (c : Nat → Bool) (N : Nat) (Q : Option Nat → ε → Prop) (hN : N < 100000000) {s0 : σ} (h0 : I 0 s0) (hs : ∀ i s, i < N → I i s → c i = false → ∃ t, b s = some (.inl t) ∧ I (i + 1) t) (hc : ∀ i s, i < N → I i s → c i = true → ∃ e, b s = some (.inr e) ∧ Q (some i) e) (he : ∀ s, I N s → ∃ e, b s = some (.inr e) ∧ Q none e) : ∃ e, iter b FU s0 = some e ∧ Q (srch c N) e := by
  refine iter_inv (fun i s => I i s ∧ ∀ j, j < i → c j = false) (Q (srch c N)) N hN ⟨h0, fun j h => by omega⟩ (fun i s hi h => ?_)
  obtain ⟨h1, h2⟩ := h
  by_cases l : i < N
  · cases hci : c i with
    | false =>
      obtain ⟨t, q1, q2⟩ := hs i s l h1 hci
      refine Or.inl ⟨t, l, q1, q2, fun j hj => ?_⟩
      by_cases e : j < i
      · exact h2 j e
      · rw [show j = i by omega]
        exact hci
    | true =>
      rw [srch_some l hci h2]
      exact Or.inr (hc i s l h1 hci)
  · have : i = N := by omega
    subst this
    rw [srch_no h2]
    exact Or.inr (he s h1)
theorem iter_late {σ ε : Type} {b : σ → Option (σ ⊕ ε)} (I F : Nat → σ → Prop) (c : Nat → Bool) (N : Nat) (Q : Option Nat → ε → Prop) (hN : N < 10000000) {s0 : σ} (h0 : I 0 s0) (hs : ∀ i s, i < N → I i s → c i = false → ∃ t, b s = some (.inl t) ∧ I (i + 1) t) (hf : ∀ i s, i < N → I i s → c i = true → ∃ t, b s = some (.inl t) ∧ F i t) (hx : ∀ i s, i < N → F i s → ∃ e, b s = some (.inr e) ∧ Q (some i) e) (he : ∀ s, I N s → ∃ e, b s = some (.inr e) ∧ Q none e) : ∃ e, iter b FU s0 = some e ∧ Q (srch c N) e := by
  refine iter_inv (fun i s => (i ≤ N ∧ I i s ∧ ∀ j, j < i → c j = false) ∨ ∃ j, i = j + 1 ∧ j < N ∧ F j s ∧ c j = true ∧ ∀ k, k < j → c k = false) (Q (srch c N)) (N + 1) (by omega) (Or.inl ⟨by omega, h0, fun j h => by omega⟩) (fun i s hi h => ?_)
  rcases h with ⟨hl, h1, h2⟩ | ⟨j, rfl, hj, h1, h2, h3⟩
  · by_cases l : i < N
    · cases hci : c i with
      | false =>
        obtain ⟨t, q1, q2⟩ := hs i s l h1 hci
        refine Or.inl ⟨t, by omega, q1, Or.inl ⟨by omega, q2, fun j hj => ?_⟩⟩
        by_cases e : j < i
        · exact h2 j e
        · rw [show j = i by omega]
          exact hci
      | true =>
        obtain ⟨t, q1, q2⟩ := hf i s l h1 hci
        exact Or.inl ⟨t, by omega, q1, Or.inr ⟨i, rfl, l, q2, hci, h2⟩⟩
    · have : i = N := by omega
      subst this
      rw [srch_no h2]
      exact Or.inr (he s h1)
  · rw [srch_some hj h2 h3]
    exact Or.inr (hx j s hj h1)
/-! wear -/
def decS (v : Int) : Int := if v - 1 < 0 then 0 else v - 1
abbrev WW : Type := (Int → Int) × (Int → Int)
def wrT (la lb : Bool) (s : WW) (t : Int) : WW := (if la = true then updW s.1 (touch s.1 s.2 t) (decS (s.1 (touch s.1 s.2 t))) else s.1, if lb = true then updW s.2 ((15 - touch s.1 s.2 t + t) % 16) (decS (s.2 ((15 - touch s.1 s.2 t + t) % 16))) else s.2)
def wrS (la lb : Bool) (s : WW) : Nat → WW
  | 0 => s
  | n + 1 => wrT la lb (wrS la lb s n) n
def rnS (la lb : Bool) (s : WW) : Nat → WW
  | 0 => s
  | n + 1 => wrS la lb (rnS la lb s n) 16
theorem dec_rng {v : Int} (h : 0 ≤ v ∧ v ≤ 31) : 0 ≤ decS v ∧ decS v ≤ 31 := by
  unfold decS
  split <;> omega
theorem updW_ok {w : Int → Int} {y v : Int} (h : Wok w) (hv : 0 ≤ v ∧ v ≤ 31) : Wok (updW w y v) := fun i => by
  unfold updW
  split
  · exact hv
  · exact h i
theorem wrT_ok {la lb : Bool} {s : WW} {t : Int} (h1 : Wok s.1) (h2 : Wok s.2) : Wok (wrT la lb s t).1 ∧ Wok (wrT la lb s t).2 := by
  unfold wrT
  constructor
  · show Wok (if la = true then _ else _)
    split
    · exact updW_ok h1 (dec_rng (h1 _))
    · exact h1
  · show Wok (if lb = true then _ else _)
    split
    · exact updW_ok h2 (dec_rng (h2 _))
    · exact h2
theorem wrS_ok {la lb : Bool} {s : WW} (h1 : Wok s.1) (h2 : Wok s.2) : ∀ n : Nat, Wok (wrS la lb s n).1 ∧ Wok (wrS la lb s n).2
  | 0 => ⟨h1, h2⟩
  | n + 1 => wrT_ok (wrS_ok h1 h2 n).1 (wrS_ok h1 h2 n).2
theorem rnS_ok {la lb : Bool} {s : WW} (h1 : Wok s.1) (h2 : Wok s.2) : ∀ n : Nat, Wok (rnS la lb s n).1 ∧ Wok (rnS la lb s n).2
  | 0 => ⟨h1, h2⟩
  | n + 1 => wrS_ok (rnS_ok h1 h2 n).1 (rnS_ok h1 h2 n).2 16
theorem isG_obj {g x : Nat} {y : Nat × List Nat} (h : isG g) (hx : shO x = some y) : x ≠ g + 1 := by
  intro e
  have q := isG_O h
  rw [← e, hx] at q
  cases q
theorem cw_row {d d' : Mem} {g : Nat} (h : d' (g + 1) = d (g + 1)) : cw d' g = cw d g := by unfold cw; rw [h]
theorem touch_rng (wa wb : Int → Int) (t : Int) : 0 ≤ touch wa wb t ∧ touch wa wb t < 16 := by
  have q := tou_rng (both wa wb t) 15
  unfold touch
  omega
/-- the gears that roll, and what stays of the memory while they wear -/
def GF (d : Mem) (g : Nat) : Prop := 0 ≤ d g 1 ∧ d g 1 ≤ 4 ∧ 0 ≤ d g 2 ∧ d g 2 ≤ 99
theorem c_wearRound {d : Mem} {ga gb : Nat} {load : Int} (R : RLg d ga gb) (hn : ga ≠ gb) (fa : GF d ga) (fb : GF d gb) (l0 : 1 ≤ load) (l1 : load ≤ 999) : ∃ d', f_X5_wearRound (mkH d) 140 (J load) = some (mkH d') ∧ (∀ x, x ≠ ga + 1 → x ≠ gb + 1 → d' x = d x) ∧ (cw d' ga, cw d' gb) = wrS (decide (hardS (d ga 1) (d ga 2) < load / 10)) (decide (hardS (d gb 1) (d gb 2) < load / 10)) (cw d ga, cw d gb) 16 := by
  obtain ⟨r0, r1, hg, hg', ok, ok', r2, r3⟩ := id R
  obtain ⟨f1, f2, f3, f4⟩ := fa
  obtain ⟨f5, f6, f7, f8⟩ := fb
  have e1 := c_hard hg ⟨f1, f2⟩ ⟨f3, f4⟩
  have e2 := c_hard hg' ⟨f5, f6⟩ ⟨f7, f8⟩
  have hh : ∀ k t : Int, 0 ≤ t → t ≤ 99 → 0 ≤ hardS k t ∧ hardS k t ≤ 25 := by
    intro k t t0 t1
    unfold hardS
    repeat' split
    all_goals omega
  obtain ⟨x1, x2⟩ := hh (d ga 1) (d ga 2) f3 f4
  obtain ⟨x3, x4⟩ := hh (d gb 1) (d gb 2) f7 f8
  generalize hA : decide (hardS (d ga 1) (d ga 2) < load / 10) = la
  generalize hB : decide (hardS (d gb 1) (d gb 2) < load / 10) = lb
  have k1 : B (¬ load / 10 ≤ hardS (d ga 1) (d ga 2)) = B (la = true) := B_cong (by rw [← hA, decide_eq_true_iff]; omega)
  have k2 : B (¬ load / 10 ≤ hardS (d gb 1) (d gb 2)) = B (lb = true) := B_cong (by rw [← hB, decide_eq_true_iff]; omega)
  have L : ∃ e, iter (b_X5_wearRound_43 140 (J (B (la = true))) (J (B (lb = true)))) FU (J 0, mkH d) = some e ∧ ∃ d', e = mkH d' ∧ (∀ x, x ≠ ga + 1 → x ≠ gb + 1 → d' x = d x) ∧ (cw d' ga, cw d' gb) = wrS la lb (cw d ga, cw d gb) 16 := by
    refine iter_for (fun i s => ∃ d', s = (J (i : Int), mkH d') ∧ (∀ x, x ≠ ga + 1 → x ≠ gb + 1 → d' x = d x) ∧ (cw d' ga, cw d' gb) = wrS la lb (cw d ga, cw d gb) i) _ 16 (by decide) ⟨d, rfl, fun _ _ _ => rfl, rfl⟩ ?_ ?_
    · rintro i s hi ⟨d', rfl, h1, h2⟩
      obtain ⟨w1, w2⟩ := wrS_ok (la := la) (lb := lb) (s := (cw d ga, cw d gb)) ok ok' i
      rw [← h2] at w1 w2
      have e140 : d' 140 = d 140 := h1 140 (isG_obj hg rfl) (isG_obj hg' rfl)
      have R' : RLg d' ga gb := ⟨by rw [e140]; exact r0, by rw [e140]; exact r1, hg, hg', w1, w2, by rw [e140]; exact r2, by rw [e140]; exact r3⟩
      obtain ⟨t0, t1⟩ := touch_rng (cw d' ga) (cw d' gb) i
      have c1 := c_touchAt R' (t := i) (by omega) (by omega)
      have c2 := c_facing (y := touch (cw d' ga) (cw d' gb) i) (t := i) t0 t1 (by omega) (by omega)
      have r0' : d' 140 0 = ga := by rw [e140]; exact r0
      have r1' : d' 140 1 = gb := by rw [e140]; exact r1
      have hs : wrS la lb (cw d ga, cw d gb) (i + 1) = wrT la lb (cw d' ga, cw d' gb) i := by rw [h2]; rfl
      have gne : gb + 1 ≠ ga + 1 := by omega
      have gne' : ga + 1 ≠ gb + 1 := by omega
      generalize hy : touch (cw d' ga) (cw d' gb) i = y at *
      have z0 : 0 ≤ (15 - y + (i : Int)) % 16 := by omega
      have z1 : (15 - y + (i : Int)) % 16 < 16 := by omega
      have u1 := c_wearAt (d := d') hg w1 t0 t1
      have A : ∃ dA, ((if J (B (la = true)) = 0 then some (mkH d') else (gR (mkH d') 140 4 0).bind fun x4 => (isO (mkH d') x4 0).bind fun u5 => (f_X0_wearAt (mkH d') x4 (J y)).bind fun r6 => some r6) = some (mkH dA)) ∧ (∀ x, x ≠ ga + 1 → x ≠ gb + 1 → dA x = d x) ∧ cw dA ga = (wrT la lb (cw d' ga, cw d' gb) i).1 ∧ cw dA gb = cw d' gb := by
        cases la with
        | false => exact ⟨d', by rw [B_f (by simp)]; rfl, h1, by simp [wrT], rfl⟩
        | true =>
          refine ⟨up d' (ga + 1) y (if cw d' ga y - 1 < 0 then 0 else cw d' ga y - 1), ?_, fun x n1 n2 => ?_, ?_, ?_⟩
          · simp (disch := first | omega | assumption | decide) only [r0', u1, B_t, z140_0, z140_1, z140_2, z140_3, z140_4, z140_5, z140_6, z140_7, z145_0, z145_1, SG0, SG1, SG2, SG3, SG4, SG5, SG6, SG7, SG8, SG9, SG10, SG11, SG12, SN0, SN1, SN2, SN3, SN4, SN5, SN6, SN7, SN8, SN9, SN10, SN11, SN12, SN13, SN14, SN15, SN16, SN17, SN18, SJ0, SJ1, SJ2, SJ3, SJ4, SJ5, bindS, if_pos, if_neg, w_isWithin, w_isIn, JB_0, JB_1, bz_B, ite10, ite01, Int.natCast_add, csN0, csN1, csN16, Int.toNat_natCast, ite_not, not_true_eq_false, not_false_eq_true]
          · rw [up_row n1]
            exact h1 x n1 n2
          · rw [cw_up t0 t1]
            simp only [wrT, hy]
            rfl
          · exact cw_row (up_row gne)
      obtain ⟨dA, a1, a2, a3, a4⟩ := A
      have eA140 : dA 140 = d 140 := a2 140 (isG_obj hg rfl) (isG_obj hg' rfl)
      have rA1 : dA 140 1 = gb := by rw [eA140]; exact r1
      have u2 := c_wearAt (d := dA) hg' (by rw [a4]; exact w2) z0 z1
      have A2 : ∃ dB, ((if J (B (lb = true)) = 0 then some (mkH dA) else (gR (mkH dA) 140 4 1).bind fun x9 => (f_X5_facing (J y) (J i)).bind fun r10 => (isO (mkH dA) x9 0).bind fun u11 => (f_X0_wearAt (mkH dA) x9 r10).bind fun r12 => some r12) = some (mkH dB)) ∧ (∀ x, x ≠ ga + 1 → x ≠ gb + 1 → dB x = d x) ∧ cw dB ga = (wrT la lb (cw d' ga, cw d' gb) i).1 ∧ cw dB gb = (wrT la lb (cw d' ga, cw d' gb) i).2 := by
        cases lb with
        | false => exact ⟨dA, by rw [B_f (by simp)]; rfl, a2, a3, by rw [a4]; simp [wrT]⟩
        | true =>
          refine ⟨up dA (gb + 1) ((15 - y + (i : Int)) % 16) (if cw dA gb ((15 - y + (i : Int)) % 16) - 1 < 0 then 0 else cw dA gb ((15 - y + (i : Int)) % 16) - 1), ?_, fun x n1 n2 => ?_, ?_, ?_⟩
          · simp (disch := first | omega | assumption | decide) only [rA1, c2, u2, B_t, z140_0, z140_1, z140_2, z140_3, z140_4, z140_5, z140_6, z140_7, z145_0, z145_1, SG0, SG1, SG2, SG3, SG4, SG5, SG6, SG7, SG8, SG9, SG10, SG11, SG12, SN0, SN1, SN2, SN3, SN4, SN5, SN6, SN7, SN8, SN9, SN10, SN11, SN12, SN13, SN14, SN15, SN16, SN17, SN18, SJ0, SJ1, SJ2, SJ3, SJ4, SJ5, bindS, if_pos, if_neg, w_isWithin, w_isIn, JB_0, JB_1, bz_B, ite10, ite01, Int.natCast_add, csN0, csN1, csN16, Int.toNat_natCast, ite_not, not_true_eq_false, not_false_eq_true]
          · rw [up_row n2]
            exact a2 x n1 n2
          · rw [cw_row (up_row gne')]
            exact a3
          · rw [cw_up z0 z1, a4]
            simp only [wrT, hy]
            rfl
      obtain ⟨dB, b1, b2, b3, b4⟩ := A2
      refine ⟨(J ((i : Int) + 1), mkH dB), ?_, dB, rfl, b2, ?_⟩
      · simp only [b_X5_wearRound_43]
        rw [if_neg (by rw [J_le (by omega) (by omega) (by omega) (by omega)]; omega)]
        simp only [q_isO (d := d') (a := 140) rfl, bindS, c1, a1, b1, J_add]
      · rw [hs, b3, b4]
    · rintro s ⟨d', rfl, h1, h2⟩
      exact ⟨mkH d', by simp (disch := first | omega | assumption | decide) only [b_X5_wearRound_43, z140_0, z140_1, z140_2, z140_3, z140_4, z140_5, z140_6, z140_7, z145_0, z145_1, SG0, SG1, SG2, SG3, SG4, SG5, SG6, SG7, SG8, SG9, SG10, SG11, SG12, SN0, SN1, SN2, SN3, SN4, SN5, SN6, SN7, SN8, SN9, SN10, SN11, SN12, SN13, SN14, SN15, SN16, SN17, SN18, SJ0, SJ1, SJ2, SJ3, SJ4, SJ5, bindS, if_pos, if_neg, w_isWithin, w_isIn, JB_0, JB_1, bz_B, ite10, ite01, Int.natCast_add, csN0, csN1, csN16, Int.toNat_natCast, ite_not, not_true_eq_false, not_false_eq_true], d', rfl, h1, h2⟩
  obtain ⟨e, L1, d', rfl, L2, L3⟩ := L
  refine ⟨d', ?_, L2, L3⟩
  simp (disch := first | omega | assumption | decide) only [f_X5_wearRound, r0, r1, e1, e2, k1, k2, L1, z140_0, z140_1, z140_2, z140_3, z140_4, z140_5, z140_6, z140_7, z145_0, z145_1, SG0, SG1, SG2, SG3, SG4, SG5, SG6, SG7, SG8, SG9, SG10, SG11, SG12, SN0, SN1, SN2, SN3, SN4, SN5, SN6, SN7, SN8, SN9, SN10, SN11, SN12, SN13, SN14, SN15, SN16, SN17, SN18, SJ0, SJ1, SJ2, SJ3, SJ4, SJ5, bindS, if_pos, if_neg, w_isWithin, w_isIn, JB_0, JB_1, bz_B, ite10, ite01, Int.natCast_add, csN0, csN1, csN16, Int.toNat_natCast, ite_not, not_true_eq_false, not_false_eq_true]
/-! wear of the reference -/
theorem up_id {d : Mem} {a : Nat} {k v : Int} (h : v = d a k) : up d a k v = d := by
  funext x y
  unfold up
  by_cases c : x = a ∧ y = k
  · obtain ⟨rfl, rfl⟩ := c
    rw [if_pos ⟨rfl, rfl⟩, h]
  · rw [if_neg c]
theorem vw_up {d : Mem} {i y v : Int} (h0 : 0 ≤ y) (h1 : y < 16) : vw (up d 185 (19 * i + 3 + y) v) 185 i = updW (vw d 185 i) y v := by
  funext k
  unfold updW
  by_cases c : 0 ≤ k ∧ k < 16
  · rw [vw_at c.1 c.2]
    by_cases e : k = y
    · rw [if_pos e, e, up_same]
    · rw [if_neg e, up_nk (by omega), vw_at c.1 c.2]
  · rw [if_neg (by omega)]
    unfold vw tr
    rw [if_neg c, if_neg c]
theorem vw_uo {d : Mem} {i j y v : Int} (hn : i ≠ j) (h0 : 0 ≤ y) (h1 : y < 16) : vw (up d 185 (19 * i + 3 + y) v) 185 j = vw d 185 j := tr_cong (fun k k0 k1 => up_nk (by omega))
theorem hard_rng {k t : Int} (t0 : 0 ≤ t) (t1 : t ≤ 99) : 0 ≤ hardS k t ∧ hardS k t ≤ 25 := by
  unfold hardS
  repeat' split
  all_goals omega
/-- gear i of the reference's row -/
def MG (d : Mem) (i : Int) : Prop := 0 ≤ d 185 (19 * i) ∧ d 185 (19 * i) ≤ 4 ∧ 0 ≤ d 185 (19 * i + 1) ∧ d 185 (19 * i + 1) ≤ 99
theorem m_lessens {d : Mem} {i y load : Int} (h0 : 0 ≤ i) (h1 : i < 12) (y0 : 0 ≤ y) (y1 : y < 16) (G : MG d i) (ok : Wok (vw d 185 i)) (l0 : 1 ≤ load) (l1 : load ≤ 999) : f_X12_lessens (mkH d) 183 (J i) (J y) (J load) = some (mkH (if decide (hardS (d 185 (19 * i)) (d 185 (19 * i + 1)) < load / 10) = true then up d 185 (19 * i + 3 + y) (decS (vw d 185 i y)) else d)) := by
  obtain ⟨g0, g1, g2, g3⟩ := G
  have e := m_hard h0 h1 g0 g1 g2 g3
  obtain ⟨x0, x1⟩ := hard_rng (k := d 185 (19 * i)) g2 g3
  have ow := ok y
  have ev : d 185 (19 * i + 3 + y) = vw d 185 i y := (vw_at y0 y1).symm
  by_cases c : hardS (d 185 (19 * i)) (d 185 (19 * i + 1)) < load / 10
  · rw [if_pos (decide_eq_true c)]
    by_cases z : vw d 185 i y ≤ 0
    · rw [up_id (v := decS (vw d 185 i y)) (by rw [ev]; unfold decS; split <;> omega)]
      simp (disch := first | omega | assumption | decide) only [f_X12_lessens, e, ev, z183_0, z183_1, z183_2, z183_3, z183_4, z183_5, z183_6, z183_7, z183_8, z183_9, z183_10, z183_11, z183_12, z183_13, z183_14, z183_15, z183_16, z183_17, z183_18, z183_19, z183_20, z183_21, z183_22, z183_23, z183_24, z183_25, z183_26, z183_27, z183_28, z183_29, z183_30, z183_31, z183_32, z183_33, z183_34, z183_35, z183_36, z183_37, z183_38, z183_39, z183_40, z183_41, z183_42, z184_0, z184_1, z185_0, z185_1, z186_0, z186_1, z187_0, z187_1, z188_0, z188_1, z189_0, z189_1, z190_0, z190_1, z191_0, z191_1, z192_0, z192_1, z193_0, z193_1, z194_0, z194_1, z195_0, z195_1, z196_0, z196_1, z197_0, z197_1, z198_0, z198_1, z198_2, z199_0, z199_1, z200_0, z200_1, z201_0, z201_1, z202_0, z202_1, SN0, SN1, SN2, SN3, SN4, SN5, SN6, SN7, SN8, SN9, SN10, SN11, SN12, SN13, SN14, SN15, SN16, SN17, SN18, SJ0, SJ1, SJ2, SJ3, SJ4, SJ5, bindS, if_pos, if_neg, w_isWithin, w_isIn, JB_0, JB_1, bz_B, ite10, ite01, Int.natCast_add, csN0, csN1, csN16, Int.toNat_natCast, ite_not, not_true_eq_false, not_false_eq_true]
    · rw [show decS (vw d 185 i y) = vw d 185 i y - 1 by unfold decS; rw [if_neg (by omega)]]
      simp (disch := first | omega | assumption | decide) only [f_X12_lessens, e, ev, z183_0, z183_1, z183_2, z183_3, z183_4, z183_5, z183_6, z183_7, z183_8, z183_9, z183_10, z183_11, z183_12, z183_13, z183_14, z183_15, z183_16, z183_17, z183_18, z183_19, z183_20, z183_21, z183_22, z183_23, z183_24, z183_25, z183_26, z183_27, z183_28, z183_29, z183_30, z183_31, z183_32, z183_33, z183_34, z183_35, z183_36, z183_37, z183_38, z183_39, z183_40, z183_41, z183_42, z184_0, z184_1, z185_0, z185_1, z186_0, z186_1, z187_0, z187_1, z188_0, z188_1, z189_0, z189_1, z190_0, z190_1, z191_0, z191_1, z192_0, z192_1, z193_0, z193_1, z194_0, z194_1, z195_0, z195_1, z196_0, z196_1, z197_0, z197_1, z198_0, z198_1, z198_2, z199_0, z199_1, z200_0, z200_1, z201_0, z201_1, z202_0, z202_1, SN0, SN1, SN2, SN3, SN4, SN5, SN6, SN7, SN8, SN9, SN10, SN11, SN12, SN13, SN14, SN15, SN16, SN17, SN18, SJ0, SJ1, SJ2, SJ3, SJ4, SJ5, bindS, if_pos, if_neg, w_isWithin, w_isIn, JB_0, JB_1, bz_B, ite10, ite01, Int.natCast_add, csN0, csN1, csN16, Int.toNat_natCast, ite_not, not_true_eq_false, not_false_eq_true]
  · rw [if_neg (by simpa using c)]
    simp (disch := first | omega | assumption | decide) only [f_X12_lessens, e, z183_0, z183_1, z183_2, z183_3, z183_4, z183_5, z183_6, z183_7, z183_8, z183_9, z183_10, z183_11, z183_12, z183_13, z183_14, z183_15, z183_16, z183_17, z183_18, z183_19, z183_20, z183_21, z183_22, z183_23, z183_24, z183_25, z183_26, z183_27, z183_28, z183_29, z183_30, z183_31, z183_32, z183_33, z183_34, z183_35, z183_36, z183_37, z183_38, z183_39, z183_40, z183_41, z183_42, z184_0, z184_1, z185_0, z185_1, z186_0, z186_1, z187_0, z187_1, z188_0, z188_1, z189_0, z189_1, z190_0, z190_1, z191_0, z191_1, z192_0, z192_1, z193_0, z193_1, z194_0, z194_1, z195_0, z195_1, z196_0, z196_1, z197_0, z197_1, z198_0, z198_1, z198_2, z199_0, z199_1, z200_0, z200_1, z201_0, z201_1, z202_0, z202_1, SN0, SN1, SN2, SN3, SN4, SN5, SN6, SN7, SN8, SN9, SN10, SN11, SN12, SN13, SN14, SN15, SN16, SN17, SN18, SJ0, SJ1, SJ2, SJ3, SJ4, SJ5, bindS, if_pos, if_neg, w_isWithin, w_isIn, JB_0, JB_1, bz_B, ite10, ite01, Int.natCast_add, csN0, csN1, csN16, Int.toNat_natCast, ite_not, not_true_eq_false, not_false_eq_true]
def RGN (a b k : Int) : Prop := 19 * a + 3 ≤ k ∧ k < 19 * a + 19 ∨ 19 * b + 3 ≤ k ∧ k < 19 * b + 19
theorem m_wears {d : Mem} {m a b rm load : Int} (M : MS d m a b rm) (Ga : MG d a) (Gb : MG d b) (l0 : 1 ≤ load) (l1 : load ≤ 999) : ∃ d', f_X12_wears (mkH d) 183 (J m) (J load) = some (mkH d') ∧ (∀ x k, ¬ (x = 185 ∧ RGN a b k) → d' x k = d x k) ∧ (vw d' 185 a, vw d' 185 b) = wrS (decide (hardS (d 185 (19 * a)) (d 185 (19 * a + 1)) < load / 10)) (decide (hardS (d 185 (19 * b)) (d 185 (19 * b + 1)) < load / 10)) (vw d 185 a, vw d 185 b) 16 := by
  obtain ⟨m0, m1, ea, eb, er, a0, a1, b0, b1, nab, r0, r1, ok, ok'⟩ := id M
  generalize hA : decide (hardS (d 185 (19 * a)) (d 185 (19 * a + 1)) < load / 10) = la
  generalize hB : decide (hardS (d 185 (19 * b)) (d 185 (19 * b + 1)) < load / 10) = lb
  have L : ∃ e, iter (b_X12_wears_2 183 (J m) (J load)) FU (J 0, mkH d) = some e ∧ ∃ d', e = mkH d' ∧ (∀ x k, ¬ (x = 185 ∧ RGN a b k) → d' x k = d x k) ∧ (vw d' 185 a, vw d' 185 b) = wrS la lb (vw d 185 a, vw d 185 b) 16 := by
    refine iter_for (fun i s => ∃ d', s = (J (i : Int), mkH d') ∧ (∀ x k, ¬ (x = 185 ∧ RGN a b k) → d' x k = d x k) ∧ (vw d' 185 a, vw d' 185 b) = wrS la lb (vw d 185 a, vw d 185 b) i) _ 16 (by decide) ⟨d, rfl, fun _ _ _ => rfl, rfl⟩ ?_ ?_
    · rintro i s hi ⟨d', rfl, h1, h2⟩
      obtain ⟨w1, w2⟩ := wrS_ok (la := la) (lb := lb) (s := (vw d 185 a, vw d 185 b)) ok ok' i
      rw [← h2] at w1 w2
      have fx : ∀ k, ¬ RGN a b k → d' 185 k = d 185 k := fun k hk => h1 185 k (fun e => hk e.2)
      have M' : MS d' m a b rm := by
        refine ⟨m0, m1, ?_, ?_, ?_, a0, a1, b0, b1, nab, r0, r1, w1, w2⟩
        · unfold mm at ea ⊢
          rw [fx _ (by unfold RGN; omega)]
          exact ea
        · unfold mm at eb ⊢
          rw [fx _ (by unfold RGN; omega)]
          exact eb
        · unfold mm at er ⊢
          rw [fx _ (by unfold RGN; omega)]
          exact er
      have ka : d' 185 (19 * a) = d 185 (19 * a) := fx _ (by unfold RGN; omega)
      have ta : d' 185 (19 * a + 1) = d 185 (19 * a + 1) := fx _ (by unfold RGN; omega)
      have kb : d' 185 (19 * b) = d 185 (19 * b) := fx _ (by unfold RGN; omega)
      have tb : d' 185 (19 * b + 1) = d 185 (19 * b + 1) := fx _ (by unfold RGN; omega)
      obtain ⟨t0, t1⟩ := touch_rng (vw d' 185 a) (vw d' 185 b) i
      have c1 := m_touchOf M' (t := i) (by omega) (by omega)
      have hs : wrS la lb (vw d 185 a, vw d 185 b) (i + 1) = wrT la lb (vw d' 185 a, vw d' 185 b) i := by rw [h2]; rfl
      generalize hy : touch (vw d' 185 a) (vw d' 185 b) i = y at *
      have z0 : 0 ≤ (15 - y + (i : Int)) % 16 := by omega
      have z1 : (15 - y + (i : Int)) % 16 < 16 := by omega
      have u1 := m_lessens (d := d') (y := y) a0 a1 t0 t1 (by unfold MG; rw [ka, ta]; exact Ga) w1 l0 l1
      rw [ka, ta, hA] at u1
      generalize hdA : (if la = true then up d' 185 (19 * a + 3 + y) (decS (vw d' 185 a y)) else d') = dA at u1
      have A1 : ∀ x k, ¬ (x = 185 ∧ RGN a b k) → dA x k = d x k := by
        intro x k hk
        rw [← hdA]
        split
        · unfold up
          rw [if_neg (fun e => hk ⟨e.1, by rw [e.2]; unfold RGN; omega⟩)]
          exact h1 x k hk
        · exact h1 x k hk
      have A2 : vw dA 185 a = (wrT la lb (vw d' 185 a, vw d' 185 b) i).1 := by
        rw [← hdA]
        cases la with
        | false => simp [wrT]
        | true =>
          simp only [wrT, hy, if_true]
          exact vw_up t0 t1
      have A3 : vw dA 185 b = vw d' 185 b := by
        rw [← hdA]
        split
        · exact vw_uo nab t0 t1
        · rfl
      have fy : ∀ k, ¬ RGN a b k → dA 185 k = d 185 k := fun k hk => A1 185 k (fun e => hk e.2)
      have kb' : dA 185 (19 * b) = d 185 (19 * b) := fy _ (by unfold RGN; omega)
      have tb' : dA 185 (19 * b + 1) = d 185 (19 * b + 1) := fy _ (by unfold RGN; omega)
      have eb' : mm dA m 1 = b := by
        unfold mm at eb ⊢
        rw [fy _ (by unfold RGN; omega)]
        exact eb
      have ea' : mm d' m 0 = a := M'.2.2.1
      have u2 := m_lessens (d := dA) (y := (15 - y + (i : Int)) % 16) b0 b1 z0 z1 (by unfold MG; rw [kb', tb']; exact Gb) (by rw [A3]; exact w2) l0 l1
      rw [kb', tb', hB, A3] at u2
      generalize hdB : (if lb = true then up dA 185 (19 * b + 3 + (15 - y + (i : Int)) % 16) (decS (vw d' 185 b ((15 - y + (i : Int)) % 16))) else dA) = dB at u2
      refine ⟨(J ((i : Int) + 1), mkH dB), ?_, dB, rfl, ?_, ?_⟩
      · simp (disch := first | omega | assumption | decide) only [b_X12_wears_2, c1, m_meshOf, ea', eb', u1, u2, z183_0, z183_1, z183_2, z183_3, z183_4, z183_5, z183_6, z183_7, z183_8, z183_9, z183_10, z183_11, z183_12, z183_13, z183_14, z183_15, z183_16, z183_17, z183_18, z183_19, z183_20, z183_21, z183_22, z183_23, z183_24, z183_25, z183_26, z183_27, z183_28, z183_29, z183_30, z183_31, z183_32, z183_33, z183_34, z183_35, z183_36, z183_37, z183_38, z183_39, z183_40, z183_41, z183_42, z184_0, z184_1, z185_0, z185_1, z186_0, z186_1, z187_0, z187_1, z188_0, z188_1, z189_0, z189_1, z190_0, z190_1, z191_0, z191_1, z192_0, z192_1, z193_0, z193_1, z194_0, z194_1, z195_0, z195_1, z196_0, z196_1, z197_0, z197_1, z198_0, z198_1, z198_2, z199_0, z199_1, z200_0, z200_1, z201_0, z201_1, z202_0, z202_1, SN0, SN1, SN2, SN3, SN4, SN5, SN6, SN7, SN8, SN9, SN10, SN11, SN12, SN13, SN14, SN15, SN16, SN17, SN18, SJ0, SJ1, SJ2, SJ3, SJ4, SJ5, bindS, if_pos, if_neg, w_isWithin, w_isIn, JB_0, JB_1, bz_B, ite10, ite01, Int.natCast_add, csN0, csN1, csN16, Int.toNat_natCast, ite_not, not_true_eq_false, not_false_eq_true]
      · intro x k hk
        rw [← hdB]
        split
        · unfold up
          rw [if_neg (fun e => hk ⟨e.1, by rw [e.2]; unfold RGN; omega⟩)]
          exact A1 x k hk
        · exact A1 x k hk
      · rw [hs]
        refine Prod.ext ?_ ?_
        · show vw dB 185 a = _
          rw [← hdB, ← A2]
          split
          · exact vw_uo (Ne.symm nab) z0 z1
          · rfl
        · show vw dB 185 b = _
          rw [← hdB]
          cases lb with
          | false => simp [wrT, A3]
          | true =>
            simp only [wrT, hy, if_true]
            rw [← A3]
            exact vw_up z0 z1
    · rintro s ⟨d', rfl, h1, h2⟩
      exact ⟨mkH d', by simp (disch := first | omega | assumption | decide) only [b_X12_wears_2, z183_0, z183_1, z183_2, z183_3, z183_4, z183_5, z183_6, z183_7, z183_8, z183_9, z183_10, z183_11, z183_12, z183_13, z183_14, z183_15, z183_16, z183_17, z183_18, z183_19, z183_20, z183_21, z183_22, z183_23, z183_24, z183_25, z183_26, z183_27, z183_28, z183_29, z183_30, z183_31, z183_32, z183_33, z183_34, z183_35, z183_36, z183_37, z183_38, z183_39, z183_40, z183_41, z183_42, z184_0, z184_1, z185_0, z185_1, z186_0, z186_1, z187_0, z187_1, z188_0, z188_1, z189_0, z189_1, z190_0, z190_1, z191_0, z191_1, z192_0, z192_1, z193_0, z193_1, z194_0, z194_1, z195_0, z195_1, z196_0, z196_1, z197_0, z197_1, z198_0, z198_1, z198_2, z199_0, z199_1, z200_0, z200_1, z201_0, z201_1, z202_0, z202_1, SN0, SN1, SN2, SN3, SN4, SN5, SN6, SN7, SN8, SN9, SN10, SN11, SN12, SN13, SN14, SN15, SN16, SN17, SN18, SJ0, SJ1, SJ2, SJ3, SJ4, SJ5, bindS, if_pos, if_neg, w_isWithin, w_isIn, JB_0, JB_1, bz_B, ite10, ite01, Int.natCast_add, csN0, csN1, csN16, Int.toNat_natCast, ite_not, not_true_eq_false, not_false_eq_true], d', rfl, h1, h2⟩
  obtain ⟨e, L1, d', rfl, L2, L3⟩ := L
  refine ⟨d', ?_, L2, L3⟩
  simp (disch := first | omega | assumption | decide) only [f_X12_wears, L1, z183_0, z183_1, z183_2, z183_3, z183_4, z183_5, z183_6, z183_7, z183_8, z183_9, z183_10, z183_11, z183_12, z183_13, z183_14, z183_15, z183_16, z183_17, z183_18, z183_19, z183_20, z183_21, z183_22, z183_23, z183_24, z183_25, z183_26, z183_27, z183_28, z183_29, z183_30, z183_31, z183_32, z183_33, z183_34, z183_35, z183_36, z183_37, z183_38, z183_39, z183_40, z183_41, z183_42, z184_0, z184_1, z185_0, z185_1, z186_0, z186_1, z187_0, z187_1, z188_0, z188_1, z189_0, z189_1, z190_0, z190_1, z191_0, z191_1, z192_0, z192_1, z193_0, z193_1, z194_0, z194_1, z195_0, z195_1, z196_0, z196_1, z197_0, z197_1, z198_0, z198_1, z198_2, z199_0, z199_1, z200_0, z200_1, z201_0, z201_1, z202_0, z202_1, SN0, SN1, SN2, SN3, SN4, SN5, SN6, SN7, SN8, SN9, SN10, SN11, SN12, SN13, SN14, SN15, SN16, SN17, SN18, SJ0, SJ1, SJ2, SJ3, SJ4, SJ5, bindS, if_pos, if_neg, w_isWithin, w_isIn, JB_0, JB_1, bz_B, ite10, ite01, Int.natCast_add, csN0, csN1, csN16, Int.toNat_natCast, ite_not, not_true_eq_false, not_false_eq_true]
