/-! rolling: touch, off, gap, even, loud, whine, wear; of the class's rolling (140) and of the reference's meshes -/
def both (wa wb : Int → Int) (t y : Int) : Int := wa y + wb ((15 - y + t) % 16)
def touS (f : Int → Int) : Nat → Int
  | 0 => 0
  | n + 1 => if f (touS f n) < f ((n : Int) + 1) then (n : Int) + 1 else touS f n
theorem tou_rng (f : Int → Int) : ∀ n : Nat, 0 ≤ touS f n ∧ touS f n ≤ n
  | 0 => by unfold touS; omega
  | n + 1 => by
    have h := tou_rng f n
    unfold touS
    split <;> omega
def touch (wa wb : Int → Int) (t : Int) : Int := touS (both wa wb t) 15
def offS (wa wb : Int → Int) (rm t : Int) : Int := rm - both wa wb t (touch wa wb t)
def gapS (wa wb : Int → Int) (rm : Int) : Int := mnS (offS wa wb rm) 15
def evenS (wa wb : Int → Int) (rm : Int) : Int := mxS (offS wa wb rm) 15 - gapS wa wb rm
def jamS (wa wb : Int → Int) (rm : Int) : Int := match srch (fun n => decide (offS wa wb rm n < 0)) 16 with
  | some i => i
  | none => -4
def cosS (x : Int) : Int := [1000, 924, 707, 383, 0, -383, -707, -924, -1000, -924, -707, -383, 0, 383, 707, 924].getD x.toNat 0
def sumS (f : Int → Int) (k z : Int) : Nat → Int
  | 0 => 0
  | n + 1 => sumS f k z n + f n * cosS ((k * (n : Int) + z) % 16)
def loudS (f : Int → Int) (k : Int) : Int := (sumS f k 0 16 * sumS f k 0 16 + sumS f k 12 16 * sumS f k 12 16) / 1000000
def whS (l : Int → Int) : Nat → Int
  | 0 => 1
  | n + 1 => if l ((n : Int) + 2) ≤ l (whS l n) then whS l n else (n : Int) + 2
def whineS (wa wb : Int → Int) (rm : Int) : Int := whS (loudS (offS wa wb rm)) 7
theorem wh_rng (l : Int → Int) : ∀ n : Nat, 1 ≤ whS l n ∧ whS l n ≤ n + 1
  | 0 => by unfold whS; omega
  | n + 1 => by
    have h := wh_rng l n
    unfold whS
    split <;> omega
theorem both_rng {wa wb : Int → Int} (ha : Wok wa) (hb : Wok wb) (t y : Int) : 0 ≤ both wa wb t y ∧ both wa wb t y ≤ 62 := by
  have h1 := ha y
  have h2 := hb ((15 - y + t) % 16)
  unfold both
  omega
theorem off_rng {wa wb : Int → Int} {rm : Int} (ha : Wok wa) (hb : Wok wb) (hr : 0 ≤ rm ∧ rm ≤ 62) (t : Int) : -62 ≤ offS wa wb rm t ∧ offS wa wb rm t ≤ 62 := by
  have h1 := both_rng ha hb t (touch wa wb t)
  unfold offS
  omega
theorem cos_case {x : Int} (h0 : 0 ≤ x) (h1 : x < 16) : x = 0 ∨ x = 1 ∨ x = 2 ∨ x = 3 ∨ x = 4 ∨ x = 5 ∨ x = 6 ∨ x = 7 ∨ x = 8 ∨ x = 9 ∨ x = 10 ∨ x = 11 ∨ x = 12 ∨ x = 13 ∨ x = 14 ∨ x = 15 := by omega
theorem cos_rng {x : Int} (h0 : 0 ≤ x) (h1 : x < 16) : -1000 ≤ cosS x ∧ cosS x ≤ 1000 := by
  rcases cos_case h0 h1 with rfl | rfl | rfl | rfl | rfl | rfl | rfl | rfl | rfl | rfl | rfl | rfl | rfl | rfl | rfl | rfl <;> decide
theorem mulc {v x : Int} (h0 : 0 ≤ x) (h1 : x < 16) (v0 : -62 ≤ v) (v1 : v ≤ 62) : -62000 ≤ v * cosS x ∧ v * cosS x ≤ 62000 := by
  have c0 : cosS 0 = 1000 := rfl
  have c1 : cosS 1 = 924 := rfl
  have c2 : cosS 2 = 707 := rfl
  have c3 : cosS 3 = 383 := rfl
  have c4 : cosS 4 = 0 := rfl
  have c5 : cosS 5 = -383 := rfl
  have c6 : cosS 6 = -707 := rfl
  have c7 : cosS 7 = -924 := rfl
  have c8 : cosS 8 = -1000 := rfl
  have c9 : cosS 9 = -924 := rfl
  have c10 : cosS 10 = -707 := rfl
  have c11 : cosS 11 = -383 := rfl
  have c12 : cosS 12 = 0 := rfl
  have c13 : cosS 13 = 383 := rfl
  have c14 : cosS 14 = 707 := rfl
  have c15 : cosS 15 = 924 := rfl
  rcases cos_case h0 h1 with rfl | rfl | rfl | rfl | rfl | rfl | rfl | rfl | rfl | rfl | rfl | rfl | rfl | rfl | rfl | rfl <;> (simp only [c0, c1, c2, c3, c4, c5, c6, c7, c8, c9, c10, c11, c12, c13, c14, c15]; omega)
theorem aS_cos {x : Int} (h0 : 0 ≤ x) (h1 : x < 16) : aS 2 (J x) = some (J (cosS x)) := by
  rcases cos_case h0 h1 with rfl | rfl | rfl | rfl | rfl | rfl | rfl | rfl | rfl | rfl | rfl | rfl | rfl | rfl | rfl | rfl <;> rfl
theorem sum_rng {f : Int → Int} (h : ∀ n : Nat, -62 ≤ f n ∧ f n ≤ 62) (k z : Int) : ∀ n : Nat, -62000 * n ≤ sumS f k z n ∧ sumS f k z n ≤ 62000 * n
  | 0 => by unfold sumS; omega
  | n + 1 => by
    have q := sum_rng h k z n
    have q2 := h n
    have q3 := mulc (v := f n) (x := (k * (n : Int) + z) % 16) (Int.emod_nonneg _ (by decide)) (Int.emod_lt_of_pos _ (by decide)) q2.1 q2.2
    unfold sumS
    omega
theorem sq_rng {c C : Int} (h0 : -C ≤ c) (h1 : c ≤ C) : 0 ≤ c * c ∧ c * c ≤ C * C := by
  have e : ((c.natAbs : Int)) ≤ C := by omega
  have q : c * c = (c.natAbs : Int) * (c.natAbs : Int) := (Int.natAbs_mul_self (a := c)).symm ▸ by simp
  rw [q]
  exact ⟨Int.mul_nonneg (by omega) (by omega), Int.mul_le_mul e e (by omega) (by omega)⟩
theorem loud_rng {f : Int → Int} (h : ∀ n : Nat, -62 ≤ f n ∧ f n ≤ 62) (k : Int) : 0 ≤ loudS f k ∧ loudS f k ≤ 2000000 := by
  have q1 := sum_rng h k 0 16
  have q2 := sum_rng h k 12 16
  have s1 := sq_rng (c := sumS f k 0 16) (C := 992000) (by omega) (by omega)
  have s2 := sq_rng (c := sumS f k 12 16) (C := 992000) (by omega) (by omega)
  unfold loudS
  omega
theorem mul_rng {k t : Int} (k0 : 0 ≤ k) (k1 : k ≤ 8) (t0 : 0 ≤ t) (t1 : t < 16) : 0 ≤ k * t ∧ k * t ≤ 128 := by
  refine ⟨Int.mul_nonneg k0 t0, ?_⟩
  have : k * t ≤ 8 * 16 := Int.mul_le_mul k1 (by omega) t0 (by decide)
  omega
/-! the class's rolling -/
def RLg (d : Mem) (ga gb : Nat) : Prop := d 140 0 = ga ∧ d 140 1 = gb ∧ isG ga ∧ isG gb ∧ Wok (cw d ga) ∧ Wok (cw d gb) ∧ 0 ≤ d 140 2 ∧ d 140 2 ≤ 62
theorem isG_144 {g : Nat} (h : isG g) : 145 ≠ g + 1 := by
  intro e
  have : g = 144 := by omega
  subst this
  exact absurd h.1 (by decide)
section
variable {d : Mem} {ga gb : Nat}
theorem c_facing {y t : Int} (h0 : 0 ≤ y) (h1 : y < 16) (t0 : 0 ≤ t) (t1 : t < 16) : f_X5_facing (J y) (J t) = some (J ((15 - y + t) % 16)) := by
  simp (disch := first | omega | assumption | decide) only [f_X5_facing, z140_0, z140_1, z140_2, z140_3, z140_4, z140_5, z140_6, z140_7, z145_0, z145_1, SG0, SG1, SG2, SG3, SG4, SG5, SG6, SG7, SG8, SG9, SG10, SG11, SG12, SN0, SN1, SN2, SN3, SN4, SN5, SN6, SN7, SN8, SN9, SN10, SN11, SN12, SN13, SN14, SN15, SN16, SN17, SN18, SJ0, SJ1, SJ2, SJ3, SJ4, SJ5, bindS, if_pos, if_neg, w_isWithin, w_isIn, JB_0, JB_1, bz_B, ite10, ite01, Int.natCast_add, csN0, csN1, csN16, Int.toNat_natCast, ite_not, not_true_eq_false, not_false_eq_true]
theorem c_bothAt (R : RLg d ga gb) {y t : Int} (h0 : 0 ≤ y) (h1 : y < 16) (t0 : 0 ≤ t) (t1 : t < 16) : f_X5_bothAt (mkH d) 140 (J y) (J t) = some (J (both (cw d ga) (cw d gb) t y)) := by
  obtain ⟨r0, r1, hg, hg', -⟩ := R
  simp (disch := first | omega | assumption | decide) only [f_X5_bothAt, r0, r1, c_facing, both, z140_0, z140_1, z140_2, z140_3, z140_4, z140_5, z140_6, z140_7, z145_0, z145_1, SG0, SG1, SG2, SG3, SG4, SG5, SG6, SG7, SG8, SG9, SG10, SG11, SG12, SN0, SN1, SN2, SN3, SN4, SN5, SN6, SN7, SN8, SN9, SN10, SN11, SN12, SN13, SN14, SN15, SN16, SN17, SN18, SJ0, SJ1, SJ2, SJ3, SJ4, SJ5, bindS, if_pos, if_neg, w_isWithin, w_isIn, JB_0, JB_1, bz_B, ite10, ite01, Int.natCast_add, csN0, csN1, csN16, Int.toNat_natCast, ite_not, not_true_eq_false, not_false_eq_true]
theorem c_touchAt (R : RLg d ga gb) {t : Int} (t0 : 0 ≤ t) (t1 : t < 16) : f_X5_touchAt (mkH d) 140 (J t) = some (J (touch (cw d ga) (cw d gb) t)) := by
  obtain ⟨r0, r1, hg, hg', ok, ok', -⟩ := id R
  have L : iter (b_X5_touchAt_12 (mkH d) 140 (J t)) FU (J 0, J (both (cw d ga) (cw d gb) t 0), J 1) = some (J (touS (both (cw d ga) (cw d gb) t) 15)) := by
    refine iter_at (fun i => (J (touS (both (cw d ga) (cw d gb) t) i), J (both (cw d ga) (cw d gb) t (touS (both (cw d ga) (cw d gb) t) i)), J ((i : Int) + 1))) 15 rfl (by decide) (fun i hi => ?_) ?_
    · have q1 := both_rng ok ok' t (touS (both (cw d ga) (cw d gb) t) i)
      have q2 := both_rng ok ok' t ((i : Int) + 1)
      by_cases c : both (cw d ga) (cw d gb) t ((i : Int) + 1) ≤ both (cw d ga) (cw d gb) t (touS (both (cw d ga) (cw d gb) t) i)
      · simp (disch := first | omega | assumption | decide) only [b_X5_touchAt_12, c_bothAt R, touS, z140_0, z140_1, z140_2, z140_3, z140_4, z140_5, z140_6, z140_7, z145_0, z145_1, SG0, SG1, SG2, SG3, SG4, SG5, SG6, SG7, SG8, SG9, SG10, SG11, SG12, SN0, SN1, SN2, SN3, SN4, SN5, SN6, SN7, SN8, SN9, SN10, SN11, SN12, SN13, SN14, SN15, SN16, SN17, SN18, SJ0, SJ1, SJ2, SJ3, SJ4, SJ5, bindS, if_pos, if_neg, w_isWithin, w_isIn, JB_0, JB_1, bz_B, ite10, ite01, Int.natCast_add, csN0, csN1, csN16, Int.toNat_natCast, ite_not, not_true_eq_false, not_false_eq_true]
      · simp (disch := first | omega | assumption | decide) only [b_X5_touchAt_12, c_bothAt R, touS, z140_0, z140_1, z140_2, z140_3, z140_4, z140_5, z140_6, z140_7, z145_0, z145_1, SG0, SG1, SG2, SG3, SG4, SG5, SG6, SG7, SG8, SG9, SG10, SG11, SG12, SN0, SN1, SN2, SN3, SN4, SN5, SN6, SN7, SN8, SN9, SN10, SN11, SN12, SN13, SN14, SN15, SN16, SN17, SN18, SJ0, SJ1, SJ2, SJ3, SJ4, SJ5, bindS, if_pos, if_neg, w_isWithin, w_isIn, JB_0, JB_1, bz_B, ite10, ite01, Int.natCast_add, csN0, csN1, csN16, Int.toNat_natCast, ite_not, not_true_eq_false, not_false_eq_true]
    · simp (disch := first | omega | assumption | decide) only [b_X5_touchAt_12, z140_0, z140_1, z140_2, z140_3, z140_4, z140_5, z140_6, z140_7, z145_0, z145_1, SG0, SG1, SG2, SG3, SG4, SG5, SG6, SG7, SG8, SG9, SG10, SG11, SG12, SN0, SN1, SN2, SN3, SN4, SN5, SN6, SN7, SN8, SN9, SN10, SN11, SN12, SN13, SN14, SN15, SN16, SN17, SN18, SJ0, SJ1, SJ2, SJ3, SJ4, SJ5, bindS, if_pos, if_neg, w_isWithin, w_isIn, JB_0, JB_1, bz_B, ite10, ite01, Int.natCast_add, csN0, csN1, csN16, Int.toNat_natCast, ite_not, not_true_eq_false, not_false_eq_true]
  simp (disch := first | omega | assumption | decide) only [f_X5_touchAt, c_bothAt R, L, touch, z140_0, z140_1, z140_2, z140_3, z140_4, z140_5, z140_6, z140_7, z145_0, z145_1, SG0, SG1, SG2, SG3, SG4, SG5, SG6, SG7, SG8, SG9, SG10, SG11, SG12, SN0, SN1, SN2, SN3, SN4, SN5, SN6, SN7, SN8, SN9, SN10, SN11, SN12, SN13, SN14, SN15, SN16, SN17, SN18, SJ0, SJ1, SJ2, SJ3, SJ4, SJ5, bindS, if_pos, if_neg, w_isWithin, w_isIn, JB_0, JB_1, bz_B, ite10, ite01, Int.natCast_add, csN0, csN1, csN16, Int.toNat_natCast, ite_not, not_true_eq_false, not_false_eq_true]
theorem RL_row {d' : Mem} (R : RLg d ga gb) (h : ∀ a, a ≠ 145 → d' a = d a) : RLg d' ga gb ∧ cw d' ga = cw d ga ∧ cw d' gb = cw d gb ∧ d' 140 2 = d 140 2 := by
  obtain ⟨r0, r1, hg, hg', ok, ok', r2, r3⟩ := R
  have e1 : cw d' ga = cw d ga := by unfold cw; rw [h _ (fun e => isG_144 hg e.symm)]
  have e2 : cw d' gb = cw d gb := by unfold cw; rw [h _ (fun e => isG_144 hg' e.symm)]
  have e3 := h 140 (by decide)
  unfold RLg
  rw [e1, e2, e3]
  exact ⟨⟨r0, r1, hg, hg', ok, ok', r2, r3⟩, rfl, rfl, rfl⟩
theorem c_measure (R : RLg d ga gb) : f_X5_measure (mkH d) 140 = some (mkH (fl d 145 0 16 (offS (cw d ga) (cw d gb) (d 140 2)))) := by
  have L : iter (b_X5_measure_2 140) FU (J 0, mkH d) = some (mkH (fl d 145 0 16 (offS (cw d ga) (cw d gb) (d 140 2)))) := by
    refine iter_at (fun i => (J (i : Int), mkH (fl d 145 0 i (offS (cw d ga) (cw d gb) (d 140 2))))) 16 (by simp only [cs0, fl_0]) (by decide) (fun i hi => ?_) ?_
    · obtain ⟨R', e1, e2, e3⟩ := RL_row (d' := fl d 145 0 i (offS (cw d ga) (cw d gb) (d 140 2))) R (fun a ha => fl_row ha)
      have q := tou_rng (both (cw d ga) (cw d gb) i) 15
      have c1 := c_touchAt R' (t := i) (by omega) (by omega)
      have c2 := c_bothAt R' (y := touch (cw d ga) (cw d gb) i) (t := i) q.1 (by unfold touch; omega) (by omega) (by omega)
      rw [e1, e2] at c1 c2
      simp (disch := first | omega | assumption | decide) only [b_X5_measure_2, c1, c2, e3, z140_0, z140_1, z140_2, z140_3, z140_4, z140_5, z140_6, z140_7, z145_0, z145_1, SG0, SG1, SG2, SG3, SG4, SG5, SG6, SG7, SG8, SG9, SG10, SG11, SG12, SN0, SN1, SN2, SN3, SN4, SN5, SN6, SN7, SN8, SN9, SN10, SN11, SN12, SN13, SN14, SN15, SN16, SN17, SN18, SJ0, SJ1, SJ2, SJ3, SJ4, SJ5, bindS, if_pos, if_neg, w_isWithin, w_isIn, JB_0, JB_1, bz_B, ite10, ite01, Int.natCast_add, csN0, csN1, csN16, Int.toNat_natCast, ite_not, not_true_eq_false, not_false_eq_true]
      exact congrArg (fun z => some (Sum.inl (J ((i : Int) + 1), mkH z))) (fl_up (by omega) (by omega) rfl)
    · simp (disch := first | omega | assumption | decide) only [b_X5_measure_2, z140_0, z140_1, z140_2, z140_3, z140_4, z140_5, z140_6, z140_7, z145_0, z145_1, SG0, SG1, SG2, SG3, SG4, SG5, SG6, SG7, SG8, SG9, SG10, SG11, SG12, SN0, SN1, SN2, SN3, SN4, SN5, SN6, SN7, SN8, SN9, SN10, SN11, SN12, SN13, SN14, SN15, SN16, SN17, SN18, SJ0, SJ1, SJ2, SJ3, SJ4, SJ5, bindS, if_pos, if_neg, w_isWithin, w_isIn, JB_0, JB_1, bz_B, ite10, ite01, Int.natCast_add, csN0, csN1, csN16, Int.toNat_natCast, ite_not, not_true_eq_false, not_false_eq_true]
  simp (disch := first | omega | assumption | decide) only [f_X5_measure, L, z140_0, z140_1, z140_2, z140_3, z140_4, z140_5, z140_6, z140_7, z145_0, z145_1, SG0, SG1, SG2, SG3, SG4, SG5, SG6, SG7, SG8, SG9, SG10, SG11, SG12, SN0, SN1, SN2, SN3, SN4, SN5, SN6, SN7, SN8, SN9, SN10, SN11, SN12, SN13, SN14, SN15, SN16, SN17, SN18, SJ0, SJ1, SJ2, SJ3, SJ4, SJ5, bindS, if_pos, if_neg, w_isWithin, w_isIn, JB_0, JB_1, bz_B, ite10, ite01, Int.natCast_add, csN0, csN1, csN16, Int.toNat_natCast, ite_not, not_true_eq_false, not_false_eq_true]
/-- measured: the row 145 tells OFF -/
def Msd (d : Mem) (f : Int → Int) : Prop := (∀ t, 0 ≤ t → t < 16 → d 145 t = f t) ∧ ∀ n : Nat, -62 ≤ f n ∧ f n ≤ 62
variable {f : Int → Int}
theorem c_firstJam (M : Msd d f) : f_X5_firstJam (mkH d) 140 = some (J (match srch (fun n => decide (f n < 0)) 16 with
    | some i => i
    | none => -4)) := by
  obtain ⟨M1, M2⟩ := M
  have L := iter_srch (b := b_X5_firstJam_2 (mkH d) 140) (fun i => J (i : Int)) (fun n => decide (f n < 0)) 16 (s0 := J 0) (e0 := .inl ()) (fun i => .inr (J i)) rfl (by decide) (fun i hi hc => ?_) (fun i hi hc => ?_) ?_
  · cases hs : srch (fun n => decide (f n < 0)) 16 with
    | none =>
      rw [hs] at L
      simp (disch := first | omega | assumption | decide) only [f_X5_firstJam, L, z140_0, z140_1, z140_2, z140_3, z140_4, z140_5, z140_6, z140_7, z145_0, z145_1, SG0, SG1, SG2, SG3, SG4, SG5, SG6, SG7, SG8, SG9, SG10, SG11, SG12, SN0, SN1, SN2, SN3, SN4, SN5, SN6, SN7, SN8, SN9, SN10, SN11, SN12, SN13, SN14, SN15, SN16, SN17, SN18, SJ0, SJ1, SJ2, SJ3, SJ4, SJ5, bindS, if_pos, if_neg, w_isWithin, w_isIn, JB_0, JB_1, bz_B, ite10, ite01, Int.natCast_add, csN0, csN1, csN16, Int.toNat_natCast, ite_not, not_true_eq_false, not_false_eq_true]
    | some n =>
      rw [hs] at L
      simp (disch := first | omega | assumption | decide) only [f_X5_firstJam, L, z140_0, z140_1, z140_2, z140_3, z140_4, z140_5, z140_6, z140_7, z145_0, z145_1, SG0, SG1, SG2, SG3, SG4, SG5, SG6, SG7, SG8, SG9, SG10, SG11, SG12, SN0, SN1, SN2, SN3, SN4, SN5, SN6, SN7, SN8, SN9, SN10, SN11, SN12, SN13, SN14, SN15, SN16, SN17, SN18, SJ0, SJ1, SJ2, SJ3, SJ4, SJ5, bindS, if_pos, if_neg, w_isWithin, w_isIn, JB_0, JB_1, bz_B, ite10, ite01, Int.natCast_add, csN0, csN1, csN16, Int.toNat_natCast, ite_not, not_true_eq_false, not_false_eq_true]
  · have hc := of_decide_eq_false hc
    have q := M2 i
    simp (disch := first | omega | assumption | decide) only [b_X5_firstJam_2, M1, z140_0, z140_1, z140_2, z140_3, z140_4, z140_5, z140_6, z140_7, z145_0, z145_1, SG0, SG1, SG2, SG3, SG4, SG5, SG6, SG7, SG8, SG9, SG10, SG11, SG12, SN0, SN1, SN2, SN3, SN4, SN5, SN6, SN7, SN8, SN9, SN10, SN11, SN12, SN13, SN14, SN15, SN16, SN17, SN18, SJ0, SJ1, SJ2, SJ3, SJ4, SJ5, bindS, if_pos, if_neg, w_isWithin, w_isIn, JB_0, JB_1, bz_B, ite10, ite01, Int.natCast_add, csN0, csN1, csN16, Int.toNat_natCast, ite_not, not_true_eq_false, not_false_eq_true]
  · have hc := of_decide_eq_true hc
    have q := M2 i
    simp (disch := first | omega | assumption | decide) only [b_X5_firstJam_2, M1, z140_0, z140_1, z140_2, z140_3, z140_4, z140_5, z140_6, z140_7, z145_0, z145_1, SG0, SG1, SG2, SG3, SG4, SG5, SG6, SG7, SG8, SG9, SG10, SG11, SG12, SN0, SN1, SN2, SN3, SN4, SN5, SN6, SN7, SN8, SN9, SN10, SN11, SN12, SN13, SN14, SN15, SN16, SN17, SN18, SJ0, SJ1, SJ2, SJ3, SJ4, SJ5, bindS, if_pos, if_neg, w_isWithin, w_isIn, JB_0, JB_1, bz_B, ite10, ite01, Int.natCast_add, csN0, csN1, csN16, Int.toNat_natCast, ite_not, not_true_eq_false, not_false_eq_true]
  · simp (disch := first | omega | assumption | decide) only [b_X5_firstJam_2, z140_0, z140_1, z140_2, z140_3, z140_4, z140_5, z140_6, z140_7, z145_0, z145_1, SG0, SG1, SG2, SG3, SG4, SG5, SG6, SG7, SG8, SG9, SG10, SG11, SG12, SN0, SN1, SN2, SN3, SN4, SN5, SN6, SN7, SN8, SN9, SN10, SN11, SN12, SN13, SN14, SN15, SN16, SN17, SN18, SJ0, SJ1, SJ2, SJ3, SJ4, SJ5, bindS, if_pos, if_neg, w_isWithin, w_isIn, JB_0, JB_1, bz_B, ite10, ite01, Int.natCast_add, csN0, csN1, csN16, Int.toNat_natCast, ite_not, not_true_eq_false, not_false_eq_true]
theorem c_leastOff (M : Msd d f) : f_X5_leastOff (mkH d) 140 = some (J (mnS f 15)) := by
  obtain ⟨M1, M2⟩ := M
  have L : iter (b_X5_leastOff_9 (mkH d) 140) FU (J (f 0), J 1) = some (J (mnS f 15)) := by
    refine iter_at (fun i => (J (mnS f i), J ((i : Int) + 1))) 15 rfl (by decide) (fun i hi => ?_) ?_
    · have h1 := M2 (i + 1)
      have h2 := mn_rng M2 i
      rw [cs1] at h1
      simp (disch := first | omega | assumption | decide) only [b_X5_leastOff_9, M1, iteJ, mnS, z140_0, z140_1, z140_2, z140_3, z140_4, z140_5, z140_6, z140_7, z145_0, z145_1, SG0, SG1, SG2, SG3, SG4, SG5, SG6, SG7, SG8, SG9, SG10, SG11, SG12, SN0, SN1, SN2, SN3, SN4, SN5, SN6, SN7, SN8, SN9, SN10, SN11, SN12, SN13, SN14, SN15, SN16, SN17, SN18, SJ0, SJ1, SJ2, SJ3, SJ4, SJ5, bindS, if_pos, if_neg, w_isWithin, w_isIn, JB_0, JB_1, bz_B, ite10, ite01, Int.natCast_add, csN0, csN1, csN16, Int.toNat_natCast, ite_not, not_true_eq_false, not_false_eq_true]
    · simp (disch := first | omega | assumption | decide) only [b_X5_leastOff_9, z140_0, z140_1, z140_2, z140_3, z140_4, z140_5, z140_6, z140_7, z145_0, z145_1, SG0, SG1, SG2, SG3, SG4, SG5, SG6, SG7, SG8, SG9, SG10, SG11, SG12, SN0, SN1, SN2, SN3, SN4, SN5, SN6, SN7, SN8, SN9, SN10, SN11, SN12, SN13, SN14, SN15, SN16, SN17, SN18, SJ0, SJ1, SJ2, SJ3, SJ4, SJ5, bindS, if_pos, if_neg, w_isWithin, w_isIn, JB_0, JB_1, bz_B, ite10, ite01, Int.natCast_add, csN0, csN1, csN16, Int.toNat_natCast, ite_not, not_true_eq_false, not_false_eq_true]
  simp (disch := first | omega | assumption | decide) only [f_X5_leastOff, M1, L, z140_0, z140_1, z140_2, z140_3, z140_4, z140_5, z140_6, z140_7, z145_0, z145_1, SG0, SG1, SG2, SG3, SG4, SG5, SG6, SG7, SG8, SG9, SG10, SG11, SG12, SN0, SN1, SN2, SN3, SN4, SN5, SN6, SN7, SN8, SN9, SN10, SN11, SN12, SN13, SN14, SN15, SN16, SN17, SN18, SJ0, SJ1, SJ2, SJ3, SJ4, SJ5, bindS, if_pos, if_neg, w_isWithin, w_isIn, JB_0, JB_1, bz_B, ite10, ite01, Int.natCast_add, csN0, csN1, csN16, Int.toNat_natCast, ite_not, not_true_eq_false, not_false_eq_true]
theorem c_spread (M : Msd d f) : f_X5_spread (mkH d) 140 = some (J (mxS f 15 - mnS f 15)) := by
  have q := c_leastOff M
  obtain ⟨M1, M2⟩ := M
  have L : iter (b_X5_spread_9 (mkH d) 140) FU (J (f 0), J 1) = some (J (mxS f 15)) := by
    refine iter_at (fun i => (J (mxS f i), J ((i : Int) + 1))) 15 rfl (by decide) (fun i hi => ?_) ?_
    · have h1 := M2 (i + 1)
      have h2 := mx_rng M2 i
      rw [cs1] at h1
      simp (disch := first | omega | assumption | decide) only [b_X5_spread_9, M1, iteJ, mxS, z140_0, z140_1, z140_2, z140_3, z140_4, z140_5, z140_6, z140_7, z145_0, z145_1, SG0, SG1, SG2, SG3, SG4, SG5, SG6, SG7, SG8, SG9, SG10, SG11, SG12, SN0, SN1, SN2, SN3, SN4, SN5, SN6, SN7, SN8, SN9, SN10, SN11, SN12, SN13, SN14, SN15, SN16, SN17, SN18, SJ0, SJ1, SJ2, SJ3, SJ4, SJ5, bindS, if_pos, if_neg, w_isWithin, w_isIn, JB_0, JB_1, bz_B, ite10, ite01, Int.natCast_add, csN0, csN1, csN16, Int.toNat_natCast, ite_not, not_true_eq_false, not_false_eq_true]
    · simp (disch := first | omega | assumption | decide) only [b_X5_spread_9, z140_0, z140_1, z140_2, z140_3, z140_4, z140_5, z140_6, z140_7, z145_0, z145_1, SG0, SG1, SG2, SG3, SG4, SG5, SG6, SG7, SG8, SG9, SG10, SG11, SG12, SN0, SN1, SN2, SN3, SN4, SN5, SN6, SN7, SN8, SN9, SN10, SN11, SN12, SN13, SN14, SN15, SN16, SN17, SN18, SJ0, SJ1, SJ2, SJ3, SJ4, SJ5, bindS, if_pos, if_neg, w_isWithin, w_isIn, JB_0, JB_1, bz_B, ite10, ite01, Int.natCast_add, csN0, csN1, csN16, Int.toNat_natCast, ite_not, not_true_eq_false, not_false_eq_true]
  simp (disch := first | omega | assumption | decide) only [f_X5_spread, M1, L, q, z140_0, z140_1, z140_2, z140_3, z140_4, z140_5, z140_6, z140_7, z145_0, z145_1, SG0, SG1, SG2, SG3, SG4, SG5, SG6, SG7, SG8, SG9, SG10, SG11, SG12, SN0, SN1, SN2, SN3, SN4, SN5, SN6, SN7, SN8, SN9, SN10, SN11, SN12, SN13, SN14, SN15, SN16, SN17, SN18, SJ0, SJ1, SJ2, SJ3, SJ4, SJ5, bindS, if_pos, if_neg, w_isWithin, w_isIn, JB_0, JB_1, bz_B, ite10, ite01, Int.natCast_add, csN0, csN1, csN16, Int.toNat_natCast, ite_not, not_true_eq_false, not_false_eq_true]
theorem c_loudness (M : Msd d f) {k : Int} (k0 : 0 ≤ k) (k1 : k ≤ 8) : f_X5_loudness (mkH d) 140 (J k) = some (K (loudS f k)) := by
  obtain ⟨M1, M2⟩ := M
  have L : iter (b_X5_loudness_8 (mkH d) 140 (J k)) FU (K 0, K 0, J 0) = some (K (sumS f k 0 16), K (sumS f k 12 16)) := by
    refine iter_at (fun i => (K (sumS f k 0 i), K (sumS f k 12 i), J (i : Int))) 16 rfl (by decide) (fun i hi => ?_) ?_
    · have h1 := M2 i
      obtain ⟨m0, m1⟩ := mul_rng k0 k1 (t := i) (by omega) (by omega)
      have x0 : (k * (i : Int) + 0) % 16 = k * (i : Int) % 16 := by omega
      have x1 : (k * (i : Int) % 16 + 12) % 16 = (k * (i : Int) + 12) % 16 := by omega
      obtain ⟨y0, y1⟩ := mulc (v := f i) (x := k * (i : Int) % 16) (by omega) (by omega) h1.1 h1.2
      obtain ⟨z0, z1⟩ := mulc (v := f i) (x := (k * (i : Int) + 12) % 16) (by omega) (by omega) h1.1 h1.2
      simp (disch := first | omega | assumption | decide) only [b_X5_loudness_8, M1, aS_cos, sumS, x0, x1, z140_0, z140_1, z140_2, z140_3, z140_4, z140_5, z140_6, z140_7, z145_0, z145_1, SG0, SG1, SG2, SG3, SG4, SG5, SG6, SG7, SG8, SG9, SG10, SG11, SG12, SN0, SN1, SN2, SN3, SN4, SN5, SN6, SN7, SN8, SN9, SN10, SN11, SN12, SN13, SN14, SN15, SN16, SN17, SN18, SJ0, SJ1, SJ2, SJ3, SJ4, SJ5, bindS, if_pos, if_neg, w_isWithin, w_isIn, JB_0, JB_1, bz_B, ite10, ite01, Int.natCast_add, csN0, csN1, csN16, Int.toNat_natCast, ite_not, not_true_eq_false, not_false_eq_true]
    · simp (disch := first | omega | assumption | decide) only [b_X5_loudness_8, z140_0, z140_1, z140_2, z140_3, z140_4, z140_5, z140_6, z140_7, z145_0, z145_1, SG0, SG1, SG2, SG3, SG4, SG5, SG6, SG7, SG8, SG9, SG10, SG11, SG12, SN0, SN1, SN2, SN3, SN4, SN5, SN6, SN7, SN8, SN9, SN10, SN11, SN12, SN13, SN14, SN15, SN16, SN17, SN18, SJ0, SJ1, SJ2, SJ3, SJ4, SJ5, bindS, if_pos, if_neg, w_isWithin, w_isIn, JB_0, JB_1, bz_B, ite10, ite01, Int.natCast_add, csN0, csN1, csN16, Int.toNat_natCast, ite_not, not_true_eq_false, not_false_eq_true]
  have q1 := sum_rng M2 k 0 16
  have q2 := sum_rng M2 k 12 16
  have s1 := sq_rng (c := sumS f k 0 16) (C := 992000) (by omega) (by omega)
  have s2 := sq_rng (c := sumS f k 12 16) (C := 992000) (by omega) (by omega)
  simp (disch := first | omega | assumption | decide) only [f_X5_loudness, L, loudS, K_div, z140_0, z140_1, z140_2, z140_3, z140_4, z140_5, z140_6, z140_7, z145_0, z145_1, SG0, SG1, SG2, SG3, SG4, SG5, SG6, SG7, SG8, SG9, SG10, SG11, SG12, SN0, SN1, SN2, SN3, SN4, SN5, SN6, SN7, SN8, SN9, SN10, SN11, SN12, SN13, SN14, SN15, SN16, SN17, SN18, SJ0, SJ1, SJ2, SJ3, SJ4, SJ5, bindS, if_pos, if_neg, w_isWithin, w_isIn, JB_0, JB_1, bz_B, ite10, ite01, Int.natCast_add, csN0, csN1, csN16, Int.toNat_natCast, ite_not, not_true_eq_false, not_false_eq_true]
theorem c_loudestTone (M : Msd d f) : f_X5_loudestTone (mkH d) 140 = some (J (whS (loudS f) 7)) := by
  have L : iter (b_X5_loudestTone_4 (mkH d) 140) FU (J 1, J 2) = some (J (whS (loudS f) 7)) := by
    refine iter_at (fun i => (J (whS (loudS f) i), J ((i : Int) + 2))) 7 (Prod.ext rfl (congrArg J (by omega : (2 : Int) = ((0 : Nat) : Int) + 2))) (by decide) (fun i hi => ?_) ?_
    · have w := wh_rng (loudS f) i
      have h1 := loud_rng M.2 ((i : Int) + 2)
      have h2 := loud_rng M.2 (whS (loudS f) i)
      have e : (i : Int) + 1 + 2 = (i : Int) + 2 + 1 := by omega
      simp (disch := first | omega | assumption | decide) only [b_X5_loudestTone_4, c_loudness M, lg_le, iteS, iteJ, whS, e, z140_0, z140_1, z140_2, z140_3, z140_4, z140_5, z140_6, z140_7, z145_0, z145_1, SG0, SG1, SG2, SG3, SG4, SG5, SG6, SG7, SG8, SG9, SG10, SG11, SG12, SN0, SN1, SN2, SN3, SN4, SN5, SN6, SN7, SN8, SN9, SN10, SN11, SN12, SN13, SN14, SN15, SN16, SN17, SN18, SJ0, SJ1, SJ2, SJ3, SJ4, SJ5, bindS, if_pos, if_neg, w_isWithin, w_isIn, JB_0, JB_1, bz_B, ite10, ite01, Int.natCast_add, csN0, csN1, csN16, Int.toNat_natCast, ite_not, not_true_eq_false, not_false_eq_true]
    · simp (disch := first | omega | assumption | decide) only [b_X5_loudestTone_4, z140_0, z140_1, z140_2, z140_3, z140_4, z140_5, z140_6, z140_7, z145_0, z145_1, SG0, SG1, SG2, SG3, SG4, SG5, SG6, SG7, SG8, SG9, SG10, SG11, SG12, SN0, SN1, SN2, SN3, SN4, SN5, SN6, SN7, SN8, SN9, SN10, SN11, SN12, SN13, SN14, SN15, SN16, SN17, SN18, SJ0, SJ1, SJ2, SJ3, SJ4, SJ5, bindS, if_pos, if_neg, w_isWithin, w_isIn, JB_0, JB_1, bz_B, ite10, ite01, Int.natCast_add, csN0, csN1, csN16, Int.toNat_natCast, ite_not, not_true_eq_false, not_false_eq_true]
  simp (disch := first | omega | assumption | decide) only [f_X5_loudestTone, L, z140_0, z140_1, z140_2, z140_3, z140_4, z140_5, z140_6, z140_7, z145_0, z145_1, SG0, SG1, SG2, SG3, SG4, SG5, SG6, SG7, SG8, SG9, SG10, SG11, SG12, SN0, SN1, SN2, SN3, SN4, SN5, SN6, SN7, SN8, SN9, SN10, SN11, SN12, SN13, SN14, SN15, SN16, SN17, SN18, SJ0, SJ1, SJ2, SJ3, SJ4, SJ5, bindS, if_pos, if_neg, w_isWithin, w_isIn, JB_0, JB_1, bz_B, ite10, ite01, Int.natCast_add, csN0, csN1, csN16, Int.toNat_natCast, ite_not, not_true_eq_false, not_false_eq_true]
end
