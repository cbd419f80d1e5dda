/-! what is told of flanks, in whole numbers; gears and rolling of the class, gears and meshes of the reference -/
def Wok (w : Int → Int) : Prop := ∀ y, 0 ≤ w y ∧ w y ≤ 31
def updW (w : Int → Int) (y v : Int) : Int → Int := fun i => if i = y then v else w i
def mnS (w : Int → Int) : Nat → Int
  | 0 => w 0
  | n + 1 => if w ((n : Int) + 1) < mnS w n then w ((n : Int) + 1) else mnS w n
def mxS (w : Int → Int) : Nat → Int
  | 0 => w 0
  | n + 1 => if mxS w n < w ((n : Int) + 1) then w ((n : Int) + 1) else mxS w n
theorem mn_rng {w : Int → Int} {lo hi : Int} (h : ∀ n : Nat, lo ≤ w n ∧ w n ≤ hi) : ∀ n : Nat, lo ≤ mnS w n ∧ mnS w n ≤ hi
  | 0 => h 0
  | n + 1 => by
    have h1 := h (n + 1)
    rw [cs1] at h1
    have h2 := mn_rng h n
    unfold mnS
    split <;> omega
theorem mx_rng {w : Int → Int} {lo hi : Int} (h : ∀ n : Nat, lo ≤ w n ∧ w n ≤ hi) : ∀ n : Nat, lo ≤ mxS w n ∧ mxS w n ≤ hi
  | 0 => h 0
  | n + 1 => by
    have h1 := h (n + 1)
    rw [cs1] at h1
    have h2 := mx_rng h n
    unfold mxS
    split <;> omega
def thinS (w : Int → Int) : Int := mnS w 15
theorem thin_rng {w : Int → Int} (h : Wok w) : 0 ≤ thinS w ∧ thinS w ≤ 31 := mn_rng (fun n => h n) 15
theorem ite_le {a b : Int} : (if a ≤ b then a else b) = if b < a then b else a := by split <;> split <;> omega
def undS (w : Int → Int) : Int := match srch (fun n => decide (w n < w ((n : Int) + 1) ∧ w n < mxS w n)) 15 with
  | some i => i
  | none => -4
def hardS (k t : Int) : Int := if k = 0 then 10 else if k = 1 then 20 else if k = 2 then 5 else if k = 3 then 25 else 10 + t / 10
def stiffS (k : Int) : Int := if k = 0 then 8 else if k = 2 then 6 else if k = 4 then 16 else 12
def smS (w : Int → Int) : Nat → Int
  | 0 => 0
  | n + 1 => smS w n + w n
section
variable {d : Mem} {g : Nat} {w : Int → Int}
theorem c_thin (hg : isG g) (ok : Wok (cw d g)) : f_X0_thin (mkH d) g = some (J (thinS (cw d g))) := by
  have L : iter (b_X0_thin_9 (mkH d) g) FU (J (cw d g 0), J 1) = some (J (mnS (cw d g) 15)) := by
    refine iter_at (fun i => (J (mnS (cw d g) i), J ((i : Int) + 1))) 15 rfl (by decide) (fun i hi => ?_) ?_
    · have h1 := ok ((i : Int) + 1)
      have h2 := mn_rng (fun n => ok n) i
      simp (disch := first | omega | assumption | decide) only [b_X0_thin_9, iteJ, mnS, SG0, SG1, SG2, SG3, SG4, SG5, SG6, SG7, SG8, SG9, SG10, SG11, SG12, SN0, SN1, SN2, SN3, SN4, SN5, SN6, SN7, SN8, SN9, SN10, SN11, SN12, SN13, SN14, SN15, SN16, SN17, SN18, SJ0, SJ1, SJ2, SJ3, SJ4, SJ5, bindS, if_pos, if_neg, w_isWithin, w_isIn, JB_0, JB_1, bz_B, ite10, ite01, Int.natCast_add, csN0, csN1, csN16, Int.toNat_natCast, ite_not, not_true_eq_false, not_false_eq_true]
    · simp (disch := first | omega | assumption | decide) only [b_X0_thin_9, SG0, SG1, SG2, SG3, SG4, SG5, SG6, SG7, SG8, SG9, SG10, SG11, SG12, SN0, SN1, SN2, SN3, SN4, SN5, SN6, SN7, SN8, SN9, SN10, SN11, SN12, SN13, SN14, SN15, SN16, SN17, SN18, SJ0, SJ1, SJ2, SJ3, SJ4, SJ5, bindS, if_pos, if_neg, w_isWithin, w_isIn, JB_0, JB_1, bz_B, ite10, ite01, Int.natCast_add, csN0, csN1, csN16, Int.toNat_natCast, ite_not, not_true_eq_false, not_false_eq_true]
  simp (disch := first | omega | assumption | decide) only [f_X0_thin, L, thinS, SG0, SG1, SG2, SG3, SG4, SG5, SG6, SG7, SG8, SG9, SG10, SG11, SG12, SN0, SN1, SN2, SN3, SN4, SN5, SN6, SN7, SN8, SN9, SN10, SN11, SN12, SN13, SN14, SN15, SN16, SN17, SN18, SJ0, SJ1, SJ2, SJ3, SJ4, SJ5, bindS, if_pos, if_neg, w_isWithin, w_isIn, JB_0, JB_1, bz_B, ite10, ite01, Int.natCast_add, csN0, csN1, csN16, Int.toNat_natCast, ite_not, not_true_eq_false, not_false_eq_true]
theorem c_top (hg : isG g) : f_X0_top (mkH d) g = some (J (cw d g 15)) := by
  simp (disch := first | omega | assumption | decide) only [f_X0_top, SG0, SG1, SG2, SG3, SG4, SG5, SG6, SG7, SG8, SG9, SG10, SG11, SG12, SN0, SN1, SN2, SN3, SN4, SN5, SN6, SN7, SN8, SN9, SN10, SN11, SN12, SN13, SN14, SN15, SN16, SN17, SN18, SJ0, SJ1, SJ2, SJ3, SJ4, SJ5, bindS, if_pos, if_neg, w_isWithin, w_isIn, JB_0, JB_1, bz_B, ite10, ite01, Int.natCast_add, csN0, csN1, csN16, Int.toNat_natCast, ite_not, not_true_eq_false, not_false_eq_true]
theorem c_isRing (hg : isG g) (hk : 0 ≤ d g 1 ∧ d g 1 ≤ 4) : f_X0_isRing (mkH d) g = some (J (B (d g 1 = 4))) := by
  obtain ⟨k1, k2⟩ := hk
  simp (disch := first | omega | assumption | decide) only [f_X0_isRing, SG0, SG1, SG2, SG3, SG4, SG5, SG6, SG7, SG8, SG9, SG10, SG11, SG12, SN0, SN1, SN2, SN3, SN4, SN5, SN6, SN7, SN8, SN9, SN10, SN11, SN12, SN13, SN14, SN15, SN16, SN17, SN18, SJ0, SJ1, SJ2, SJ3, SJ4, SJ5, bindS, if_pos, if_neg, w_isWithin, w_isIn, JB_0, JB_1, bz_B, ite10, ite01, Int.natCast_add, csN0, csN1, csN16, Int.toNat_natCast, ite_not, not_true_eq_false, not_false_eq_true]
theorem c_hard (hg : isG g) (hk : 0 ≤ d g 1 ∧ d g 1 ≤ 4) (ht : 0 ≤ d g 2 ∧ d g 2 ≤ 99) : f_X0_hard (mkH d) g = some (J (hardS (d g 1) (d g 2))) := by
  have e := c_isRing hg hk
  obtain ⟨k1, k2⟩ := hk
  obtain ⟨t1, t2⟩ := ht
  have ek : d g 1 = 0 ∨ d g 1 = 1 ∨ d g 1 = 2 ∨ d g 1 = 3 ∨ d g 1 = 4 := by omega
  simp (disch := first | omega | assumption | decide) only [f_X0_hard, e, SG0, SG1, SG2, SG3, SG4, SG5, SG6, SG7, SG8, SG9, SG10, SG11, SG12, SN0, SN1, SN2, SN3, SN4, SN5, SN6, SN7, SN8, SN9, SN10, SN11, SN12, SN13, SN14, SN15, SN16, SN17, SN18, SJ0, SJ1, SJ2, SJ3, SJ4, SJ5, bindS, if_pos, if_neg, w_isWithin, w_isIn, JB_0, JB_1, bz_B, ite10, ite01, Int.natCast_add, csN0, csN1, csN16, Int.toNat_natCast, ite_not, not_true_eq_false, not_false_eq_true]
  rcases ek with q | q | q | q | q
  · rw [q]; rfl
  · rw [q]; rfl
  · rw [q]; rfl
  · rw [q]; rfl
  · rw [q, if_pos rfl]
    show some (J 10 + J (d g 2 / 10)) = some (J (10 + d g 2 / 10))
    rw [J_add]
theorem c_stiff (hg : isG g) (hk : 0 ≤ d g 1 ∧ d g 1 ≤ 4) : f_X0_stiff (mkH d) g = some (J (stiffS (d g 1))) := by
  obtain ⟨k1, k2⟩ := hk
  have ek : d g 1 = 0 ∨ d g 1 = 1 ∨ d g 1 = 2 ∨ d g 1 = 3 ∨ d g 1 = 4 := by omega
  simp (disch := first | omega | assumption | decide) only [f_X0_stiff, SG0, SG1, SG2, SG3, SG4, SG5, SG6, SG7, SG8, SG9, SG10, SG11, SG12, SN0, SN1, SN2, SN3, SN4, SN5, SN6, SN7, SN8, SN9, SN10, SN11, SN12, SN13, SN14, SN15, SN16, SN17, SN18, SJ0, SJ1, SJ2, SJ3, SJ4, SJ5, bindS, if_pos, if_neg, w_isWithin, w_isIn, JB_0, JB_1, bz_B, ite10, ite01, Int.natCast_add, csN0, csN1, csN16, Int.toNat_natCast, ite_not, not_true_eq_false, not_false_eq_true]
  rcases ek with q | q | q | q | q <;> rw [q] <;> rfl
theorem c_undercut (hg : isG g) (ok : Wok (cw d g)) : f_X0_undercut (mkH d) g = some (J (undS (cw d g))) := by
  have L := iter_srch (b := b_X0_undercut_9 (mkH d) g) (fun i => (J (if i = 0 then cw d g 0 else mxS (cw d g) (i - 1)), J (i : Int))) (fun n => decide (cw d g n < cw d g ((n : Int) + 1) ∧ cw d g n < (if n = 0 then cw d g 0 else mxS (cw d g) (n - 1)))) 15 (s0 := (J (cw d g 0), J 0)) (e0 := .inl ()) (fun i => .inr (J i)) rfl (by decide) (fun i hi hc => ?_) (fun i hi hc => ?_) ?_
  · have L2 : srch (fun n => decide (cw d g n < cw d g ((n : Int) + 1) ∧ cw d g n < (if n = 0 then cw d g 0 else mxS (cw d g) (n - 1)))) 15 = srch (fun n => decide (cw d g n < cw d g ((n : Int) + 1) ∧ cw d g n < mxS (cw d g) n)) 15 := by
      refine srch_cong (fun i hi => ?_)
      cases i with
      | zero => rfl
      | succ m =>
        show decide (cw d g ((m + 1 : Nat) : Int) < cw d g (((m + 1 : Nat) : Int) + 1) ∧ cw d g ((m + 1 : Nat) : Int) < mxS (cw d g) m) = decide (cw d g ((m + 1 : Nat) : Int) < cw d g (((m + 1 : Nat) : Int) + 1) ∧ cw d g ((m + 1 : Nat) : Int) < (if mxS (cw d g) m < cw d g ((m : Int) + 1) then cw d g ((m : Int) + 1) else mxS (cw d g) m))
        simp only [cs1]
        apply decide_eq_decide.mpr
        constructor
        · intro h
          refine ⟨h.1, ?_⟩
          split <;> omega
        · intro h
          refine ⟨h.1, ?_⟩
          have h2 := h.2
          split at h2
          · omega
          · exact h2
    rw [L2] at L
    unfold undS
    cases hs : srch (fun n => decide (cw d g n < cw d g ((n : Int) + 1) ∧ cw d g n < mxS (cw d g) n)) 15 with
    | none =>
      rw [hs] at L
      simp (disch := first | omega | assumption | decide) only [f_X0_undercut, L, SG0, SG1, SG2, SG3, SG4, SG5, SG6, SG7, SG8, SG9, SG10, SG11, SG12, SN0, SN1, SN2, SN3, SN4, SN5, SN6, SN7, SN8, SN9, SN10, SN11, SN12, SN13, SN14, SN15, SN16, SN17, SN18, SJ0, SJ1, SJ2, SJ3, SJ4, SJ5, bindS, if_pos, if_neg, w_isWithin, w_isIn, JB_0, JB_1, bz_B, ite10, ite01, Int.natCast_add, csN0, csN1, csN16, Int.toNat_natCast, ite_not, not_true_eq_false, not_false_eq_true]
    | some i =>
      rw [hs] at L
      simp (disch := first | omega | assumption | decide) only [f_X0_undercut, L, SG0, SG1, SG2, SG3, SG4, SG5, SG6, SG7, SG8, SG9, SG10, SG11, SG12, SN0, SN1, SN2, SN3, SN4, SN5, SN6, SN7, SN8, SN9, SN10, SN11, SN12, SN13, SN14, SN15, SN16, SN17, SN18, SJ0, SJ1, SJ2, SJ3, SJ4, SJ5, bindS, if_pos, if_neg, w_isWithin, w_isIn, JB_0, JB_1, bz_B, ite10, ite01, Int.natCast_add, csN0, csN1, csN16, Int.toNat_natCast, ite_not, not_true_eq_false, not_false_eq_true]
  · have h1 := ok i
    have h2 := ok ((i : Int) + 1)
    have h3 : 0 ≤ (if i = 0 then cw d g 0 else mxS (cw d g) (i - 1)) ∧ (if i = 0 then cw d g 0 else mxS (cw d g) (i - 1)) ≤ 31 := by
      split
      · exact ok 0
      · exact mx_rng (fun n => ok n) _
    have h4 : (if (i + 1) = 0 then cw d g 0 else mxS (cw d g) (i + 1 - 1)) = if (if i = 0 then cw d g 0 else mxS (cw d g) (i - 1)) < cw d g i then cw d g i else (if i = 0 then cw d g 0 else mxS (cw d g) (i - 1)) := by
      cases i with
      | zero =>
        show cw d g 0 = if cw d g 0 < cw d g ((0 : Nat) : Int) then cw d g ((0 : Nat) : Int) else cw d g 0
        rw [if_neg (by show ¬ (cw d g 0 < cw d g 0); omega)]
      | succ m => rfl
    have hc := of_decide_eq_false hc
    simp only [h4]
    generalize (if i = 0 then cw d g 0 else mxS (cw d g) (i - 1)) = M at h3 hc
    simp (disch := first | omega | assumption | decide) only [b_X0_undercut_9, iteJ, SG0, SG1, SG2, SG3, SG4, SG5, SG6, SG7, SG8, SG9, SG10, SG11, SG12, SN0, SN1, SN2, SN3, SN4, SN5, SN6, SN7, SN8, SN9, SN10, SN11, SN12, SN13, SN14, SN15, SN16, SN17, SN18, SJ0, SJ1, SJ2, SJ3, SJ4, SJ5, bindS, if_pos, if_neg, w_isWithin, w_isIn, JB_0, JB_1, bz_B, ite10, ite01, Int.natCast_add, csN0, csN1, csN16, Int.toNat_natCast, ite_not, not_true_eq_false, not_false_eq_true]
    by_cases c : cw d g ((i : Int) + 1) ≤ cw d g i
    · simp (disch := first | omega | assumption | decide) only [SN0, SN1, SN2, SN3, SN4, SN5, SN6, SN7, SN8, SN9, SN10, SN11, SN12, SN13, SN14, SN15, SN16, SN17, SN18, SJ0, SJ1, SJ2, SJ3, SJ4, SJ5, bindS, if_pos, if_neg, w_isWithin, w_isIn, JB_0, JB_1, bz_B, ite10, ite01, Int.natCast_add, csN0, csN1, csN16, Int.toNat_natCast, ite_not, not_true_eq_false, not_false_eq_true]
    · have c2 : M ≤ cw d g i := by omega
      simp (disch := first | omega | assumption | decide) only [SN0, SN1, SN2, SN3, SN4, SN5, SN6, SN7, SN8, SN9, SN10, SN11, SN12, SN13, SN14, SN15, SN16, SN17, SN18, SJ0, SJ1, SJ2, SJ3, SJ4, SJ5, bindS, if_pos, if_neg, w_isWithin, w_isIn, JB_0, JB_1, bz_B, ite10, ite01, Int.natCast_add, csN0, csN1, csN16, Int.toNat_natCast, ite_not, not_true_eq_false, not_false_eq_true]
  · have h1 := ok i
    have h2 := ok ((i : Int) + 1)
    have h3 : 0 ≤ (if i = 0 then cw d g 0 else mxS (cw d g) (i - 1)) ∧ (if i = 0 then cw d g 0 else mxS (cw d g) (i - 1)) ≤ 31 := by
      split
      · exact ok 0
      · exact mx_rng (fun n => ok n) _
    have hc := of_decide_eq_true hc
    generalize (if i = 0 then cw d g 0 else mxS (cw d g) (i - 1)) = M at h3 hc
    obtain ⟨hc1, hc2⟩ := hc
    simp (disch := first | omega | assumption | decide) only [b_X0_undercut_9, SG0, SG1, SG2, SG3, SG4, SG5, SG6, SG7, SG8, SG9, SG10, SG11, SG12, SN0, SN1, SN2, SN3, SN4, SN5, SN6, SN7, SN8, SN9, SN10, SN11, SN12, SN13, SN14, SN15, SN16, SN17, SN18, SJ0, SJ1, SJ2, SJ3, SJ4, SJ5, bindS, if_pos, if_neg, w_isWithin, w_isIn, JB_0, JB_1, bz_B, ite10, ite01, Int.natCast_add, csN0, csN1, csN16, Int.toNat_natCast, ite_not, not_true_eq_false, not_false_eq_true]
  · simp (disch := first | omega | assumption | decide) only [b_X0_undercut_9, SG0, SG1, SG2, SG3, SG4, SG5, SG6, SG7, SG8, SG9, SG10, SG11, SG12, SN0, SN1, SN2, SN3, SN4, SN5, SN6, SN7, SN8, SN9, SN10, SN11, SN12, SN13, SN14, SN15, SN16, SN17, SN18, SJ0, SJ1, SJ2, SJ3, SJ4, SJ5, bindS, if_pos, if_neg, w_isWithin, w_isIn, JB_0, JB_1, bz_B, ite10, ite01, Int.natCast_add, csN0, csN1, csN16, Int.toNat_natCast, ite_not, not_true_eq_false, not_false_eq_true]
theorem c_sumOfWidths (hg : isG g) : f_X0_sumOfWidths (mkH d) g = some (J (smS (cw d g) 16)) := by
  have L : iter (b_X0_sumOfWidths_4 (mkH d) g) FU (J 0, J 0) = some (J (smS (cw d g) 16)) := by
    refine iter_at (fun i => (J (smS (cw d g) i), J (i : Int))) 16 rfl (by decide) (fun i hi => ?_) ?_
    · simp (disch := first | omega | assumption | decide) only [b_X0_sumOfWidths_4, smS, SG0, SG1, SG2, SG3, SG4, SG5, SG6, SG7, SG8, SG9, SG10, SG11, SG12, SN0, SN1, SN2, SN3, SN4, SN5, SN6, SN7, SN8, SN9, SN10, SN11, SN12, SN13, SN14, SN15, SN16, SN17, SN18, SJ0, SJ1, SJ2, SJ3, SJ4, SJ5, bindS, if_pos, if_neg, w_isWithin, w_isIn, JB_0, JB_1, bz_B, ite10, ite01, Int.natCast_add, csN0, csN1, csN16, Int.toNat_natCast, ite_not, not_true_eq_false, not_false_eq_true]
    · simp (disch := first | omega | assumption | decide) only [b_X0_sumOfWidths_4, SG0, SG1, SG2, SG3, SG4, SG5, SG6, SG7, SG8, SG9, SG10, SG11, SG12, SN0, SN1, SN2, SN3, SN4, SN5, SN6, SN7, SN8, SN9, SN10, SN11, SN12, SN13, SN14, SN15, SN16, SN17, SN18, SJ0, SJ1, SJ2, SJ3, SJ4, SJ5, bindS, if_pos, if_neg, w_isWithin, w_isIn, JB_0, JB_1, bz_B, ite10, ite01, Int.natCast_add, csN0, csN1, csN16, Int.toNat_natCast, ite_not, not_true_eq_false, not_false_eq_true]
  simp (disch := first | omega | assumption | decide) only [f_X0_sumOfWidths, L, SG0, SG1, SG2, SG3, SG4, SG5, SG6, SG7, SG8, SG9, SG10, SG11, SG12, SN0, SN1, SN2, SN3, SN4, SN5, SN6, SN7, SN8, SN9, SN10, SN11, SN12, SN13, SN14, SN15, SN16, SN17, SN18, SJ0, SJ1, SJ2, SJ3, SJ4, SJ5, bindS, if_pos, if_neg, w_isWithin, w_isIn, JB_0, JB_1, bz_B, ite10, ite01, Int.natCast_add, csN0, csN1, csN16, Int.toNat_natCast, ite_not, not_true_eq_false, not_false_eq_true]
end
