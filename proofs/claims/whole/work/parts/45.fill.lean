/-! rows that a loop fills; copies of gears; cutting -/
def fl (d : Mem) (a : Nat) (o n : Int) (f : Int → Int) : Mem := fun a' k => if a' = a ∧ o ≤ k ∧ k < o + n then f k else d a' k
section
variable {d : Mem} {a a' : Nat} {o n k v : Int} {f f' : Int → Int}
theorem fl_0 : fl d a o 0 f = d := by
  funext x y
  unfold fl
  rw [if_neg (by omega)]
theorem fl_na (h : a' ≠ a) : fl d a o n f a' k = d a' k := if_neg (fun e => h e.1)
theorem fl_row (h : a' ≠ a) : fl d a o n f a' = d a' := by funext k; exact fl_na h
theorem fl_in (h0 : o ≤ k) (h1 : k < o + n) : fl d a o n f a k = f k := if_pos ⟨rfl, h0, h1⟩
theorem fl_out (h : k < o ∨ o + n ≤ k) : fl d a o n f a k = d a k := if_neg (by omega)
theorem fl_up (hn : 0 ≤ n) (hk : k = o + n) (hv : f k = v) : up (fl d a o n f) a k v = fl d a o (n + 1) f := by
  funext x y
  unfold up fl
  by_cases c : x = a ∧ y = k
  · obtain ⟨rfl, rfl⟩ := c
    rw [if_pos ⟨rfl, rfl⟩, if_pos ⟨rfl, by omega, by omega⟩, hv]
  · rw [if_neg c]
    by_cases c2 : x = a ∧ o ≤ y ∧ y < o + n
    · rw [if_pos c2, if_pos ⟨c2.1, c2.2.1, by omega⟩]
    · rw [if_neg c2, if_neg (fun h => by
        have : ¬ y = k := fun e => c ⟨h.1, e⟩
        exact c2 ⟨h.1, h.2.1, by omega⟩)]
theorem fl_skip (hk : k = o + n) (hv : f k = d a k) : fl d a o n f = fl d a o (n + 1) f := by
  funext x y
  unfold fl
  by_cases c2 : x = a ∧ o ≤ y ∧ y < o + n
  · rw [if_pos c2, if_pos ⟨c2.1, c2.2.1, by omega⟩]
  · rw [if_neg c2]
    by_cases c : x = a ∧ o ≤ y ∧ y < o + (n + 1)
    · obtain ⟨rfl, c3, c4⟩ := c
      have : y = k := by
        by_cases e : y < o + n
        · exact absurd ⟨rfl, c3, e⟩ c2
        · omega
      subst this
      rw [if_pos ⟨rfl, c3, c4⟩, hv]
    · rw [if_neg c]
theorem fl_fl : fl (fl d a o n f) a o n f' = fl d a o n f' := by
  funext x y
  unfold fl
  by_cases c2 : x = a ∧ o ≤ y ∧ y < o + n
  · rw [if_pos c2, if_pos c2]
  · rw [if_neg c2, if_neg c2, if_neg c2]
theorem fl_cong (h : ∀ k, o ≤ k → k < o + n → f k = f' k) : fl d a o n f = fl d a o n f' := by
  funext x y
  unfold fl
  by_cases c2 : x = a ∧ o ≤ y ∧ y < o + n
  · rw [if_pos c2, if_pos c2, h y c2.2.1 c2.2.2]
  · rw [if_neg c2, if_neg c2]
end
theorem c_fill {d : Mem} {a len : Nat} {v : Int} (hs : shR a = some (0, len)) (hl : len < 100000000) : f_J7_fill_53178 (mkH d) a (J v) = some (mkH (fl d a 0 len (fun _ => v))) := by
  have L : iter (b_J7_fill_53178_5 a (J v) (J len)) FU (J 0, mkH d) = some (mkH (fl d a 0 len (fun _ => v))) := by
    refine iter_at (fun i => (J (i : Int), mkH (fl d a 0 i (fun _ => v)))) len (by simp only [cs0, fl_0]) hl (fun i hi => ?_) ?_
    · simp (disch := first | omega | assumption | decide) only [b_J7_fill_53178_5, q_sI hs (Nat.le_of_lt (Nat.lt_trans hl (by decide))), SN0, SN1, SN2, SN3, SN4, SN5, SN6, SN7, SN8, SN9, SN10, SN11, SN12, SN13, SN14, SN15, SN16, SN17, SN18, SJ0, SJ1, SJ2, SJ3, SJ4, SJ5, bindS, if_pos, if_neg, w_isWithin, w_isIn, JB_0, JB_1, bz_B, ite10, ite01, Int.natCast_add, csN0, csN1, csN16, Int.toNat_natCast, ite_not, not_true_eq_false, not_false_eq_true]
      rw [fl_up (by omega) (by omega) rfl]
    · simp (disch := first | omega | assumption | decide) only [b_J7_fill_53178_5, SN0, SN1, SN2, SN3, SN4, SN5, SN6, SN7, SN8, SN9, SN10, SN11, SN12, SN13, SN14, SN15, SN16, SN17, SN18, SJ0, SJ1, SJ2, SJ3, SJ4, SJ5, bindS, if_pos, if_neg, w_isWithin, w_isIn, JB_0, JB_1, bz_B, ite10, ite01, Int.natCast_add, csN0, csN1, csN16, Int.toNat_natCast, ite_not, not_true_eq_false, not_false_eq_true]
  simp (disch := first | omega | assumption | decide) only [f_J7_fill_53178, q_aN hs (by decide), L, SN0, SN1, SN2, SN3, SN4, SN5, SN6, SN7, SN8, SN9, SN10, SN11, SN12, SN13, SN14, SN15, SN16, SN17, SN18, SJ0, SJ1, SJ2, SJ3, SJ4, SJ5, bindS, if_pos, if_neg, w_isWithin, w_isIn, JB_0, JB_1, bz_B, ite10, ite01, Int.natCast_add, csN0, csN1, csN16, Int.toNat_natCast, ite_not, not_true_eq_false, not_false_eq_true]
theorem isG_O {g : Nat} (h : isG g) : shO (g + 1) = none := by
  have q := h.2
  unfold shR at q
  split at q
  · cases q
  · assumption
theorem isG_ne {g g' : Nat} (h : isG g) (h' : isG g') : g ≠ g' + 1 := by
  intro e
  have q := isG_O h'
  rw [← e, h.1] at q
  cases q
theorem cw_na {d d' : Mem} {g : Nat} (h : ∀ y, 0 ≤ y → y < 16 → d' (g + 1) y = d (g + 1) y) : cw d' g = cw d g := tr_cong h
theorem cw_fl {d : Mem} {g : Nat} {f : Int → Int} : cw (fl d (g + 1) 0 16 f) g = tr f := tr_cong (fun y h0 h1 => fl_in h0 (by omega))
theorem tr_tr (f : Int → Int) : tr (tr f) = tr f := tr_cong (fun y h0 h1 => tr_at h0 h1)
theorem cw_up {d : Mem} {g : Nat} {y v : Int} (h0 : 0 ≤ y) (h1 : y < 16) : cw (up d (g + 1) y v) g = updW (cw d g) y v := by
  funext k
  unfold updW
  by_cases c : 0 ≤ k ∧ k < 16
  · rw [cw_at c.1 c.2]
    by_cases e : k = y
    · rw [if_pos e, e, up_same]
    · rw [if_neg e, up_nk e, cw_at c.1 c.2]
  · rw [if_neg (by omega)]
    unfold cw tr
    rw [if_neg c, if_neg c]
def cpG (d : Mem) (g g' : Nat) : Mem := fun a k => if a = g ∧ 0 ≤ k ∧ k < 4 then d g' k else if a = g + 1 ∧ 0 ≤ k ∧ k < 16 then d (g' + 1) k else d a k
theorem cpG_na {d : Mem} {g g' a : Nat} {k : Int} (h1 : a ≠ g) (h2 : a ≠ g + 1) : cpG d g g' a k = d a k := by
  unfold cpG
  rw [if_neg (fun e => h1 e.1), if_neg (fun e => h2 e.1)]
theorem cpG_f {d : Mem} {g g' : Nat} {k : Int} (h0 : 0 ≤ k) (h1 : k < 4) : cpG d g g' g k = d g' k := if_pos ⟨rfl, h0, h1⟩
theorem cpG_w {d : Mem} {g g' : Nat} : cw (cpG d g g') g = cw d g' := tr_cong (fun y h0 h1 => by
  unfold cpG
  rw [if_neg (by omega), if_pos ⟨rfl, h0, h1⟩])
theorem c_gearTake {d : Mem} {g g' : Nat} (hg : isG g) (hg' : isG g') (hne : g' ≠ g) : f_X0_takeFrom (mkH d) g g' = some (mkH (cpG d g g')) := by
  have n1 := isG_ne hg hg'
  have n2 := isG_ne hg' hg
  have n3 : g' + 1 ≠ g := fun e => n1 e.symm
  simp (disch := first | omega | assumption | decide) only [f_X0_takeFrom, q_cp hg'.2 hg.2, up_na hne, SG0, SG1, SG2, SG3, SG4, SG5, SG6, SG7, SG8, SG9, SG10, SG11, SG12, SN0, SN1, SN2, SN3, SN4, SN5, SN6, SN7, SN8, SN9, SN10, SN11, SN12, SN13, SN14, SN15, SN16, SN17, SN18, SJ0, SJ1, SJ2, SJ3, SJ4, SJ5, bindS, if_pos, if_neg, w_isWithin, w_isIn, JB_0, JB_1, bz_B, ite10, ite01, Int.natCast_add, csN0, csN1, csN16, Int.toNat_natCast, ite_not, not_true_eq_false, not_false_eq_true]
  congr 2
  funext a k
  unfold cpy cpG
  by_cases c1 : a = g + 1 ∧ 0 ≤ k ∧ k < 16
  · obtain ⟨rfl, c2, c3⟩ := c1
    rw [if_pos ⟨rfl, c2, by omega⟩, if_neg (by omega), if_pos ⟨rfl, c2, c3⟩, up_na n3, up_na n3, up_na n3, up_na n3, show (0 : Int) + (k - 0) = k by omega]
  · rw [if_neg (fun h => c1 ⟨h.1, h.2.1, by omega⟩), if_neg c1]
    by_cases c4 : a = g ∧ 0 ≤ k ∧ k < 4
    · obtain ⟨rfl, c2, c3⟩ := c4
      rw [if_pos ⟨rfl, c2, c3⟩]
      have hk : k = 0 ∨ k = 1 ∨ k = 2 ∨ k = 3 := by omega
      rcases hk with rfl | rfl | rfl | rfl <;> simp [up]
    · rw [if_neg c4]
      by_cases e : a = g
      · subst e
        rw [up_nk (by omega), up_nk (by omega), up_nk (by omega), up_nk (by omega)]
      · rw [up_na e, up_na e, up_na e, up_na e]
theorem c_wearAt {d : Mem} {g : Nat} {y : Int} (hg : isG g) (ok : Wok (cw d g)) (h0 : 0 ≤ y) (h1 : y < 16) : f_X0_wearAt (mkH d) g (J y) = some (mkH (up d (g + 1) y (if cw d g y - 1 < 0 then 0 else cw d g y - 1))) := by
  have h2 := ok y
  simp (disch := first | omega | assumption | decide) only [f_X0_wearAt, iteJ, SG0, SG1, SG2, SG3, SG4, SG5, SG6, SG7, SG8, SG9, SG10, SG11, SG12, SN0, SN1, SN2, SN3, SN4, SN5, SN6, SN7, SN8, SN9, SN10, SN11, SN12, SN13, SN14, SN15, SN16, SN17, SN18, SJ0, SJ1, SJ2, SJ3, SJ4, SJ5, bindS, if_pos, if_neg, w_isWithin, w_isIn, JB_0, JB_1, bz_B, ite10, ite01, Int.natCast_add, csN0, csN1, csN16, Int.toNat_natCast, ite_not, not_true_eq_false, not_false_eq_true]
/-! cutting -/
def lfS (r : Int → Int) (sh u y : Int) : Int := 31 - (r (y - u) + sh - u * u / 8)
def mx0 (l : Int) : Int := if l < 0 then 0 else l
def cut1 (r : Int → Int) (sh u : Int) (w : Int → Int) : Int → Int := tr (fun y => if 0 ≤ y - u ∧ y - u ≤ 15 then (if mx0 (lfS r sh u y) < w y then mx0 (lfS r sh u y) else w y) else w y)
def cutN (r : Int → Int) (sh n : Int) : Nat → Int → Int
  | 0 => tr (fun _ => 31)
  | k + 1 => cut1 r sh (16 * (k : Int) / n - 8) (cutN r sh n k)
theorem sq8 {u : Int} (h0 : -8 ≤ u) (h1 : u ≤ 8) : 0 ≤ u * u ∧ u * u ≤ 64 := by
  have h : u = -8 ∨ u = -7 ∨ u = -6 ∨ u = -5 ∨ u = -4 ∨ u = -3 ∨ u = -2 ∨ u = -1 ∨ u = 0 ∨ u = 1 ∨ u = 2 ∨ u = 3 ∨ u = 4 ∨ u = 5 ∨ u = 6 ∨ u = 7 ∨ u = 8 := by omega
  rcases h with rfl | rfl | rfl | rfl | rfl | rfl | rfl | rfl | rfl | rfl | rfl | rfl | rfl | rfl | rfl | rfl | rfl <;> decide
theorem up8 {k n : Int} (h0 : 0 ≤ k) (h1 : k < n) : -8 ≤ 16 * k / n - 8 ∧ 16 * k / n - 8 ≤ 7 := by
  have a := Int.ediv_nonneg (a := 16 * k) (b := n) (by omega) (by omega)
  have b : 16 * k / n < 16 := Int.ediv_lt_of_lt_mul (by omega) (by omega)
  omega
theorem cut1_rng {r w : Int → Int} {sh u : Int} (h : Wok w) : Wok (cut1 r sh u w) := by
  intro y
  have q := h y
  unfold cut1 tr mx0
  split
  · show 0 ≤ (if 0 ≤ y - u ∧ y - u ≤ 15 then _ else _) ∧ (if 0 ≤ y - u ∧ y - u ≤ 15 then _ else _) ≤ 31
    repeat' split
    all_goals omega
  · omega
theorem cutN_rng {r : Int → Int} {sh n : Int} : ∀ k : Nat, Wok (cutN r sh n k)
  | 0 => fun y => by
    unfold cutN tr
    split
    · show (0 : Int) ≤ 31 ∧ (31 : Int) ≤ 31
      omega
    · omega
  | k + 1 => cut1_rng (cutN_rng k)
theorem cutN_tr {r : Int → Int} {sh n : Int} : ∀ k : Nat, tr (cutN r sh n k) = cutN r sh n k
  | 0 => tr_tr _
  | k + 1 => tr_tr _
theorem c_cutOnce {d : Mem} {g e : Nat} {sh u : Int} (hg : isG g) (he : shR e = some (0, 120)) (hne : e ≠ g + 1) (ok : Wok (cw d g)) (hr : ∀ y, 0 ≤ y → y < 16 → 0 ≤ d e y ∧ d e y ≤ 31) (s0 : -8 ≤ sh) (s1 : sh ≤ 8) (u0 : -8 ≤ u) (u1 : u ≤ 7) : f_X0_cutOnce (mkH d) g e (J sh) (J u) = some (mkH (fl d (g + 1) 0 16 (cut1 (d e) sh u (cw d g)))) := by
  obtain ⟨u2, u3⟩ := sq8 u0 (by omega : u ≤ 8)
  have L : iter (b_X0_cutOnce_3 g e (J sh) (J u)) FU (J 0, mkH d) = some (mkH (fl d (g + 1) 0 16 (cut1 (d e) sh u (cw d g)))) := by
    refine iter_at (fun i => (J (i : Int), mkH (fl d (g + 1) 0 i (cut1 (d e) sh u (cw d g))))) 16 (by simp only [cs0, fl_0]) (by decide) (fun i hi => ?_) ?_
    · have ei : cw (fl d (g + 1) 0 i (cut1 (d e) sh u (cw d g))) g i = cw d g i := by
        rw [cw_at (by omega) (by omega), cw_at (by omega) (by omega), fl_out (by omega)]
      by_cases c : 0 ≤ (i : Int) - u ∧ (i : Int) - u ≤ 15
      · obtain ⟨c1, c2⟩ := c
        have q := hr ((i : Int) - u) c1 (by omega)
        have q2 := ok i
        have el : fl d (g + 1) 0 i (cut1 (d e) sh u (cw d g)) e ((i : Int) - u) = d e ((i : Int) - u) := fl_na hne
        simp (disch := first | omega | assumption | decide) only [b_X0_cutOnce_3, q_aI he (by decide), el, ei, iteJ, B_t (show (0 ≤ (i : Int) - u ∧ (i : Int) - u ≤ 15) from ⟨c1, c2⟩), SG0, SG1, SG2, SG3, SG4, SG5, SG6, SG7, SG8, SG9, SG10, SG11, SG12, SN0, SN1, SN2, SN3, SN4, SN5, SN6, SN7, SN8, SN9, SN10, SN11, SN12, SN13, SN14, SN15, SN16, SN17, SN18, SJ0, SJ1, SJ2, SJ3, SJ4, SJ5, bindS, if_pos, if_neg, w_isWithin, w_isIn, JB_0, JB_1, bz_B, ite10, ite01, Int.natCast_add, csN0, csN1, csN16, Int.toNat_natCast, ite_not, not_true_eq_false, not_false_eq_true]
        rw [fl_up (by omega) (by omega)]
        unfold cut1
        rw [tr_at (by omega) (by omega), if_pos ⟨c1, c2⟩]
        rfl
      · simp (disch := first | omega | assumption | decide) only [b_X0_cutOnce_3, B_f c, SG0, SG1, SG2, SG3, SG4, SG5, SG6, SG7, SG8, SG9, SG10, SG11, SG12, SN0, SN1, SN2, SN3, SN4, SN5, SN6, SN7, SN8, SN9, SN10, SN11, SN12, SN13, SN14, SN15, SN16, SN17, SN18, SJ0, SJ1, SJ2, SJ3, SJ4, SJ5, bindS, if_pos, if_neg, w_isWithin, w_isIn, JB_0, JB_1, bz_B, ite10, ite01, Int.natCast_add, csN0, csN1, csN16, Int.toNat_natCast, ite_not, not_true_eq_false, not_false_eq_true]
        rw [← fl_skip (k := i) (by omega)]
        unfold cut1
        rw [tr_at (by omega) (by omega), if_neg c, cw_at (by omega) (by omega)]
    · simp (disch := first | omega | assumption | decide) only [b_X0_cutOnce_3, SG0, SG1, SG2, SG3, SG4, SG5, SG6, SG7, SG8, SG9, SG10, SG11, SG12, SN0, SN1, SN2, SN3, SN4, SN5, SN6, SN7, SN8, SN9, SN10, SN11, SN12, SN13, SN14, SN15, SN16, SN17, SN18, SJ0, SJ1, SJ2, SJ3, SJ4, SJ5, bindS, if_pos, if_neg, w_isWithin, w_isIn, JB_0, JB_1, bz_B, ite10, ite01, Int.natCast_add, csN0, csN1, csN16, Int.toNat_natCast, ite_not, not_true_eq_false, not_false_eq_true]
  simp (disch := first | omega | assumption | decide) only [f_X0_cutOnce, L, SG0, SG1, SG2, SG3, SG4, SG5, SG6, SG7, SG8, SG9, SG10, SG11, SG12, SN0, SN1, SN2, SN3, SN4, SN5, SN6, SN7, SN8, SN9, SN10, SN11, SN12, SN13, SN14, SN15, SN16, SN17, SN18, SJ0, SJ1, SJ2, SJ3, SJ4, SJ5, bindS, if_pos, if_neg, w_isWithin, w_isIn, JB_0, JB_1, bz_B, ite10, ite01, Int.natCast_add, csN0, csN1, csN16, Int.toNat_natCast, ite_not, not_true_eq_false, not_false_eq_true]
theorem c_cutBy {d : Mem} {g e : Nat} {sh : Int} {n : Nat} (hg : isG g) (he : shR e = some (0, 120)) (hne : e ≠ g + 1) (hr : ∀ y, 0 ≤ y → y < 16 → 0 ≤ d e y ∧ d e y ≤ 31) (s0 : -8 ≤ sh) (s1 : sh ≤ 8) (n0 : 1 ≤ n) (n1 : n ≤ 32) : f_X0_cutBy (mkH d) g e (J sh) (J n) = some (mkH (fl d (g + 1) 0 16 (cutN (d e) sh n n))) := by
  have L : iter (b_X0_cutBy_12 g e (J sh) (J n)) FU (J 0, mkH (fl d (g + 1) 0 16 (fun _ => 31))) = some (mkH (fl d (g + 1) 0 16 (cutN (d e) sh n n))) := by
    refine iter_at (fun i => (J (i : Int), mkH (fl d (g + 1) 0 16 (cutN (d e) sh n i)))) n ?_ (by omega) (fun i hi => ?_) ?_
    · simp only [cs0]
      congr 2
      exact fl_cong (fun k h0 h1 => (tr_at (f := fun _ => 31) h0 (by omega)).symm)
    · obtain ⟨u0, u1⟩ := up8 (k := i) (n := n) (by omega) (by omega)
      have ok : Wok (cw (fl d (g + 1) 0 16 (cutN (d e) sh n i)) g) := by
        rw [cw_fl, cutN_tr]
        exact cutN_rng i
      have ee : fl d (g + 1) 0 16 (cutN (d e) sh n i) e = d e := fl_row hne
      have q := c_cutOnce (d := fl d (g + 1) 0 16 (cutN (d e) sh n i)) hg he hne ok (by rw [ee]; exact hr) s0 s1 u0 u1
      rw [ee, cw_fl, cutN_tr, fl_fl] at q
      simp (disch := first | omega | assumption | decide) only [b_X0_cutBy_12, nz_J, q, SG0, SG1, SG2, SG3, SG4, SG5, SG6, SG7, SG8, SG9, SG10, SG11, SG12, SN0, SN1, SN2, SN3, SN4, SN5, SN6, SN7, SN8, SN9, SN10, SN11, SN12, SN13, SN14, SN15, SN16, SN17, SN18, SJ0, SJ1, SJ2, SJ3, SJ4, SJ5, bindS, if_pos, if_neg, w_isWithin, w_isIn, JB_0, JB_1, bz_B, ite10, ite01, Int.natCast_add, csN0, csN1, csN16, Int.toNat_natCast, ite_not, not_true_eq_false, not_false_eq_true]
      rfl
    · simp (disch := first | omega | assumption | decide) only [b_X0_cutBy_12, SG0, SG1, SG2, SG3, SG4, SG5, SG6, SG7, SG8, SG9, SG10, SG11, SG12, SN0, SN1, SN2, SN3, SN4, SN5, SN6, SN7, SN8, SN9, SN10, SN11, SN12, SN13, SN14, SN15, SN16, SN17, SN18, SJ0, SJ1, SJ2, SJ3, SJ4, SJ5, bindS, if_pos, if_neg, w_isWithin, w_isIn, JB_0, JB_1, bz_B, ite10, ite01, Int.natCast_add, csN0, csN1, csN16, Int.toNat_natCast, ite_not, not_true_eq_false, not_false_eq_true]
  have e1 := c_fill (d := d) (v := 31) hg.2 (by decide)
  simp (disch := first | omega | assumption | decide) only [f_X0_cutBy, e1, SG0, SG1, SG2, SG3, SG4, SG5, SG6, SG7, SG8, SG9, SG10, SG11, SG12, SN0, SN1, SN2, SN3, SN4, SN5, SN6, SN7, SN8, SN9, SN10, SN11, SN12, SN13, SN14, SN15, SN16, SN17, SN18, SJ0, SJ1, SJ2, SJ3, SJ4, SJ5, bindS, if_pos, if_neg, w_isWithin, w_isIn, JB_0, JB_1, bz_B, ite10, ite01, Int.natCast_add, csN0, csN1, csN16, Int.toNat_natCast, ite_not, not_true_eq_false, not_false_eq_true]
  rw [L]
  rfl
theorem cut_eq {v w : Int} (h : 0 ≤ w) : (if w ≤ v then w else if 0 ≤ v then v else 0) = (if mx0 v < w then mx0 v else w) := by
  unfold mx0
  by_cases c1 : w ≤ v
  · rw [if_pos c1, if_neg (by split <;> omega)]
  · rw [if_neg c1]
    by_cases c2 : 0 ≤ v
    · rw [if_pos c2, if_neg (show ¬ v < 0 by omega), if_pos (by omega)]
    · rw [if_neg c2, if_pos (show v < 0 by omega)]
      split <;> omega
