/-! tests and ors of the class's rule reader; all of a rule -/
section
variable {d : Mem} {b : Nat} {tx : Int → Int} {n : Int}
/-- what is said of a reader r of an item t that stands at p -/
def Say (d : Mem) (r : Option (Int32 × Hp)) (T : Int × Bool × Bool) : Prop := ∃ v : Bool, r = some (J (B (v = true)), mkH (rs d T.1 (if T.2.1 = true then 0 else 1))) ∧ (T.2.1 = true → v = T.2.2)
def finT (w j : Int32) (h : Hp) : Option (Int32 × Hp) := ((if j = w then some (J 1) else some (J 0))).bind fun (j47 : Int32) => (bz j47).bind fun _ => some (j47, h)
def parF (g : Hp → Nat → Int32 → Option (Int32 × Hp)) (h : Hp) (dp : Int32) : Option (Int32 × Hp) :=
  (isO h 128 6).bind fun _ => (g h 128 (dp + (J 1))).bind fun r42 => (isO r42.2 128 6).bind fun _ => (f_X4_takeOrStop_6 r42.2 128 (J 41)).bind fun r44 => some (r42.1, r44)
theorem tst_form (g : Hp → Nat → Int32 → Option (Int32 × Hp)) (h : Hp) (dp : Int32) : F_X7_readTest g h 128 dp = (iter (b_X7_readTest_4 g 128 dp) FU (J 1, J 0, h)).bind fun e3 => ((if (J 8) ≤ dp then spathF e3.2 else (isO e3.2 128 6).bind fun _ => (f_X4_takes_6 e3.2 128 (J 40)).bind fun r23 => if r23.1 = 0 then spathF r23.2 else parF g r23.2 dp)).bind fun j4 => finT e3.1 j4.1 j4.2 := rfl
theorem fin_val (w v : Bool) (h : Hp) : finT (J (B (w = true))) (J (B (v = true))) h = some (J (B ((v == w) = true)), h) := by cases w <;> cases v <;> rfl
theorem tst_sps {fld : Int → Int32} {F dep : Nat} {p : Int} (h1 : chS tx n p ≠ 33) (h2 : ¬ (chS tx n p = 40 ∧ dep ≠ 8)) : tstS (chS tx n) fld (F + 1) dep p = spsS (chS tx n) fld p := by
  unfold tstS
  rw [if_neg h1]
  by_cases c : chS tx n p = 40
  · have e8 : dep = 8 := by
      by_cases e : dep = 8
      · exact e
      · exact absurd ⟨c, e⟩ h2
    rw [if_pos c, if_pos e8]
    have ea : atomS (chS tx n) fld p = (p, false, 0) := by unfold atomS; rw [c]; rfl
    have es : smmS (chS tx n) fld p = (p, false, 0) := by unfold smmS; rw [ea]; rfl
    unfold spsS
    rw [es]
    rfl
  · rw [if_neg c]
    rfl
theorem k_tst (R : RD d b tx n) {D dep : Nat} (hd : dep ≤ 8) (Hg : dep < 8 → ∀ (F : Nat) (p : Int), 0 ≤ p → p ≤ n → n - p < F → Say d (f_X7_readOr D (mkH (rs d p 0)) 128 (J ((dep + 1 : Nat) : Int))) (orS (chS tx n) (tstS (chS tx n) (fldC d) F (dep + 1)) p)) {F : Nat} {p : Int} (p0 : 0 ≤ p) (p1 : p ≤ n) (hF : n - p < F) : Say d (F_X7_readTest (f_X7_readOr D) (mkH (rs d p 0)) 128 (J dep)) (tstS (chS tx n) (fldC d) F dep p) := by
  have hn := R.2.2.2.1
  obtain ⟨r, hr, hr2⟩ : ∃ r : Nat, n - p ≤ r ∧ r < F ∧ r ≤ 120 := ⟨(n - p).toNat, by omega, by omega, by omega⟩
  have L := k_bang R (g := f_X7_readOr D) (dp := J dep) r FU p 0 true hr (by unfold FU; omega) (by decide) (by omega) p0 p1
  obtain ⟨b0, b1, b2⟩ := bang_rng (tx := tx) r p true hr p0 p1
  obtain ⟨F', f1, f2, f3⟩ := tst_bang (tx := tx) (fld := fldC d) (dep := dep) r p true F hr hr2.1 p0 p1
  generalize hq : (bangS (chS tx n) r p true).1 = q at *
  generalize hw : (bangS (chS tx n) r p true).2 = w at *
  have L : iter (b_X7_readTest_4 (f_X7_readOr D) 128 (J dep)) FU (J 1, J 0, mkH (rs d p 0)) = some (J (B (w = true)), mkH (rs d q 0)) := L
  have qO : ∀ p s, isO (mkH (rs d p s)) 128 6 = some () := fun p s => q_isO rfl
  obtain ⟨F0, rfl⟩ : ∃ F0, F' = F0 + 1 := ⟨F' - 1, by omega⟩
  -- the middle
  have key : Say d (if (J 8) ≤ J (dep : Int) then spathF (mkH (rs d q 0)) else (isO (mkH (rs d q 0)) 128 6).bind fun _ => (f_X4_takes_6 (mkH (rs d q 0)) 128 (J 40)).bind fun r23 => if r23.1 = 0 then spathF r23.2 else parF (f_X7_readOr D) r23.2 (J dep)) (tstS (chS tx n) (fldC d) (F0 + 1) dep q) := by
    have t := k_takes R (p := q) (x := 40) (by omega) b1 (by decide) (by decide)
    by_cases c : chS tx n q = 40 ∧ dep ≠ 8
    · obtain ⟨c, c8⟩ := c
      rw [if_pos c] at t
      rw [if_neg (by rw [J_le (by omega) (by omega) (by omega) (by omega)]; omega)]
      have hlt := ch_lt (tx := tx) (n := n) (p := q) (by omega)
      obtain ⟨v, g1, g2⟩ := Hg (by omega) F0 (q + 1) (by omega) (by omega) (by omega)
      have e : tstS (chS tx n) (fldC d) (F0 + 1) dep q = if (orS (chS tx n) (tstS (chS tx n) (fldC d) F0 (dep + 1)) (q + 1)).2.1 = true then (if chS tx n (orS (chS tx n) (tstS (chS tx n) (fldC d) F0 (dep + 1)) (q + 1)).1 = 41 then ((orS (chS tx n) (tstS (chS tx n) (fldC d) F0 (dep + 1)) (q + 1)).1 + 1, true, (orS (chS tx n) (tstS (chS tx n) (fldC d) F0 (dep + 1)) (q + 1)).2.2) else ((orS (chS tx n) (tstS (chS tx n) (fldC d) F0 (dep + 1)) (q + 1)).1, false, false)) else ((orS (chS tx n) (tstS (chS tx n) (fldC d) F0 (dep + 1)) (q + 1)).1, false, false) := by
        conv => lhs; unfold tstS
        rw [if_neg b2, if_pos c, if_neg c8]
      rw [e]
      obtain ⟨o1, o2, o3⟩ := orS_rng (tx := tx) (n := n) (tst_rng (tx := tx) (n := n) (fld := fldC d) F0 (dep + 1)) (q + 1) (by omega) (by omega)
      generalize orS (chS tx n) (tstS (chS tx n) (fldC d) F0 (dep + 1)) (q + 1) = T at *
      obtain ⟨x, o, y⟩ := T
      have ej : J ((dep + 1 : Nat) : Int) = J (dep : Int) + J 1 := by rw [J_add]; rfl
      rw [ej] at g1
      simp only [] at g1 g2 o1 o2 o3 ⊢
      by_cases co : o = true
      · rw [if_pos co] at g1 ⊢
        have t2 := k_tos R (p := x) (x := 41) (by omega) o3 (by decide) (by decide)
        by_cases c41 : chS tx n x = 41
        · rw [if_pos c41] at t2 ⊢
          exact ⟨v, by simp only [qO, t, bindS, parF, g1, t2, J_zero, J10, if_false, if_true], fun _ => g2 co⟩
        · rw [if_neg c41] at t2 ⊢
          exact ⟨v, by simp only [qO, t, bindS, parF, g1, t2, J_zero, J10, if_false, if_true]; rfl, fun e => Bool.noConfusion (show false = true from e)⟩
      · rw [if_neg co] at g1 ⊢
        have t2 := k_tosS (d := d) (p := x) (x := 41) (by decide) (by decide)
        exact ⟨v, by simp only [qO, t, bindS, parF, g1, t2, J_zero, J10, if_false, if_true]; rfl, fun e => Bool.noConfusion (show false = true from e)⟩
    · rw [tst_sps b2 c]
      have s := k_spath R (p := q) (by omega) b1
      by_cases c8 : dep = 8
      · rw [if_pos (by subst c8; decide)]
        exact s
      · rw [if_neg (by rw [J_le (by omega) (by omega) (by omega) (by omega)]; omega)]
        rw [if_neg (fun e => c ⟨e, c8⟩)] at t
        simp only [qO, t, bindS, J_zero, if_true]
        exact s
  obtain ⟨v, k1, k2⟩ := key
  rw [f3]
  refine ⟨v == w, ?_, fun e => ?_⟩
  · rw [tst_form, L]
    simp only [bindS]
    rw [k1]
    simp only [bindS, fin_val]
  · rw [k2 e]
    generalize (tstS (chS tx n) (fldC d) (F0 + 1) dep q).2.2 = y
    cases y <;> cases w <;> rfl
/-- an and-chain of which v is known, at p where its next test stands; and the or-chain behind it -/
def restA (c : Int → Int) (t : Int → Int × Bool × Bool) (F : Nat) (p : Int) (v : Bool) : Int × Bool × Bool := if (t p).2.1 = true then andL c t F (t p).1 (v && (t p).2.2) else ((t p).1, false, false)
def restO (c : Int → Int) (t : Int → Int × Bool × Bool) (F : Nat) (any : Bool) (T : Int × Bool × Bool) : Int × Bool × Bool := if T.2.1 = true then orL c t F T.1 (any || T.2.2) else (T.1, false, false)
theorem k_orL (R : RD d b tx n) {g : Hp → Nat → Int32 → Option (Int32 × Hp)} {dp : Int32} {t : Int → Int × Bool × Bool} {lo : Int} (l0 : 0 ≤ lo) (It : ItR n t) (Hg : ∀ p, lo ≤ p → p ≤ n → Say d (g (mkH (rs d p 0)) 128 dp) (t p)) : ∀ (r F1 F2 m : Nat) (p i : Int) (any all : Bool), n - p ≤ r → r ≤ 120 → r < F1 → r < F2 → r < m → 0 ≤ i → 2 * i + r ≤ 200 → lo ≤ p → p ≤ n → ∃ v : Bool, iter (b_X7_readOr_7 g 128 dp) m (J (B (any = true)), J (B (all = true)), J i, mkH (rs d p 0)) = some (.inr (J (B (v = true)), mkH (rs d (restO (chS tx n) t F2 any (restA (chS tx n) t F1 p all)).1 (if (restO (chS tx n) t F2 any (restA (chS tx n) t F1 p all)).2.1 = true then 0 else 1)))) ∧ ((restO (chS tx n) t F2 any (restA (chS tx n) t F1 p all)).2.1 = true → v = (restO (chS tx n) t F2 any (restA (chS tx n) t F1 p all)).2.2)
  | r, F1 + 1, F2 + 1, m + 1, p, i, any, all, hr, h120, hF1, hF2, hm, i0, hi, pl, p1 => by
    have p0 : 0 ≤ p := by omega
    obtain ⟨y, g1, g2⟩ := Hg p pl p1
    have hz1 : (J 1 = (0 : Int32)) = False := eq_false (by decide)
    have hz0 : (J 0 = (0 : Int32)) = True := eq_true rfl
    obtain ⟨o1, o2, o3⟩ := It p p0 p1
    have qO : ∀ p s, isO (mkH (rs d p s)) 128 6 = some () := fun p s => q_isO rfl
    have hcap : ¬ (J 120 ≤ J i) := by rw [J_le (by omega) (by omega) (by omega) (by omega)]; omega
    have hand : ((if J (B (y = true)) = 0 then some (J 0) else if J (B (all = true)) = 0 then some (J 0) else some (J 1))) = some (J (B ((all && y) = true))) := by cases y <;> cases all <;> rfl
    have hor : ((if J (B (any = true)) = 0 then (if J (B ((all && y) = true)) = 0 then some (J 0) else some (J 1)) else some (J 1))) = some (J (B ((any || (all && y)) = true))) := by cases y <;> cases all <;> cases any <;> rfl
    unfold restA
    by_cases ok : (t p).2.1 = true
    · rw [if_pos ok] at g1 ⊢
      have o1 := o1 ok
      have g2 := g2 ok
      rw [← g2]
      generalize hQ : (t p).1 = q at *
      have ta := k_takes R (p := q) (x := 38) (by omega) o3 (by decide) (by decide)
      have to := k_takes R (p := q) (x := 124) (by omega) o3 (by decide) (by decide)
      by_cases c : chS tx n q = 38
      · rw [if_pos c] at ta
        have hlt := ch_lt (tx := tx) (n := n) (p := q) (by omega)
        match r, hr, h120, hF1, hF2, hm, hi with
        | 0, hr, _, _, _, _, _ | 1, hr, _, _, _, _, _ => omega
        | r + 2, hr, h120, hF1, hF2, hm, hi =>
          rw [iter_S (t := (J (B (any = true)), J (B ((all && y) = true)), J (i + 1), mkH (rs d (q + 1) 0))) (by
            simp only [b_X7_readOr_7]
            rw [if_neg hcap]
            simp only [qO, g1, bindS, hand, ta, hz1, if_false, J_add])]
          have e : andL (chS tx n) t (F1 + 1) q (all && y) = restA (chS tx n) t F1 (q + 1) (all && y) := by
            conv => lhs; unfold andL
            rw [if_pos c]
            rfl
          rw [e]
          exact k_orL R l0 It Hg r F1 (F2 + 1) m (q + 1) (i + 1) any (all && y) (by omega) (by omega) (by omega) (by omega) (by omega) (by omega) (by omega) (by omega) (by omega)
      · rw [if_neg c] at ta
        have e : andL (chS tx n) t (F1 + 1) q (all && y) = (q, true, all && y) := by
          unfold andL
          rw [if_neg c]
        rw [e]
        have e2 : restO (chS tx n) t (F2 + 1) any (q, true, all && y) = orL (chS tx n) t (F2 + 1) q (any || (all && y)) := rfl
        rw [e2]
        by_cases c2 : chS tx n q = 124
        · rw [if_pos c2] at to
          have hlt := ch_lt (tx := tx) (n := n) (p := q) (by omega)
          match r, hr, h120, hF1, hF2, hm, hi with
          | 0, hr, _, _, _, _, _ | 1, hr, _, _, _, _, _ => omega
          | r + 2, hr, h120, hF1, hF2, hm, hi =>
            rw [iter_S (t := (J (B ((any || (all && y)) = true)), J (B (true = true)), J (i + 1), mkH (rs d (q + 1) 0))) (by
              simp only [b_X7_readOr_7]
              rw [if_neg hcap]
              simp only [qO, g1, bindS, hand, ta, hor, to, hz1, hz0, if_false, if_true, J_add]
              rfl)]
            have e3 : orL (chS tx n) t (F2 + 1) q (any || (all && y)) = restO (chS tx n) t F2 (any || (all && y)) (restA (chS tx n) t 200 (q + 1) true) := by
              conv => lhs; unfold orL
              rw [if_pos c2]
              have ea : andS (chS tx n) t (q + 1) = restA (chS tx n) t 200 (q + 1) true := by
                unfold andS restA
                rw [Bool.true_and]
              rw [ea]
              rfl
            rw [e3]
            exact k_orL R l0 It Hg r 200 F2 m (q + 1) (i + 1) (any || (all && y)) true (by omega) (by omega) (by omega) (by omega) (by omega) (by omega) (by omega) (by omega) (by omega)
        · rw [if_neg c2] at to
          have e3 : orL (chS tx n) t (F2 + 1) q (any || (all && y)) = (q, true, any || (all && y)) := by
            unfold orL
            rw [if_neg c2]
          rw [e3]
          refine ⟨any || (all && y), iter_E ?_, fun _ => rfl⟩
          simp only [b_X7_readOr_7]
          rw [if_neg hcap]
          simp only [qO, g1, bindS, hand, ta, hor, to, hz0, if_true]
    · rw [if_neg ok] at g1 ⊢
      have ta := k_takesS (d := d) (p := (t p).1) (x := 38) (by decide) (by decide)
      have to := k_takesS (d := d) (p := (t p).1) (x := 124) (by decide) (by decide)
      have e3 : restO (chS tx n) t (F2 + 1) any ((t p).1, false, false) = ((t p).1, false, false) := rfl
      rw [e3]
      refine ⟨any || (all && y), iter_E ?_, fun e => Bool.noConfusion (show false = true from e)⟩
      simp only [b_X7_readOr_7]
      rw [if_neg hcap]
      simp only [qO, g1, bindS, hand, ta, hor, to, hz0, if_true]
      rfl
theorem k_or (R : RD d b tx n) : ∀ (D dep : Nat), D + dep = 10 → dep ≤ 8 → ∀ (F : Nat) (p : Int), 0 ≤ p → p ≤ n → n - p < F → Say d (f_X7_readOr D (mkH (rs d p 0)) 128 (J (dep : Int))) (orS (chS tx n) (tstS (chS tx n) (fldC d) F dep) p)
  | 0, dep, h, h8 => by omega
  | D + 1, dep, h, h8 => fun F p p0 p1 hF => by
    have hn := R.2.2.2.1
    have IH : dep < 8 → ∀ (F : Nat) (p : Int), 0 ≤ p → p ≤ n → n - p < F → Say d (f_X7_readOr D (mkH (rs d p 0)) 128 (J ((dep + 1 : Nat) : Int))) (orS (chS tx n) (tstS (chS tx n) (fldC d) F (dep + 1)) p) := fun hd F p p0 p1 hF => k_or R D (dep + 1) (by omega) (by omega) F p p0 p1 hF
    obtain ⟨r, hr, h120⟩ : ∃ r : Nat, n - p ≤ r ∧ r ≤ 120 := ⟨(n - p).toNat, by omega, by omega⟩
    obtain ⟨v, L, hv⟩ := k_orL R (g := F_X7_readTest (f_X7_readOr D)) (dp := J (dep : Int)) (lo := p) p0 (tst_rng (tx := tx) (n := n) (fld := fldC d) F dep) (fun q q0 q1 => k_tst R h8 IH (by omega) q1 (by omega)) r 200 200 FU p 0 false true hr h120 (by omega) (by omega) (by unfold FU; omega) (by decide) (by omega) (Int.le_refl p) p1
    have e1 : restA (chS tx n) (tstS (chS tx n) (fldC d) F dep) 200 p true = andS (chS tx n) (tstS (chS tx n) (fldC d) F dep) p := by
      unfold andS restA
      rw [Bool.true_and]
    have e2 : restO (chS tx n) (tstS (chS tx n) (fldC d) F dep) 200 false (andS (chS tx n) (tstS (chS tx n) (fldC d) F dep) p) = orS (chS tx n) (tstS (chS tx n) (fldC d) F dep) p := by
      unfold orS restO
      rw [Bool.false_or]
    rw [e1, e2] at L hv
    refine ⟨v, ?_, hv⟩
    show F_X7_readOr (F_X7_readTest (f_X7_readOr D)) (mkH (rs d p 0)) 128 (J (dep : Int)) = _
    have L : iter (b_X7_readOr_7 (F_X7_readTest (f_X7_readOr D)) 128 (J (dep : Int))) FU (J 0, J 1, J 0, mkH (rs d p 0)) = _ := L
    unfold F_X7_readOr
    simp only [bindS]
    rw [L]
    cases v <;> rfl
end
