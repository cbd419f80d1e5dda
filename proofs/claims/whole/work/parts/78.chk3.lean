/-! tests of the model's checker; all of a rule by it -/
section
variable {d : Mem} {b : Nat} {o : Int} {tx : Int → Int} {n : Int}
theorem bzJB {p : Prop} [Decidable p] : bz (J (B p)) = some () := bz_B
theorem m_tst (M : MD d b o tx n) {fld : Int → Int32} : ∀ (F : Nat) (dep : Nat) (p : Int), dep ≤ 8 → 0 ≤ p → p ≤ n → n - p < F → Chk d dep (f_X12_readsTest F (mkH (ms d p dep)) 183) (tstS (chS tx n) fld F dep p)
  | 0, dep, p, h8, p0, p1, hF => by omega
  | F + 1, dep, p, h8, p0, p1, hF => by
    have hn := M.2.2.2.2.1
    have t1 := m_takes M (s := dep) p0 p1 (x := 33) (by decide) (by decide)
    obtain ⟨g0, g1, g2⟩ := M.sg p0
    have q := m_sign M (s := dep) p0 p1
    show Chk d dep (F_X12_readsTest (F_X12_readsOr (F_X12_readsAnd (f_X12_readsTest F))) (f_X12_readsTest F) (mkH (ms d p dep)) 183) _
    unfold tstS
    by_cases c1 : chS tx n p = 33
    · have hlt := ch_lt (tx := tx) (n := n) (p := p) (by omega)
      rw [if_pos c1] at t1 ⊢
      obtain ⟨s', a, as⟩ := m_tst M (fld := fld) F dep (p + 1) h8 (by omega) (by omega) (by omega)
      refine ⟨s', ?_, as⟩
      simp only [F_X12_readsTest, isO183, bindS, t1, a, J1n, if_false, bzJB]
    · rw [if_neg c1] at t1 ⊢
      by_cases c2 : chS tx n p = 40
      · have hlt := ch_lt (tx := tx) (n := n) (p := p) (by omega)
        rw [if_pos c2]
        have e40 : (J (sgn tx n p) = J 40) = True := eq_true (by rw [(g2 40 (by decide)).mpr c2])
        have e25 : gI (mkH (ms d p dep)) 183 11 25 = some (J dep) := by
          rw [q_gI rfl rfl]
          exact congrArg (fun z => some (J z)) (ms_st d p dep)
        by_cases c8 : dep = 8
        · rw [if_pos c8]
          have e8 : (J (dep : Int) = J 8) = True := eq_true (by rw [c8]; rfl)
          refine ⟨dep, ?_, fun e => Bool.noConfusion (show false = true from e)⟩
          simp only [F_X12_readsTest, isO183, bindS, t1, q, J0e, if_true, e40, e25, e8]
          rfl
        · rw [if_neg c8]
          have e8 : (J (dep : Int) = J 8) = False := eq_false (by rw [J_eq (by omega) (by omega) (by omega) (by omega)]; omega)
          obtain ⟨s', a, as⟩ := m_or M (g := f_X12_readsTest F) (lo := p + 1) (s := ((dep + 1 : Nat) : Int)) (by omega) (tst_rng (tx := tx) (n := n) (fld := fld) F (dep + 1)) (fun x x0 x1 => m_tst M F (dep + 1) x (by omega) (by omega) x1 (by omega)) (p := p + 1) (Int.le_refl _) (by omega)
          obtain ⟨o1, o2, o3⟩ := orS_rng (tx := tx) (n := n) (tst_rng (tx := tx) (n := n) (fld := fld) F (dep + 1)) (p + 1) (by omega) (by omega)
          generalize orS (chS tx n) (tstS (chS tx n) fld F (dep + 1)) (p + 1) = T at *
          have ej : ((dep + 1 : Nat) : Int) = (dep : Int) + 1 := by omega
          rw [ej] at a as
          have w1 : gI (mkH (ms d p dep)) 183 11 12 = some (J p) := by
            rw [q_gI rfl rfl]
            exact congrArg (fun z => some (J z)) (ms_at d p dep)
          have w2 : ∀ x y z : Int, pF (mkH (ms d x y)) 183 11 12 (.int (J z)) = some (mkH (ms d z y)) := fun x y z => by
            rw [q_pI rfl rfl]
            exact congrArg (fun z => some (mkH z)) (ms_ua d x y z)
          have w3 : ∀ x y z : Int, pF (mkH (ms d x y)) 183 11 25 (.int (J z)) = some (mkH (ms d x z)) := fun x y z => by
            rw [q_pI rfl rfl]
            exact congrArg (fun z => some (mkH z)) (ms_us d x y z)
          have w4 : ∀ x y : Int, gI (mkH (ms d x y)) 183 11 25 = some (J y) := fun x y => by
            rw [q_gI rfl rfl]
            exact congrArg (fun z => some (J z)) (ms_st d x y)
          by_cases co : T.2.1 = true
          · have as := as co
            subst as
            rw [if_pos co]
            have t2 := m_takes M (s := (dep : Int) + 1) (p := T.1) (x := 41) (by omega) o3 (by decide) (by decide)
            by_cases c41 : chS tx n T.1 = 41
            · rw [if_pos c41] at t2 ⊢
              refine ⟨dep, ?_, fun _ => rfl⟩
              simp only [F_X12_readsTest, isO183, bindS, t1, q, J0e, if_true, e40, e25, e8, if_false, w1, w2, w3, w4, J_add, J_sub, a, JBt co, t2, J1n, Int.add_sub_cancel]
              rfl
            · rw [if_neg c41] at t2 ⊢
              refine ⟨(dep : Int) + 1, ?_, fun e => Bool.noConfusion (show false = true from e)⟩
              simp only [F_X12_readsTest, isO183, bindS, t1, q, J0e, if_true, e40, e25, e8, if_false, w1, w2, w3, w4, J_add, J_sub, a, JBt co, t2]
              rfl
          · rw [if_neg co]
            refine ⟨s', ?_, fun e => Bool.noConfusion (show false = true from e)⟩
            simp only [F_X12_readsTest, isO183, bindS, t1, q, J0e, if_true, e40, e25, e8, if_false, w1, w2, w3, w4, J_add, a, JBf co]
            rfl
      · rw [if_neg c2]
        have e40 : (J (sgn tx n p) = J 40) = False := eq_false (by
          rw [J_eq (by omega) (by omega) (by omega) (by omega)]
          exact fun h => c2 ((g2 40 (by decide)).mp h))
        have a := m_sum M (fld := fld) (s := dep) p0 p1
        obtain ⟨a1, a2, a3⟩ := smm_rng (tx := tx) (n := n) (fld := fld) p0 p1
        by_cases c : (smmS (chS tx n) fld p).2.1 = true
        · rw [if_pos c]
          have a1 := a1 c
          have t60 := m_takes M (s := dep) (p := (smmS (chS tx n) fld p).1) (x := 60) (by omega) a3 (by decide) (by decide)
          have t62 := m_takes M (s := dep) (p := (smmS (chS tx n) fld p).1) (x := 62) (by omega) a3 (by decide) (by decide)
          have t61 := m_takes M (s := dep) (p := (smmS (chS tx n) fld p).1) (x := 61) (by omega) a3 (by decide) (by decide)
          by_cases cs : chS tx n (smmS (chS tx n) fld p).1 = 60 ∨ chS tx n (smmS (chS tx n) fld p).1 = 62 ∨ chS tx n (smmS (chS tx n) fld p).1 = 61
          · rw [if_pos cs]
            have hlt := ch_lt (tx := tx) (n := n) (p := (smmS (chS tx n) fld p).1) (by omega)
            have a' := m_sum M (fld := fld) (s := dep) (p := (smmS (chS tx n) fld p).1 + 1) (by omega) (by omega)
            refine ⟨dep, ?_, fun _ => rfl⟩
            rcases cs with e | e | e
            · rw [if_pos e] at t60
              simp only [F_X12_readsTest, isO183, bindS, t1, q, J0e, if_true, e40, if_false, a, JBt c, t60, J1n, a', bzJB]
            · rw [if_neg (by omega)] at t60
              rw [if_pos e] at t62
              simp only [F_X12_readsTest, isO183, bindS, t1, q, J0e, if_true, e40, if_false, a, JBt c, t60, t62, J1n, a', bzJB]
            · rw [if_neg (by omega)] at t60
              rw [if_neg (by omega)] at t62
              rw [if_pos e] at t61
              simp only [F_X12_readsTest, isO183, bindS, t1, q, J0e, if_true, e40, if_false, a, JBt c, t60, t62, t61, J1n, a', bzJB]
          · rw [if_neg cs]
            rw [if_neg (by omega)] at t60
            rw [if_neg (by omega)] at t62
            rw [if_neg (by omega)] at t61
            refine ⟨dep, ?_, fun e => Bool.noConfusion (show false = true from e)⟩
            simp only [F_X12_readsTest, isO183, bindS, t1, q, J0e, if_true, e40, if_false, a, JBt c, t60, t62, t61]
            rfl
        · rw [if_neg c]
          refine ⟨dep, ?_, fun e => Bool.noConfusion (show false = true from e)⟩
          simp only [F_X12_readsTest, isO183, bindS, t1, q, J0e, if_true, e40, if_false, a, JBf c]
          rfl
/-- the model's checker on all of a rule -/
theorem m_top (M : MD d b o tx n) {fld : Int → Int32} : Chk d 0 (f_X12_readsOr 130 (mkH (ms d 0 0)) 183) (topS (chS tx n) fld) := by
  have hn := M.2.2.2.2.1
  have h0 := M.2.2.2.1
  exact m_or M (g := f_X12_readsTest 130) (lo := 0) (s := 0) (Int.le_refl _) (tst_rng (tx := tx) (n := n) (fld := fld) 130 0) (fun x x0 x1 => m_tst M 130 0 x (by decide) x0 x1 (by omega)) (p := 0) (Int.le_refl _) h0
end
