/-! sums, tests, ands and ors of the model's checker -/
/-- what is said of a checker of an item: it answers whether it reads, and where it stands -/
def Chk (d : Mem) (s : Int) (r : Option (Int32 × Hp)) (T : Int × Bool × Bool) : Prop := ∃ s', r = some (J (B (T.2.1 = true)), mkH (ms d T.1 s')) ∧ (T.2.1 = true → s' = s)
def ChL (d : Mem) (s : Int) (r : Option (Hp ⊕ Hp)) (T : Int × Bool × Bool) : Prop := ∃ s', r = some (if T.2.1 = true then .inl (mkH (ms d T.1 s')) else .inr (mkH (ms d T.1 s'))) ∧ (T.2.1 = true → s' = s)
section
variable {d : Mem} {b : Nat} {o : Int} {tx : Int → Int} {n : Int}
theorem isO183 (D : Mem) : isO (mkH D) 183 11 = some () := z183_0 D
theorem J1n : (J 1 = (0 : Int32)) = False := eq_false (by decide)
theorem J0e : (J 0 = (0 : Int32)) = True := eq_true rfl
theorem JBt {p : Prop} [Decidable p] (h : p) : (J (B p) = (0 : Int32)) = False := by rw [B_t h]; exact J1n
theorem JBf {p : Prop} [Decidable p] (h : ¬ p) : (J (B p) = (0 : Int32)) = True := by rw [B_f h]; exact J0e
theorem m_sumL (M : MD d b o tx n) {fld : Int → Int32} {s : Int} : ∀ (r F m : Nat) (p : Int) (v : Int32), n - p ≤ r → r < F → r < m → 0 ≤ p → p ≤ n → iter (b_X12_readsSum_9 183) m (mkH (ms d p s)) = some (if (sumL (chS tx n) fld F p v).2.1 = true then .inl (mkH (ms d (sumL (chS tx n) fld F p v).1 s)) else .inr (mkH (ms d (sumL (chS tx n) fld F p v).1 s)))
  | r, F + 1, m + 1, p, v, hr, hF, hm, p0, p1 => by
    have t1 := m_takes M (s := s) p0 p1 (x := 43) (by decide) (by decide)
    have t2 := m_takes M (s := s) p0 p1 (x := 45) (by decide) (by decide)
    unfold sumL
    by_cases c1 : chS tx n p = 43
    · have hlt := ch_lt (tx := tx) (n := n) (p := p) (by omega)
      rw [if_pos c1] at t1 ⊢
      have a := m_atom M (fld := fld) (p := p + 1) (s := s) (by omega) (by omega)
      obtain ⟨a1, a2, a3⟩ := atom_rng (tx := tx) (n := n) (fld := fld) (p := p + 1) (by omega) (by omega)
      by_cases c : (atomS (chS tx n) fld (p + 1)).2.1 = true
      · rw [if_pos c]
        have a1 := a1 c
        match r, hr, hF, hm with
        | 0, hr, _, _ => omega
        | r + 1, hr, hF, hm =>
          rw [iter_S (t := mkH (ms d (atomS (chS tx n) fld (p + 1)).1 s)) (by
            simp only [b_X12_readsSum_9, isO183, bindS, t1, a, J1n, JBt c, if_false])]
          exact m_sumL M r F m _ _ (by omega) (by omega) (by omega) (by omega) a3
      · rw [if_neg c]
        exact iter_E (by
          simp only [b_X12_readsSum_9, isO183, bindS, t1, a, J1n, JBf c, if_false, if_true]
          rfl)
    · rw [if_neg c1] at t1 ⊢
      by_cases c2 : chS tx n p = 45
      · have hlt := ch_lt (tx := tx) (n := n) (p := p) (by omega)
        rw [if_pos c2] at t2 ⊢
        have a := m_atom M (fld := fld) (p := p + 1) (s := s) (by omega) (by omega)
        obtain ⟨a1, a2, a3⟩ := atom_rng (tx := tx) (n := n) (fld := fld) (p := p + 1) (by omega) (by omega)
        by_cases c : (atomS (chS tx n) fld (p + 1)).2.1 = true
        · rw [if_pos c]
          have a1 := a1 c
          match r, hr, hF, hm with
          | 0, hr, _, _ => omega
          | r + 1, hr, hF, hm =>
            rw [iter_S (t := mkH (ms d (atomS (chS tx n) fld (p + 1)).1 s)) (by
              simp only [b_X12_readsSum_9, isO183, bindS, t1, t2, a, J1n, J0e, JBt c, if_false, if_true])]
            exact m_sumL M r F m _ _ (by omega) (by omega) (by omega) (by omega) a3
        · rw [if_neg c]
          exact iter_E (by
            simp only [b_X12_readsSum_9, isO183, bindS, t1, t2, a, J1n, J0e, JBf c, if_false, if_true]
            rfl)
      · rw [if_neg c2] at t2 ⊢
        exact iter_E (by
          simp only [b_X12_readsSum_9, isO183, bindS, t1, t2, J0e, if_true])
theorem m_sum (M : MD d b o tx n) {fld : Int → Int32} {p s : Int} (p0 : 0 ≤ p) (p1 : p ≤ n) : f_X12_readsSum (mkH (ms d p s)) 183 = some (J (B ((smmS (chS tx n) fld p).2.1 = true)), mkH (ms d (smmS (chS tx n) fld p).1 s)) := by
  have a := m_atom M (fld := fld) (s := s) p0 p1
  obtain ⟨a1, a2, a3⟩ := atom_rng (tx := tx) (n := n) (fld := fld) p0 p1
  have hn := M.2.2.2.2.1
  unfold smmS
  by_cases c : (atomS (chS tx n) fld p).2.1 = true
  · rw [if_pos c]
    have L := m_sumL M (fld := fld) (s := s) 120 200 FU (atomS (chS tx n) fld p).1 (atomS (chS tx n) fld p).2.2 (by omega) (by decide) (by decide) (by omega) a3
    simp only [f_X12_readsSum, isO183, bindS, a, JBt c, if_false, L]
    by_cases c2 : (sumL (chS tx n) fld 200 (atomS (chS tx n) fld p).1 (atomS (chS tx n) fld p).2.2).2.1 = true
    · rw [if_pos c2, B_t c2]
    · rw [if_neg c2, B_f c2]
  · rw [if_neg c]
    simp only [f_X12_readsSum, isO183, bindS, a, JBf c, if_true]
    rfl
theorem m_andL (M : MD d b o tx n) {g : Hp → Nat → Option (Int32 × Hp)} {t : Int → Int × Bool × Bool} {lo s : Int} (l0 : 0 ≤ lo) (It : ItR n t) (Hg : ∀ p, lo ≤ p → p ≤ n → Chk d s (g (mkH (ms d p s)) 183) (t p)) : ∀ (r F m : Nat) (p : Int) (v : Bool), n - p ≤ r → r < F → r < m → lo ≤ p → p ≤ n → ChL d s (iter (b_X12_readsAnd_9 g 183) m (mkH (ms d p s))) (andL (chS tx n) t F p v)
  | r, F + 1, m + 1, p, v, hr, hF, hm, pl, p1 => by
    have p0 : 0 ≤ p := by omega
    have t1 := m_takes M (s := s) p0 p1 (x := 38) (by decide) (by decide)
    unfold andL
    by_cases c1 : chS tx n p = 38
    · have hlt := ch_lt (tx := tx) (n := n) (p := p) (by omega)
      rw [if_pos c1] at t1 ⊢
      obtain ⟨s', a, as⟩ := Hg (p + 1) (by omega) (by omega)
      obtain ⟨a1, a2, a3⟩ := It (p + 1) (by omega) (by omega)
      by_cases c : (t (p + 1)).2.1 = true
      · rw [if_pos c]
        have as := as c
        subst as
        have a1 := a1 c
        match r, hr, hF, hm with
        | 0, hr, _, _ => omega
        | r + 1, hr, hF, hm =>
          rw [iter_S (t := mkH (ms d (t (p + 1)).1 s')) (by
            simp only [b_X12_readsAnd_9, isO183, bindS, t1, a, J1n, JBt c, if_false])]
          exact m_andL M l0 It Hg r F m _ _ (by omega) (by omega) (by omega) (by omega) a3
      · rw [if_neg c]
        refine ⟨s', iter_E (by
          simp only [b_X12_readsAnd_9, isO183, bindS, t1, a, J1n, JBf c, if_false, if_true]
          rfl), fun e => Bool.noConfusion (show false = true from e)⟩
    · rw [if_neg c1] at t1 ⊢
      refine ⟨s, iter_E (by
        simp only [b_X12_readsAnd_9, isO183, bindS, t1, J0e, if_true]), fun _ => rfl⟩
theorem m_and (M : MD d b o tx n) {g : Hp → Nat → Option (Int32 × Hp)} {t : Int → Int × Bool × Bool} {lo s : Int} (l0 : 0 ≤ lo) (It : ItR n t) (Hg : ∀ p, lo ≤ p → p ≤ n → Chk d s (g (mkH (ms d p s)) 183) (t p)) {p : Int} (p0 : lo ≤ p) (p1 : p ≤ n) : Chk d s (F_X12_readsAnd g (mkH (ms d p s)) 183) (andS (chS tx n) t p) := by
  have hn := M.2.2.2.2.1
  obtain ⟨s', a, as⟩ := Hg p p0 p1
  obtain ⟨a1, a2, a3⟩ := It p (by omega) p1
  unfold andS
  by_cases c : (t p).2.1 = true
  · rw [if_pos c]
    have as := as c
    subst as
    obtain ⟨s2, L, Ls⟩ := m_andL M l0 It Hg 120 200 FU (t p).1 (t p).2.2 (by omega) (by decide) (by decide) (by omega) a3
    refine ⟨s2, ?_, Ls⟩
    simp only [F_X12_readsAnd, isO183, bindS, a, JBt c, if_false, L]
    by_cases c2 : (andL (chS tx n) t 200 (t p).1 (t p).2.2).2.1 = true
    · rw [if_pos c2, B_t c2]
    · rw [if_neg c2, B_f c2]
  · rw [if_neg c]
    refine ⟨s', ?_, fun e => Bool.noConfusion (show false = true from e)⟩
    simp only [F_X12_readsAnd, isO183, bindS, a, JBf c, if_true]
    rfl
theorem m_orL (M : MD d b o tx n) {g : Hp → Nat → Option (Int32 × Hp)} {t : Int → Int × Bool × Bool} {lo s : Int} (l0 : 0 ≤ lo) (It : ItR n t) (Hg : ∀ p, lo ≤ p → p ≤ n → Chk d s (g (mkH (ms d p s)) 183) (t p)) : ∀ (r F m : Nat) (p : Int) (v : Bool), n - p ≤ r → r < F → r < m → lo ≤ p → p ≤ n → ChL d s (iter (b_X12_readsOr_9 (F_X12_readsAnd g) 183) m (mkH (ms d p s))) (orL (chS tx n) t F p v)
  | r, F + 1, m + 1, p, v, hr, hF, hm, pl, p1 => by
    have p0 : 0 ≤ p := by omega
    have t1 := m_takes M (s := s) p0 p1 (x := 124) (by decide) (by decide)
    unfold orL
    by_cases c1 : chS tx n p = 124
    · have hlt := ch_lt (tx := tx) (n := n) (p := p) (by omega)
      rw [if_pos c1] at t1 ⊢
      obtain ⟨s', a, as⟩ := m_and M l0 It Hg (p := p + 1) (by omega) (by omega)
      obtain ⟨a1, a2, a3⟩ := andS_rng (tx := tx) It (p + 1) (by omega) (by omega)
      by_cases c : (andS (chS tx n) t (p + 1)).2.1 = true
      · rw [if_pos c]
        have as := as c
        subst as
        have a1 := a1 c
        match r, hr, hF, hm with
        | 0, hr, _, _ => omega
        | r + 1, hr, hF, hm =>
          rw [iter_S (t := mkH (ms d (andS (chS tx n) t (p + 1)).1 s')) (by
            simp only [b_X12_readsOr_9, isO183, bindS, t1, a, J1n, JBt c, if_false])]
          exact m_orL M l0 It Hg r F m _ _ (by omega) (by omega) (by omega) (by omega) a3
      · rw [if_neg c]
        refine ⟨s', iter_E (by
          simp only [b_X12_readsOr_9, isO183, bindS, t1, a, J1n, JBf c, if_false, if_true]
          rfl), fun e => Bool.noConfusion (show false = true from e)⟩
    · rw [if_neg c1] at t1 ⊢
      refine ⟨s, iter_E (by
        simp only [b_X12_readsOr_9, isO183, bindS, t1, J0e, if_true]), fun _ => rfl⟩
theorem m_or (M : MD d b o tx n) {g : Hp → Nat → Option (Int32 × Hp)} {t : Int → Int × Bool × Bool} {lo s : Int} (l0 : 0 ≤ lo) (It : ItR n t) (Hg : ∀ p, lo ≤ p → p ≤ n → Chk d s (g (mkH (ms d p s)) 183) (t p)) {p : Int} (p0 : lo ≤ p) (p1 : p ≤ n) : Chk d s (F_X12_readsOr (F_X12_readsAnd g) (mkH (ms d p s)) 183) (orS (chS tx n) t p) := by
  have hn := M.2.2.2.2.1
  obtain ⟨s', a, as⟩ := m_and M l0 It Hg p0 p1
  obtain ⟨a1, a2, a3⟩ := andS_rng (tx := tx) It p (by omega) p1
  unfold orS
  by_cases c : (andS (chS tx n) t p).2.1 = true
  · rw [if_pos c]
    have as := as c
    subst as
    obtain ⟨s2, L, Ls⟩ := m_orL M l0 It Hg 120 200 FU (andS (chS tx n) t p).1 (andS (chS tx n) t p).2.2 (by omega) (by decide) (by decide) (by omega) a3
    refine ⟨s2, ?_, Ls⟩
    simp only [F_X12_readsOr, isO183, bindS, a, JBt c, if_false, L]
    by_cases c2 : (orL (chS tx n) t 200 (andS (chS tx n) t p).1 (andS (chS tx n) t p).2.2).2.1 = true
    · rw [if_pos c2, B_t c2]
    · rw [if_neg c2, B_f c2]
  · rw [if_neg c]
    refine ⟨s', ?_, fun e => Bool.noConfusion (show false = true from e)⟩
    simp only [F_X12_readsOr, isO183, bindS, a, JBf c, if_true]
    rfl
end
