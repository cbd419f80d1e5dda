/-! the model's evaluator on rules that read well -/
def ND (c : Int → Int) (p : Int) : Prop := isDg (c p) = false
section
variable {c : Int → Int} {fld : Int → Int32} {t : Int → Int × Bool × Bool}
theorem nd_of {x : Int} (h : c x = 38 ∨ c x = 41 ∨ c x = 43 ∨ c x = 45 ∨ c x = 60 ∨ c x = 61 ∨ c x = 62 ∨ c x = 124) : ND c x := by
  unfold ND
  exact isDg_f.mpr (by omega)
theorem sumL_nd {F : Nat} {p : Int} {v : Int32} (h : (sumL c fld F p v).2.1 = true) (hn : ND c (sumL c fld F p v).1) : ND c p := by
  cases F with
  | zero => exact Bool.noConfusion (show false = true from h)
  | succ F =>
    unfold sumL at h hn
    by_cases c1 : c p = 43
    · exact nd_of (by omega)
    · by_cases c2 : c p = 45
      · exact nd_of (by omega)
      · rw [if_neg c1, if_neg c2] at hn
        exact hn
theorem andL_nd {F : Nat} {p : Int} {v : Bool} (h : (andL c t F p v).2.1 = true) (hn : ND c (andL c t F p v).1) : ND c p := by
  cases F with
  | zero => exact Bool.noConfusion (show false = true from h)
  | succ F =>
    unfold andL at h hn
    by_cases c1 : c p = 38
    · exact nd_of (by omega)
    · rw [if_neg c1] at hn
      exact hn
theorem orL_nd {F : Nat} {p : Int} {v : Bool} (h : (orL c t F p v).2.1 = true) (hn : ND c (orL c t F p v).1) : ND c p := by
  cases F with
  | zero => exact Bool.noConfusion (show false = true from h)
  | succ F =>
    unfold orL at h hn
    by_cases c1 : c p = 124
    · exact nd_of (by omega)
    · rw [if_neg c1] at hn
      exact hn
end
theorem sub_add (a b : Int32) : a + -b = a - b := (Int32.sub_eq_add_neg a b).symm
theorem sg_ch {tx : Int → Int} {n p : Int} (h : 0 ≤ p ∧ p < n) : sgn tx n p = chS tx n p := by
  unfold sgn chS
  rw [if_pos h.2, if_pos h]
section
variable {d : Mem} {b : Nat} {o : Int} {tx : Int → Int} {n : Int}
theorem g12 (d : Mem) (p s : Int) : gI (mkH (ms d p s)) 183 11 12 = some (J p) := by
  rw [q_gI rfl rfl]
  exact congrArg (fun z => some (J z)) (ms_at d p s)
theorem p12 (d : Mem) (p s q : Int) : pF (mkH (ms d p s)) 183 11 12 (.int (J q)) = some (mkH (ms d q s)) := by
  rw [q_pI rfl rfl]
  exact congrArg (fun z => some (mkH z)) (ms_ua d p s q)
theorem v_numL (M : MD d b o tx n) {s : Int} : ∀ (k m : Nat) (p v : Int), k < m → 0 ≤ p → p ≤ n → ND (chS tx n) (numS (chS tx n) k p v).1 → iter (b_X12_atom_30 183) m (J v, mkH (ms d p s)) = some (J (numS (chS tx n) k p v).2, mkH (ms d (numS (chS tx n) k p v).1 s)) := by
  have stop : ∀ (m : Nat) (p v : Int), 0 < m → 0 ≤ p → p ≤ n → ND (chS tx n) p → iter (b_X12_atom_30 183) m (J v, mkH (ms d p s)) = some (J v, mkH (ms d p s)) := by
    intro m p v hm p0 p1 hn
    obtain ⟨m', rfl⟩ : ∃ m', m = m' + 1 := ⟨m - 1, by omega⟩
    have q := m_sign M (s := s) p0 p1
    obtain ⟨g0, g1, -⟩ := M.sg p0
    have q2 := m_isDigit g0 g1
    rw [(isDg_sg M p0).1] at q2
    have hf : ¬ isDg (chS tx n p) = true := by
      unfold ND at hn
      rw [hn]
      exact Bool.noConfusion
    exact iter_E (by simp only [b_X12_atom_30, isO183, bindS, q, q2, JBf hf, if_true])
  intro k
  induction k with
  | zero =>
    intro m p v hm p0 p1 hn
    exact stop m p v hm p0 p1 hn
  | succ k ih =>
    intro m p v hm p0 p1 hn
    unfold numS at hn ⊢
    by_cases cc : v = 0 ∨ isDg (chS tx n p) = false
    · rw [if_pos cc] at hn ⊢
      exact stop m p v (by omega) p0 p1 hn
    · rw [if_neg cc] at hn ⊢
      obtain ⟨m', rfl⟩ : ∃ m', m = m' + 1 := ⟨m - 1, by omega⟩
      have hd : isDg (chS tx n p) = true := by
        cases hq : isDg (chS tx n p) with
        | true => rfl
        | false => exact absurd (Or.inr hq) cc
      have hd' := isDg_iff.mp hd
      have hlt := ch_lt (tx := tx) (n := n) (p := p) (by omega)
      have q := m_sign M (s := s) p0 p1
      obtain ⟨g0, g1, -⟩ := M.sg p0
      have q2 := m_isDigit g0 g1
      rw [(isDg_sg M p0).1] at q2
      have es : sgn tx n p = chS tx n p := by
        unfold sgn chS
        rw [if_pos hlt.2, if_pos hlt]
      rw [es] at q q2
      rw [iter_S (t := (J (10 * v + chS tx n p - 48), mkH (ms d (p + 1) s))) (by simp only [b_X12_atom_30, isO183, bindS, q, q2, JBt hd, if_false, g12, p12, J_add, J_sub, J_mul])]
      exact ih m' (p + 1) _ (by omega) (by omega) (by omega) hn
theorem v_atom (M : MD d b o tx n) {fld : Int → Int32} {s : Int} (HF : ∀ p x : Int, isFd x = true → f_X12_fieldOf (mkH (ms d p s)) 183 (J x) = some (fld x)) {p : Int} (p0 : 0 ≤ p) (p1 : p ≤ n) (ok : (atomS (chS tx n) fld p).2.1 = true) (nd : ND (chS tx n) (atomS (chS tx n) fld p).1) : f_X12_atom (mkH (ms d p s)) 183 = some ((atomS (chS tx n) fld p).2.2, mkH (ms d (atomS (chS tx n) fld p).1 s)) := by
  have q := m_sign M (s := s) p0 p1
  obtain ⟨g0, g1, -⟩ := M.sg p0
  have q2 := m_isDigit g0 g1
  rw [(isDg_sg M p0).1] at q2
  have hlt : 0 ≤ p ∧ p < n := ch_lt (tx := tx) (n := n) (p := p) (fun e => by
    unfold atomS at ok
    rw [e] at ok
    exact Bool.noConfusion (show false = true from ok))
  have es : sgn tx n p = chS tx n p := by
    unfold sgn chS
    rw [if_pos hlt.2, if_pos hlt]
  rw [es] at q q2
  unfold atomS at ok nd ⊢
  by_cases c1 : isFd (chS tx n p) = true
  · rw [if_pos c1] at nd ⊢
    have hf : ¬ isDg (chS tx n p) = true := fun h => by
      have h := isDg_iff.mp h
      unfold isFd at c1
      have c1 := of_decide_eq_true c1
      omega
    have k := HF (p + 1) _ c1
    simp only [f_X12_atom, isO183, bindS, q, q2, JBf hf, if_true, g12, p12, J_add, k]
  · rw [if_neg c1] at ok nd ⊢
    by_cases c2 : isDg (chS tx n p) = true
    · rw [if_pos c2] at nd ⊢
      have k := v_numL M (s := s) 4 FU p 0 (by decide) p0 p1
      have e4 : numS (chS tx n) 3 (p + 1) (chS tx n p - 48) = numS (chS tx n) 3 (p + 1) (10 * 0 + chS tx n p - 48) := by congr 1; omega
      have L : iter (b_X12_atom_30 183) FU (J 0, mkH (ms d p s)) = some (J (numS (chS tx n) 3 (p + 1) (chS tx n p - 48)).2, mkH (ms d (numS (chS tx n) 3 (p + 1) (chS tx n p - 48)).1 s)) := by
        rw [show FU = 999999999 + 1 from rfl, iter_S (t := (J (10 * 0 + chS tx n p - 48), mkH (ms d (p + 1) s))) (by simp only [b_X12_atom_30, isO183, bindS, q, q2, JBt c2, if_false, g12, p12, J_add, J_sub, J_mul])]
        rw [e4]
        exact v_numL M 3 999999999 (p + 1) _ (by decide) (by omega) (by omega) (by rw [← e4]; exact nd)
      simp only [f_X12_atom, isO183, bindS, q, q2, JBt c2, if_false, L]
    · rw [if_neg c2] at ok
      exact Bool.noConfusion (show false = true from ok)
theorem v_sumL (M : MD d b o tx n) {fld : Int → Int32} {s : Int} (HF : ∀ p x : Int, isFd x = true → f_X12_fieldOf (mkH (ms d p s)) 183 (J x) = some (fld x)) : ∀ (F m : Nat) (p : Int) (v : Int32), F ≤ m → 0 ≤ p → p ≤ n → (sumL (chS tx n) fld F p v).2.1 = true → ND (chS tx n) (sumL (chS tx n) fld F p v).1 → iter (b_X12_sum_5 183) m (v, mkH (ms d p s)) = some ((sumL (chS tx n) fld F p v).2.2, mkH (ms d (sumL (chS tx n) fld F p v).1 s))
  | 0, m, p, v, hm, p0, p1, ok, nd => Bool.noConfusion (show false = true from ok)
  | F + 1, 0, p, v, hm, p0, p1, ok, nd => by omega
  | F + 1, m + 1, p, v, hm, p0, p1, ok, nd => by
    have q := m_sign M (s := s) p0 p1
    obtain ⟨g0, g1, g2⟩ := M.sg p0
    have a43 := g2 43 (by decide)
    have a45 := g2 45 (by decide)
    have j43 : (J (sgn tx n p) = J 43) ↔ chS tx n p = 43 := by rw [J_eq (by omega) (by omega) (by omega) (by omega)]; exact a43
    have j45 : (J (sgn tx n p) = J 45) ↔ chS tx n p = 45 := by rw [J_eq (by omega) (by omega) (by omega) (by omega)]; exact a45
    unfold sumL at ok nd ⊢
    obtain ⟨a1, a2, a3⟩ : ((atomS (chS tx n) fld (p + 1)).2.1 = true → p + 1 + 1 ≤ (atomS (chS tx n) fld (p + 1)).1) ∧ (p < n → p + 1 ≤ (atomS (chS tx n) fld (p + 1)).1) ∧ (p < n → (atomS (chS tx n) fld (p + 1)).1 ≤ n) := by
      by_cases hp : p < n
      · obtain ⟨h1, h2, h3⟩ := atom_rng (tx := tx) (n := n) (fld := fld) (p := p + 1) (by omega) (by omega)
        exact ⟨h1, fun _ => h2, fun _ => h3⟩
      · refine ⟨fun h => ?_, fun h => absurd h hp, fun h => absurd h hp⟩
        have e : chS tx n (p + 1) = -1 := if_neg (by omega)
        unfold atomS at h
        rw [e] at h
        exact Bool.noConfusion (show false = true from h)
    by_cases c1 : chS tx n p = 43
    · have hlt := ch_lt (tx := tx) (n := n) (p := p) (by omega)
      rw [if_pos c1] at ok nd ⊢
      have e1 := eq_true (j43.mpr c1)
      by_cases ca : (atomS (chS tx n) fld (p + 1)).2.1 = true
      · rw [if_pos ca] at ok nd ⊢
        have nda := sumL_nd ok nd
        have k := v_atom M HF (p := p + 1) (by omega) (by omega) ca nda
        rw [iter_S (t := (v + (atomS (chS tx n) fld (p + 1)).2.2, mkH (ms d (atomS (chS tx n) fld (p + 1)).1 s))) (by simp only [b_X12_sum_5, isO183, bindS, q, e1, if_true, g12, p12, J_add, k])]
        exact v_sumL M HF F m _ _ (by omega) (by have := a1 ca; omega) (a3 hlt.2) ok nd
      · rw [if_neg ca] at ok
        exact Bool.noConfusion (show false = true from ok)
    · rw [if_neg c1] at ok nd ⊢
      have e1 := eq_false (fun h => c1 (j43.mp h))
      by_cases c2 : chS tx n p = 45
      · have hlt := ch_lt (tx := tx) (n := n) (p := p) (by omega)
        rw [if_pos c2] at ok nd ⊢
        have e2 := eq_true (j45.mpr c2)
        by_cases ca : (atomS (chS tx n) fld (p + 1)).2.1 = true
        · rw [if_pos ca] at ok nd ⊢
          have nda := sumL_nd ok nd
          have k := v_atom M HF (p := p + 1) (by omega) (by omega) ca nda
          rw [iter_S (t := (v - (atomS (chS tx n) fld (p + 1)).2.2, mkH (ms d (atomS (chS tx n) fld (p + 1)).1 s))) (by simp only [b_X12_sum_5, isO183, bindS, q, e1, e2, if_true, if_false, g12, p12, J_add, k, sub_add])]
          exact v_sumL M HF F m _ _ (by omega) (by have := a1 ca; omega) (a3 hlt.2) ok nd
        · rw [if_neg ca] at ok
          exact Bool.noConfusion (show false = true from ok)
      · rw [if_neg c2] at ok nd ⊢
        have e2 := eq_false (fun h => c2 (j45.mp h))
        exact iter_E (by simp only [b_X12_sum_5, isO183, bindS, q, e1, e2, if_false])
theorem v_sum (M : MD d b o tx n) {fld : Int → Int32} {s : Int} (HF : ∀ p x : Int, isFd x = true → f_X12_fieldOf (mkH (ms d p s)) 183 (J x) = some (fld x)) {p : Int} (p0 : 0 ≤ p) (p1 : p ≤ n) (ok : (smmS (chS tx n) fld p).2.1 = true) (nd : ND (chS tx n) (smmS (chS tx n) fld p).1) : f_X12_sum (mkH (ms d p s)) 183 = some ((smmS (chS tx n) fld p).2.2, mkH (ms d (smmS (chS tx n) fld p).1 s)) := by
  obtain ⟨a1, a2, a3⟩ := atom_rng (tx := tx) (n := n) (fld := fld) p0 p1
  unfold smmS at ok nd ⊢
  by_cases c : (atomS (chS tx n) fld p).2.1 = true
  · rw [if_pos c] at ok nd ⊢
    have k := v_atom M HF p0 p1 c (sumL_nd ok nd)
    have L := v_sumL M HF 200 FU _ _ (by decide) (by omega) a3 ok nd
    simp only [f_X12_sum, isO183, bindS, k, L]
  · rw [if_neg c] at ok
    exact Bool.noConfusion (show false = true from ok)
/-- what is said of an evaluator of an item -/
def Evl (d : Mem) (s : Int) (c : Int → Int) (r : Option (Int32 × Hp)) (T : Int × Bool × Bool) : Prop := T.2.1 = true → ND c T.1 → r = some (J (B (T.2.2 = true)), mkH (ms d T.1 s))
theorem jand (v w : Bool) : (if (J (B (v = true)) : Int32) = 0 then some (J 0) else if (J (B (w = true)) : Int32) = 0 then some (J 0) else some (J 1)) = some (J (B ((v && w) = true))) := by
  cases v <;> cases w <;> rfl
theorem jor (v w : Bool) : (if (J (B (v = true)) : Int32) = 0 then (if (J (B (w = true)) : Int32) = 0 then some (J 0) else some (J 1)) else some (J 1)) = some (J (B ((v || w) = true))) := by
  cases v <;> cases w <;> rfl
theorem jnot (v : Bool) : (if (J (B (v = true)) : Int32) = 0 then some (J 1) else some (J 0)) = some (J (B ((!v) = true))) := by
  cases v <;> rfl
theorem v_andL (M : MD d b o tx n) {g : Hp → Nat → Option (Int32 × Hp)} {t : Int → Int × Bool × Bool} {s : Int} (It : ItR n t) (Hg : ∀ p, 0 ≤ p → p ≤ n → Evl d s (chS tx n) (g (mkH (ms d p s)) 183) (t p)) : ∀ (F m : Nat) (p : Int) (v : Bool), F ≤ m → 0 ≤ p → p ≤ n → (andL (chS tx n) t F p v).2.1 = true → ND (chS tx n) (andL (chS tx n) t F p v).1 → iter (b_X12_and_5 g 183) m (J (B (v = true)), mkH (ms d p s)) = some (J (B ((andL (chS tx n) t F p v).2.2 = true)), mkH (ms d (andL (chS tx n) t F p v).1 s))
  | 0, m, p, v, hm, p0, p1, ok, nd => Bool.noConfusion (show false = true from ok)
  | F + 1, 0, p, v, hm, p0, p1, ok, nd => by omega
  | F + 1, m + 1, p, v, hm, p0, p1, ok, nd => by
    have t1 := m_takes M (s := s) p0 p1 (x := 38) (by decide) (by decide)
    unfold andL at ok nd ⊢
    by_cases c1 : chS tx n p = 38
    · have hlt := ch_lt (tx := tx) (n := n) (p := p) (by omega)
      rw [if_pos c1] at t1 ok nd ⊢
      obtain ⟨a1, a2, a3⟩ := It (p + 1) (by omega) (by omega)
      by_cases c : (t (p + 1)).2.1 = true
      · rw [if_pos c] at ok nd ⊢
        have k := Hg (p + 1) (by omega) (by omega) c (andL_nd ok nd)
        rw [iter_S (t := (J (B ((v && (t (p + 1)).2.2) = true)), mkH (ms d (t (p + 1)).1 s))) (by
          simp only [b_X12_and_5, isO183, bindS, t1, k, J1n, if_false]
          rw [jand]
          rfl)]
        exact v_andL M It Hg F m _ _ (by omega) (by have := a1 c; omega) a3 ok nd
      · rw [if_neg c] at ok
        exact Bool.noConfusion (show false = true from ok)
    · rw [if_neg c1] at t1 ok nd ⊢
      exact iter_E (by simp only [b_X12_and_5, isO183, bindS, t1, J0e, if_true])
theorem v_and (M : MD d b o tx n) {g : Hp → Nat → Option (Int32 × Hp)} {t : Int → Int × Bool × Bool} {s : Int} (It : ItR n t) (Hg : ∀ p, 0 ≤ p → p ≤ n → Evl d s (chS tx n) (g (mkH (ms d p s)) 183) (t p)) {p : Int} (p0 : 0 ≤ p) (p1 : p ≤ n) : Evl d s (chS tx n) (F_X12_and g (mkH (ms d p s)) 183) (andS (chS tx n) t p) := by
  intro ok nd
  obtain ⟨a1, a2, a3⟩ := It p p0 p1
  unfold andS at ok nd ⊢
  by_cases c : (t p).2.1 = true
  · rw [if_pos c] at ok nd ⊢
    have k := Hg p p0 p1 c (andL_nd ok nd)
    have L := v_andL M It Hg 200 FU _ _ (by decide) (by omega) a3 ok nd
    simp only [F_X12_and, isO183, bindS, k, L, bzB]
  · rw [if_neg c] at ok
    exact Bool.noConfusion (show false = true from ok)
theorem v_orL (M : MD d b o tx n) {g : Hp → Nat → Option (Int32 × Hp)} {t : Int → Int × Bool × Bool} {s : Int} (It : ItR n t) (Hg : ∀ p, 0 ≤ p → p ≤ n → Evl d s (chS tx n) (g (mkH (ms d p s)) 183) (t p)) : ∀ (F m : Nat) (p : Int) (v : Bool), F ≤ m → 0 ≤ p → p ≤ n → (orL (chS tx n) t F p v).2.1 = true → ND (chS tx n) (orL (chS tx n) t F p v).1 → iter (b_X12_or_5 (F_X12_and g) 183) m (J (B (v = true)), mkH (ms d p s)) = some (J (B ((orL (chS tx n) t F p v).2.2 = true)), mkH (ms d (orL (chS tx n) t F p v).1 s))
  | 0, m, p, v, hm, p0, p1, ok, nd => Bool.noConfusion (show false = true from ok)
  | F + 1, 0, p, v, hm, p0, p1, ok, nd => by omega
  | F + 1, m + 1, p, v, hm, p0, p1, ok, nd => by
    have t1 := m_takes M (s := s) p0 p1 (x := 124) (by decide) (by decide)
    unfold orL at ok nd ⊢
    by_cases c1 : chS tx n p = 124
    · have hlt := ch_lt (tx := tx) (n := n) (p := p) (by omega)
      rw [if_pos c1] at t1 ok nd ⊢
      obtain ⟨a1, a2, a3⟩ := andS_rng (tx := tx) It (p + 1) (by omega) (by omega)
      by_cases c : (andS (chS tx n) t (p + 1)).2.1 = true
      · rw [if_pos c] at ok nd ⊢
        have k := v_and M It Hg (p := p + 1) (by omega) (by omega) c (orL_nd ok nd)
        rw [iter_S (t := (J (B ((v || (andS (chS tx n) t (p + 1)).2.2) = true)), mkH (ms d (andS (chS tx n) t (p + 1)).1 s))) (by
          simp only [b_X12_or_5, isO183, bindS, t1, k, J1n, if_false]
          rw [jor]
          rfl)]
        exact v_orL M It Hg F m _ _ (by omega) (by have := a1 c; omega) a3 ok nd
      · rw [if_neg c] at ok
        exact Bool.noConfusion (show false = true from ok)
    · rw [if_neg c1] at t1 ok nd ⊢
      exact iter_E (by simp only [b_X12_or_5, isO183, bindS, t1, J0e, if_true])
theorem v_or (M : MD d b o tx n) {g : Hp → Nat → Option (Int32 × Hp)} {t : Int → Int × Bool × Bool} {s : Int} (It : ItR n t) (Hg : ∀ p, 0 ≤ p → p ≤ n → Evl d s (chS tx n) (g (mkH (ms d p s)) 183) (t p)) {p : Int} (p0 : 0 ≤ p) (p1 : p ≤ n) : Evl d s (chS tx n) (F_X12_or (F_X12_and g) (mkH (ms d p s)) 183) (orS (chS tx n) t p) := by
  intro ok nd
  obtain ⟨a1, a2, a3⟩ := andS_rng (tx := tx) It p p0 p1
  unfold orS at ok nd ⊢
  by_cases c : (andS (chS tx n) t p).2.1 = true
  · rw [if_pos c] at ok nd ⊢
    have k := v_and M It Hg p0 p1 c (orL_nd ok nd)
    have L := v_orL M It Hg 200 FU _ _ (by decide) (by omega) a3 ok nd
    simp only [F_X12_or, isO183, bindS, k, L, bzB]
  · rw [if_neg c] at ok
    exact Bool.noConfusion (show false = true from ok)
theorem jle (a b : Int32) : (if a ≤ b then some (J 0) else some (J 1)) = some (J (B (decide (b < a) = true))) := by
  by_cases h : a ≤ b
  · rw [if_pos h, B_f]
    rw [decide_eq_true_iff]
    exact Int32.not_lt.mpr h
  · rw [if_neg h, B_t]
    rw [decide_eq_true_iff]
    exact Int32.not_le.mp h
theorem jeq (a b : Int32) : (if a = b then some (J 1) else some (J 0)) = some (J (B (decide (a = b) = true))) := by
  by_cases h : a = b
  · rw [if_pos h, B_t (by rw [decide_eq_true_iff]; exact h)]
  · rw [if_neg h, B_f (by rw [decide_eq_true_iff]; exact h)]
theorem v_tst (M : MD d b o tx n) {fld : Int → Int32} {s : Int} (HF : ∀ p x : Int, isFd x = true → f_X12_fieldOf (mkH (ms d p s)) 183 (J x) = some (fld x)) : ∀ (F dep : Nat) (p : Int), 0 ≤ p → p ≤ n → Evl d s (chS tx n) (f_X12_test F (mkH (ms d p s)) 183) (tstS (chS tx n) fld F dep p)
  | 0, dep, p, p0, p1 => fun ok _ => Bool.noConfusion (show false = true from ok)
  | F + 1, dep, p, p0, p1 => by
    intro ok nd
    have t1 := m_takes M (s := s) p0 p1 (x := 33) (by decide) (by decide)
    have t2 := m_takes M (s := s) p0 p1 (x := 40) (by decide) (by decide)
    show F_X12_test (F_X12_or (F_X12_and (f_X12_test F))) (f_X12_test F) (mkH (ms d p s)) 183 = _
    unfold tstS at ok nd ⊢
    by_cases c1 : chS tx n p = 33
    · have hlt := ch_lt (tx := tx) (n := n) (p := p) (by omega)
      rw [if_pos c1] at t1 ok nd ⊢
      have k := v_tst M HF F dep (p + 1) (by omega) (by omega) ok nd
      simp only [F_X12_test, isO183, bindS, t1, k, J1n, if_false, jnot, bzB]
    · rw [if_neg c1] at t1 ok nd ⊢
      by_cases c2 : chS tx n p = 40
      · have hlt := ch_lt (tx := tx) (n := n) (p := p) (by omega)
        rw [if_pos c2] at t2 ok nd ⊢
        by_cases c8 : dep = 8
        · rw [if_pos c8] at ok
          exact Bool.noConfusion (show false = true from ok)
        · rw [if_neg c8] at ok nd ⊢
          have Ho := v_or M (g := f_X12_test F) (s := s) (tst_rng (tx := tx) (n := n) (fld := fld) F (dep + 1)) (fun x x0 x1 => v_tst M HF F (dep + 1) x x0 x1) (p := p + 1) (by omega) (by omega)
          generalize orS (chS tx n) (tstS (chS tx n) fld F (dep + 1)) (p + 1) = T at *
          by_cases co : T.2.1 = true
          · rw [if_pos co] at ok nd ⊢
            by_cases c41 : chS tx n T.1 = 41
            · rw [if_pos c41] at ok nd ⊢
              have k := Ho co (nd_of (by omega))
              simp only [F_X12_test, isO183, bindS, t1, t2, J1n, J0e, if_false, if_true, k, g12, p12, J_add, bzB]
            · rw [if_neg c41] at ok
              exact Bool.noConfusion (show false = true from ok)
          · rw [if_neg co] at ok
            exact Bool.noConfusion (show false = true from ok)
      · rw [if_neg c2] at t2 ok nd ⊢
        obtain ⟨a1, a2, a3⟩ := smm_rng (tx := tx) (n := n) (fld := fld) p0 p1
        by_cases c : (smmS (chS tx n) fld p).2.1 = true
        · rw [if_pos c] at ok nd ⊢
          have a1 := a1 c
          by_cases cs : chS tx n (smmS (chS tx n) fld p).1 = 60 ∨ chS tx n (smmS (chS tx n) fld p).1 = 62 ∨ chS tx n (smmS (chS tx n) fld p).1 = 61
          · rw [if_pos cs] at ok nd ⊢
            have hlt := ch_lt (tx := tx) (n := n) (p := (smmS (chS tx n) fld p).1) (by omega)
            have k := v_sum M HF p0 p1 c (nd_of (by omega))
            have q := m_sign M (s := s) (p := (smmS (chS tx n) fld p).1) (by omega) a3
            have es : sgn tx n (smmS (chS tx n) fld p).1 = chS tx n (smmS (chS tx n) fld p).1 := sg_ch hlt
            rw [es] at q
            have k2 := v_sum M HF (p := (smmS (chS tx n) fld p).1 + 1) (by omega) (by omega) ok nd
            generalize smmS (chS tx n) fld ((smmS (chS tx n) fld p).1 + 1) = T2 at *
            generalize smmS (chS tx n) fld p = T at *
            unfold cmpS
            rcases cs with e | e | e
            · rw [e] at q ⊢
              simp only [F_X12_test, isO183, bindS, t1, t2, J0e, if_true, k, q, g12, p12, J_add, k2, jle, bzB]
            · rw [e] at q ⊢
              have e0 : (J 62 = J 60) = False := eq_false (by decide)
              rw [if_neg (by decide : ¬ (62 : Int) = 60), if_pos rfl]
              simp only [F_X12_test, isO183, bindS, t1, t2, J0e, if_true, k, q, g12, p12, J_add, k2, e0, if_false, jle, bzB]
            · rw [e] at q ⊢
              have e0 : (J 61 = J 60) = False := eq_false (by decide)
              have e2 : (J 61 = J 62) = False := eq_false (by decide)
              rw [if_neg (by decide : ¬ (61 : Int) = 60), if_neg (by decide : ¬ (61 : Int) = 62)]
              simp only [F_X12_test, isO183, bindS, t1, t2, J0e, if_true, k, q, g12, p12, J_add, k2, e0, e2, if_false, jeq, bzB]
          · rw [if_neg cs] at ok
            exact Bool.noConfusion (show false = true from ok)
        · rw [if_neg c] at ok
          exact Bool.noConfusion (show false = true from ok)
theorem v_top (M : MD d b o tx n) {fld : Int → Int32} {s : Int} (HF : ∀ p x : Int, isFd x = true → f_X12_fieldOf (mkH (ms d p s)) 183 (J x) = some (fld x)) (ok : ruleOK tx n) : f_X12_or 130 (mkH (ms d 0 s)) 183 = some (J (B ((topS (chS tx n) fld).2.2 = true)), mkH (ms d n s)) := by
  have hn := M.2.2.2.1
  obtain ⟨o1, o2⟩ := ok fld
  have h := v_or M (g := f_X12_test 130) (s := s) (tst_rng (tx := tx) (n := n) (fld := fld) 130 0) (fun x x0 x1 => v_tst M HF 130 0 x x0 x1) (p := 0) (Int.le_refl _) hn
  have h : Evl d s (chS tx n) (f_X12_or 130 (mkH (ms d 0 s)) 183) (topS (chS tx n) fld) := h
  have en : ND (chS tx n) n := by
    unfold ND chS
    rw [if_neg (by omega)]
    rfl
  have h := h o2 (by rw [o1]; exact en)
  rw [o1] at h
  exact h
end
