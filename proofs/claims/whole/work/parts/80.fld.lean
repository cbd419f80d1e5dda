/-! whether a rule reads, and where, does not hang on the fields -/
section
variable {c : Int → Int} {f f' : Int → Int32}
theorem atom_fld (p : Int) : (atomS c f p).1 = (atomS c f' p).1 ∧ (atomS c f p).2.1 = (atomS c f' p).2.1 := by
  unfold atomS
  split
  · exact ⟨rfl, rfl⟩
  · split <;> exact ⟨rfl, rfl⟩
theorem sumL_fld : ∀ (F : Nat) (p : Int) (v v' : Int32), (sumL c f F p v).1 = (sumL c f' F p v').1 ∧ (sumL c f F p v).2.1 = (sumL c f' F p v').2.1
  | 0, p, v, v' => ⟨rfl, rfl⟩
  | F + 1, p, v, v' => by
    obtain ⟨h1, h2⟩ := atom_fld (c := c) (f := f) (f' := f') (p + 1)
    unfold sumL
    rw [h1, h2]
    by_cases c1 : c p = 43
    · rw [if_pos c1, if_pos c1]
      by_cases k : (atomS c f' (p + 1)).2.1 = true
      · rw [if_pos k, if_pos k]
        exact sumL_fld F _ _ _
      · rw [if_neg k, if_neg k]
        exact ⟨rfl, rfl⟩
    · rw [if_neg c1, if_neg c1]
      by_cases c2 : c p = 45
      · rw [if_pos c2, if_pos c2]
        by_cases k : (atomS c f' (p + 1)).2.1 = true
        · rw [if_pos k, if_pos k]
          exact sumL_fld F _ _ _
        · rw [if_neg k, if_neg k]
          exact ⟨rfl, rfl⟩
      · rw [if_neg c2, if_neg c2]
        exact ⟨rfl, rfl⟩
theorem smm_fld (p : Int) : (smmS c f p).1 = (smmS c f' p).1 ∧ (smmS c f p).2.1 = (smmS c f' p).2.1 := by
  obtain ⟨h1, h2⟩ := atom_fld (c := c) (f := f) (f' := f') p
  unfold smmS
  rw [h1, h2]
  by_cases k : (atomS c f' p).2.1 = true
  · rw [if_pos k, if_pos k]
    exact sumL_fld 200 _ _ _
  · rw [if_neg k, if_neg k]
    exact ⟨rfl, rfl⟩
def SmT (t t' : Int → Int × Bool × Bool) : Prop := ∀ p, (t p).1 = (t' p).1 ∧ (t p).2.1 = (t' p).2.1
theorem andL_fld {t t' : Int → Int × Bool × Bool} (h : SmT t t') : ∀ (F : Nat) (p : Int) (v v' : Bool), (andL c t F p v).1 = (andL c t' F p v').1 ∧ (andL c t F p v).2.1 = (andL c t' F p v').2.1
  | 0, p, v, v' => ⟨rfl, rfl⟩
  | F + 1, p, v, v' => by
    obtain ⟨h1, h2⟩ := h (p + 1)
    unfold andL
    rw [h1, h2]
    by_cases c1 : c p = 38
    · rw [if_pos c1, if_pos c1]
      by_cases k : (t' (p + 1)).2.1 = true
      · rw [if_pos k, if_pos k]
        exact andL_fld h F _ _ _
      · rw [if_neg k, if_neg k]
        exact ⟨rfl, rfl⟩
    · rw [if_neg c1, if_neg c1]
      exact ⟨rfl, rfl⟩
theorem andS_fld {t t' : Int → Int × Bool × Bool} (h : SmT t t') : SmT (andS c t) (andS c t') := fun p => by
  obtain ⟨h1, h2⟩ := h p
  unfold andS
  rw [h1, h2]
  by_cases k : (t' p).2.1 = true
  · rw [if_pos k, if_pos k]
    exact andL_fld h 200 _ _ _
  · rw [if_neg k, if_neg k]
    exact ⟨rfl, rfl⟩
theorem orL_fld {t t' : Int → Int × Bool × Bool} (h : SmT t t') : ∀ (F : Nat) (p : Int) (v v' : Bool), (orL c t F p v).1 = (orL c t' F p v').1 ∧ (orL c t F p v).2.1 = (orL c t' F p v').2.1
  | 0, p, v, v' => ⟨rfl, rfl⟩
  | F + 1, p, v, v' => by
    obtain ⟨h1, h2⟩ := andS_fld (c := c) h (p + 1)
    unfold orL
    rw [h1, h2]
    by_cases c1 : c p = 124
    · rw [if_pos c1, if_pos c1]
      by_cases k : (andS c t' (p + 1)).2.1 = true
      · rw [if_pos k, if_pos k]
        exact orL_fld h F _ _ _
      · rw [if_neg k, if_neg k]
        exact ⟨rfl, rfl⟩
    · rw [if_neg c1, if_neg c1]
      exact ⟨rfl, rfl⟩
theorem orS_fld {t t' : Int → Int × Bool × Bool} (h : SmT t t') : SmT (orS c t) (orS c t') := fun p => by
  obtain ⟨h1, h2⟩ := andS_fld (c := c) h p
  unfold orS
  rw [h1, h2]
  by_cases k : (andS c t' p).2.1 = true
  · rw [if_pos k, if_pos k]
    exact orL_fld h 200 _ _ _
  · rw [if_neg k, if_neg k]
    exact ⟨rfl, rfl⟩
theorem tst_fld : ∀ (F dep : Nat), SmT (tstS c f F dep) (tstS c f' F dep)
  | 0, dep => fun p => ⟨rfl, rfl⟩
  | F + 1, dep => fun p => by
    unfold tstS
    by_cases c1 : c p = 33
    · rw [if_pos c1, if_pos c1]
      exact tst_fld F dep (p + 1)
    · rw [if_neg c1, if_neg c1]
      by_cases c2 : c p = 40
      · rw [if_pos c2, if_pos c2]
        by_cases c3 : dep = 8
        · rw [if_pos c3, if_pos c3]
          exact ⟨rfl, rfl⟩
        · rw [if_neg c3, if_neg c3]
          obtain ⟨h1, h2⟩ := orS_fld (c := c) (tst_fld F (dep + 1)) (p + 1)
          rw [h1, h2]
          by_cases k : (orS c (tstS c f' F (dep + 1)) (p + 1)).2.1 = true
          · rw [if_pos k, if_pos k]
            by_cases k2 : c (orS c (tstS c f' F (dep + 1)) (p + 1)).1 = 41
            · rw [if_pos k2, if_pos k2]
              exact ⟨rfl, rfl⟩
            · rw [if_neg k2, if_neg k2]
              exact ⟨rfl, rfl⟩
          · rw [if_neg k, if_neg k]
            exact ⟨rfl, rfl⟩
      · rw [if_neg c2, if_neg c2]
        obtain ⟨h1, h2⟩ := smm_fld (c := c) (f := f) (f' := f') p
        obtain ⟨h3, h4⟩ := smm_fld (c := c) (f := f) (f' := f') ((smmS c f' p).1 + 1)
        rw [h1, h2]
        by_cases k : (smmS c f' p).2.1 = true
        · rw [if_pos k, if_pos k]
          by_cases k2 : c (smmS c f' p).1 = 60 ∨ c (smmS c f' p).1 = 62 ∨ c (smmS c f' p).1 = 61
          · rw [if_pos k2, if_pos k2]
            exact ⟨h3, h4⟩
          · rw [if_neg k2, if_neg k2]
            exact ⟨rfl, rfl⟩
        · rw [if_neg k, if_neg k]
          exact ⟨rfl, rfl⟩
theorem top_fld : (topS c f).1 = (topS c f').1 ∧ (topS c f).2.1 = (topS c f').2.1 := orS_fld (tst_fld 130 0) 0
end
