/-! ranges of the reading; the middle of a test -/
section
variable {d : Mem} {b : Nat} {tx : Int → Int} {n : Int}
/-- an item reads on, within the text -/
def ItR (n : Int) (t : Int → Int × Bool × Bool) : Prop := ∀ p, 0 ≤ p → p ≤ n → ((t p).2.1 = true → p + 1 ≤ (t p).1) ∧ p ≤ (t p).1 ∧ (t p).1 ≤ n
theorem andL_rng {t : Int → Int × Bool × Bool} (h : ItR n t) : ∀ (F : Nat) (p : Int) (v : Bool), 0 ≤ p → p ≤ n → p ≤ (andL (chS tx n) t F p v).1 ∧ (andL (chS tx n) t F p v).1 ≤ n
  | 0, p, v, p0, p1 => ⟨Int.le_refl p, p1⟩
  | F + 1, p, v, p0, p1 => by
    unfold andL
    split
    · rename_i c
      have hlt := ch_lt (tx := tx) (n := n) (p := p) (by omega)
      obtain ⟨h1, h2, h3⟩ := h (p + 1) (by omega) (by omega)
      split
      · have := andL_rng h F (t (p + 1)).1 (v && (t (p + 1)).2.2) (by omega) h3
        omega
      · exact ⟨by show p ≤ (t (p + 1)).1; omega, h3⟩
    · exact ⟨Int.le_refl p, p1⟩
theorem andS_rng {t : Int → Int × Bool × Bool} (h : ItR n t) : ItR n (andS (chS tx n) t) := by
  intro p p0 p1
  obtain ⟨h1, h2, h3⟩ := h p p0 p1
  unfold andS
  split
  · rename_i c
    have h1 := h1 c
    have q := andL_rng (tx := tx) h 200 (t p).1 (t p).2.2 (by omega) h3
    exact ⟨fun _ => by omega, by omega, q.2⟩
  · exact ⟨fun e => Bool.noConfusion (show false = true from e), h2, h3⟩
theorem orL_rng {t : Int → Int × Bool × Bool} (h : ItR n t) : ∀ (F : Nat) (p : Int) (v : Bool), 0 ≤ p → p ≤ n → p ≤ (orL (chS tx n) t F p v).1 ∧ (orL (chS tx n) t F p v).1 ≤ n
  | 0, p, v, p0, p1 => ⟨Int.le_refl p, p1⟩
  | F + 1, p, v, p0, p1 => by
    unfold orL
    split
    · rename_i c
      have hlt := ch_lt (tx := tx) (n := n) (p := p) (by omega)
      obtain ⟨h1, h2, h3⟩ := andS_rng (tx := tx) h (p + 1) (by omega) (by omega)
      split
      · have := orL_rng h F (andS (chS tx n) t (p + 1)).1 (v || (andS (chS tx n) t (p + 1)).2.2) (by omega) h3
        omega
      · exact ⟨by show p ≤ (andS (chS tx n) t (p + 1)).1; omega, h3⟩
    · exact ⟨Int.le_refl p, p1⟩
theorem orS_rng {t : Int → Int × Bool × Bool} (h : ItR n t) : ItR n (orS (chS tx n) t) := by
  intro p p0 p1
  obtain ⟨h1, h2, h3⟩ := andS_rng (tx := tx) h p p0 p1
  unfold orS
  split
  · rename_i c
    have h1 := h1 c
    have q := orL_rng (tx := tx) h 200 (andS (chS tx n) t p).1 (andS (chS tx n) t p).2.2 (by omega) h3
    exact ⟨fun _ => by omega, by omega, q.2⟩
  · exact ⟨fun e => Bool.noConfusion (show false = true from e), h2, h3⟩
theorem tst_rng {fld : Int → Int32} : ∀ (F dep : Nat), ItR n (tstS (chS tx n) fld F dep)
  | 0, dep => fun p p0 p1 => ⟨fun e => Bool.noConfusion (show false = true from e), Int.le_refl p, p1⟩
  | F + 1, dep => fun p p0 p1 => by
    unfold tstS
    split
    · rename_i c
      have hlt := ch_lt (tx := tx) (n := n) (p := p) (by omega)
      obtain ⟨h1, h2, h3⟩ := tst_rng F dep (p + 1) (by omega) (by omega)
      exact ⟨fun e => by have := h1 e; show p + 1 ≤ (tstS (chS tx n) fld F dep (p + 1)).1; omega, by show p ≤ (tstS (chS tx n) fld F dep (p + 1)).1; omega, h3⟩
    · split
      · rename_i c
        have hlt := ch_lt (tx := tx) (n := n) (p := p) (by omega)
        split
        · exact ⟨fun e => Bool.noConfusion (show false = true from e), Int.le_refl p, p1⟩
        · obtain ⟨h1, h2, h3⟩ := orS_rng (tx := tx) (tst_rng (fld := fld) F (dep + 1)) (p + 1) (by omega) (by omega)
          split
          · rename_i c2
            have h1 := h1 c2
            split
            · rename_i c3
              have hlt2 := ch_lt (tx := tx) (n := n) (p := (orS (chS tx n) (tstS (chS tx n) fld F (dep + 1)) (p + 1)).1) (by omega)
              exact ⟨fun _ => by show p + 1 ≤ (orS (chS tx n) (tstS (chS tx n) fld F (dep + 1)) (p + 1)).1 + 1; omega, by show p ≤ (orS (chS tx n) (tstS (chS tx n) fld F (dep + 1)) (p + 1)).1 + 1; omega, by show (orS (chS tx n) (tstS (chS tx n) fld F (dep + 1)) (p + 1)).1 + 1 ≤ n; omega⟩
            · exact ⟨fun e => Bool.noConfusion (show false = true from e), by show p ≤ (orS (chS tx n) (tstS (chS tx n) fld F (dep + 1)) (p + 1)).1; omega, h3⟩
          · exact ⟨fun e => Bool.noConfusion (show false = true from e), by show p ≤ (orS (chS tx n) (tstS (chS tx n) fld F (dep + 1)) (p + 1)).1; omega, h3⟩
      · obtain ⟨h1, h2, h3⟩ := smm_rng (tx := tx) (n := n) (fld := fld) p0 p1
        split
        · rename_i c2
          have h1 := h1 c2
          split
          · rename_i c3
            have hlt2 := ch_lt (tx := tx) (n := n) (p := (smmS (chS tx n) fld p).1) (by omega)
            obtain ⟨g1, g2, g3⟩ := smm_rng (tx := tx) (n := n) (fld := fld) (p := (smmS (chS tx n) fld p).1 + 1) (by omega) (by omega)
            exact ⟨fun e => by have := g1 e; show p + 1 ≤ (smmS (chS tx n) fld ((smmS (chS tx n) fld p).1 + 1)).1; omega, by show p ≤ (smmS (chS tx n) fld ((smmS (chS tx n) fld p).1 + 1)).1; omega, g3⟩
          · exact ⟨fun e => Bool.noConfusion (show false = true from e), h2, h3⟩
        · exact ⟨fun e => Bool.noConfusion (show false = true from e), h2, h3⟩
/-- a test that is no ! and no ( -/
def spsS (c : Int → Int) (fld : Int → Int32) (p : Int) : Int × Bool × Bool :=
  if (smmS c fld p).2.1 = true then (if c (smmS c fld p).1 = 60 ∨ c (smmS c fld p).1 = 62 ∨ c (smmS c fld p).1 = 61 then ((smmS c fld ((smmS c fld p).1 + 1)).1, (smmS c fld ((smmS c fld p).1 + 1)).2.1, cmpS (c (smmS c fld p).1) (smmS c fld p).2.2 (smmS c fld ((smmS c fld p).1 + 1)).2.2) else ((smmS c fld p).1, false, false))
  else ((smmS c fld p).1, false, false)
def spathF (h : Hp) : Option (Int32 × Hp) :=
  (isO h 128 6).bind fun _ =>
  (f_X7_readSum h 128).bind fun r6 =>
  (isO r6.2 128 6).bind fun _ =>
  (f_X4_coming_6 r6.2 128).bind fun r8 =>
  ((if r8 = (J 60) then some ((r8.toUInt32 % 65536).toInt32) else (if r8 = (J 62) then some ((r8.toUInt32 % 65536).toInt32) else some (J 61)))).bind fun (j9 : Int32) =>
  (isO r6.2 128 6).bind fun _ =>
  (f_X4_takeOrStop_6 r6.2 128 j9).bind fun r13 =>
  (isO r13 128 6).bind fun _ =>
  (f_X7_readSum r13 128).bind fun r15 =>
  ((if r8 = (J 60) then (if r15.1 ≤ r6.1 then some (J 0) else some (J 1)) else (if r8 = (J 62) then (if r6.1 ≤ r15.1 then some (J 0) else some (J 1)) else (if r6.1 = r15.1 then some (J 1) else some (J 0))))).bind fun (j16 : Int32) =>
  some (j16, r15.2)
theorem u16_60 : ((J 60).toUInt32 % 65536).toInt32 = J 60 := by decide
theorem u16_62 : ((J 62).toUInt32 % 65536).toInt32 = J 62 := by decide
theorem k_spath (R : RD d b tx n) {p : Int} (p0 : 0 ≤ p) (p1 : p ≤ n) : ∃ v : Bool, spathF (mkH (rs d p 0)) = some (J (B (v = true)), mkH (rs d (spsS (chS tx n) (fldC d) p).1 (if (spsS (chS tx n) (fldC d) p).2.1 = true then 0 else 1))) ∧ ((spsS (chS tx n) (fldC d) p).2.1 = true → v = (spsS (chS tx n) (fldC d) p).2.2) := by
  obtain ⟨w1, s1, v1⟩ := k_sum R p0 p1
  obtain ⟨h1, h2, h3⟩ := smm_rng (tx := tx) (n := n) (fld := fldC d) p0 p1
  have qO : ∀ p s, isO (mkH (rs d p s)) 128 6 = some () := fun p s => q_isO rfl
  unfold spsS
  by_cases c : (smmS (chS tx n) (fldC d) p).2.1 = true
  · rw [if_pos c] at s1 ⊢
    have h1 := h1 c
    have v1 := v1 c
    generalize hQ : (smmS (chS tx n) (fldC d) p).1 = q at *
    rw [← v1]
    have g1 := k_coming R (p := q) (by omega) h3
    have g2 := R.ch q
    by_cases cs : chS tx n q = 60 ∨ chS tx n q = 62 ∨ chS tx n q = 61
    · rw [if_pos cs]
      have hlt := ch_lt (tx := tx) (n := n) (p := q) (by omega)
      obtain ⟨w2, s2, v2⟩ := k_sum R (p := q + 1) (by omega) (by omega)
      have j9 : (if J (chS tx n q) = J 60 then some (((J (chS tx n q)).toUInt32 % 65536).toInt32) else if J (chS tx n q) = J 62 then some (((J (chS tx n q)).toUInt32 % 65536).toInt32) else some (J 61)) = some (J (chS tx n q)) := by
        rcases cs with e | e | e <;> rw [e]
        · rw [if_pos rfl, u16_60]
        · rw [if_neg (by decide), if_pos rfl, u16_62]
        · rw [if_neg (by decide), if_neg (by decide)]
      have g3 := k_tos R (p := q) (x := chS tx n q) (by omega) h3 (by omega) (by omega)
      rw [if_pos rfl] at g3
      have g4 := cmp_val (chS tx n q) w1 w2 cs
      refine ⟨cmpS (chS tx n q) w1 w2, ?_, fun e => by rw [v2 e]⟩
      unfold spathF
      simp only [qO, s1, bindS, g1, j9, g3, s2, g4]
    · rw [if_neg cs]
      have j9 : (if J (chS tx n q) = J 60 then some (((J (chS tx n q)).toUInt32 % 65536).toInt32) else if J (chS tx n q) = J 62 then some (((J (chS tx n q)).toUInt32 % 65536).toInt32) else some (J 61)) = some (J 61) := by
        have n1 : ¬ J (chS tx n q) = J 60 := by rw [J_eq (by omega) (by omega) (by omega) (by omega)]; omega
        have n2 : ¬ J (chS tx n q) = J 62 := by rw [J_eq (by omega) (by omega) (by omega) (by omega)]; omega
        rw [if_neg n1, if_neg n2]
      have g3 := k_tos R (p := q) (x := 61) (by omega) h3 (by omega) (by omega)
      rw [if_neg (by omega)] at g3
      obtain ⟨v, hv⟩ := cmp_some (chS tx n q) g2.1 g2.2 w1 (J 0)
      refine ⟨v, ?_, fun e => Bool.noConfusion (show false = true from e)⟩
      unfold spathF
      simp only [qO, s1, bindS, g1, j9, g3, k_sumS, hv]
      rfl
  · rw [if_neg c] at s1 ⊢
    have g1 := k_comingS (d := d) (smmS (chS tx n) (fldC d) p).1
    have j9 : (if J (-1) = J 60 then some (((J (-1)).toUInt32 % 65536).toInt32) else if J (-1) = J 62 then some (((J (-1)).toUInt32 % 65536).toInt32) else some (J 61)) = some (J 61) := by rw [if_neg (by decide), if_neg (by decide)]
    have g3 := k_tosS (d := d) (p := (smmS (chS tx n) (fldC d) p).1) (x := 61) (by decide) (by decide)
    obtain ⟨v, hv⟩ := cmp_some (-1) (by decide) (by decide) w1 (J 0)
    refine ⟨v, ?_, fun e => Bool.noConfusion (show false = true from e)⟩
    unfold spathF
    simp only [qO, s1, bindS, g1, j9, g3, k_sumS, hv]
    rfl
end
