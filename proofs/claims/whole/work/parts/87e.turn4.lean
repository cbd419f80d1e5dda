/-! passes, goes and turns of the reference -/
def BAD (w : Int → Int) (M r : Int) (σ : TS) : Prop := ∃ m s : Int, 0 ≤ m ∧ m < M ∧ (s = 0 ∨ s = 1) ∧ rtS σ (eS w m s) = r ∧ misD w σ m s = true
theorem bad_ext {w : Int → Int} {M r : Int} {σ σ' : TS} (X : EXT σ σ') (B : BAD w M r σ) : BAD w M r σ' := by
  obtain ⟨m, s, m0, m1, hs, h1, h2⟩ := B
  refine ⟨m, s, m0, m1, hs, ?_, mis_ext X h2⟩
  obtain ⟨e, e', k1, -⟩ := mis_k h2
  unfold rtS at h1 ⊢
  rw [k1] at h1
  rw [X _ _ k1]
  exact h1
theorem drv_mono {w : Int → Int} {M m s : Int} (E : EV w M) (m0 : 0 ≤ m) (m1 : m < M) (hs : s = 0 ∨ s = 1) (σ : TS) : cnT σ 8 ≤ cnT (drvS w m s σ) 8 := by
  rcases drv_cn E m0 m1 hs σ with ⟨h, -⟩ | h
  · rw [h]
    exact Nat.le_refl _
  · omega
theorem ps_back {w : Int → Int} {M : Nat} (E : EV w M) {σ : TS} {k : Nat} (hk : k < M) (h : qsS w σ (k + 1) = σ) : qsS w σ k = σ ∧ drvS w k 0 σ = σ ∧ drvS w k 1 σ = σ := by
  have h1 := drv_mono E (m := k) (s := 0) (by omega) (by omega) (Or.inl rfl) (qsS w σ k)
  have h2 := drv_mono E (m := k) (s := 1) (by omega) (by omega) (Or.inr rfl) (drvS w k 0 (qsS w σ k))
  have h3 : cnT (drvS w k 1 (drvS w k 0 (qsS w σ k))) 8 = cnT σ 8 := congrArg (fun z => cnT z 8) h
  rcases ps_cn E σ k (by omega) with ⟨a, -⟩ | a
  · rw [a] at h1 h2 h3
    have h : drvS w k 1 (drvS w k 0 (qsS w σ k)) = σ := h
    rw [a] at h
    rcases drv_cn E (m := k) (s := 0) (by omega) (by omega) (Or.inl rfl) σ with ⟨b, -⟩ | b
    · rw [b] at h
      exact ⟨a, b, h⟩
    · omega
  · omega
section
variable {d : Mem}
theorem m_pass1 (P : PL d 1 3 4 5 185) {M : Nat} (hM : d 185 1741 = M) {D : Mem} (h185 : D 185 = d 185) {r : Int} (r0 : 0 ≤ r) (r1 : r < 8) {σ : TS} (O : OKT (d 185) M σ r) (T : TRw D 195 196 197 σ) (h198 : D 198 r = 0 ∨ D 198 r = 1) : ∃ D' mo, iter (b_X12_goes_31 183 (J r)) FU (J 0, J 0, mkH D) = some (J mo, mkH D') ∧ TRw D' 195 196 197 (qsS (d 185) σ M) ∧ (qsS (d 185) σ M = σ → mo = 0) ∧ (qsS (d 185) σ M ≠ σ → mo = 1) ∧ (∀ j, j ≠ r → D' 198 j = D 198 j) ∧ (D' 198 r = 0 ∨ D' 198 r = 1) ∧ (D 198 r = 1 → D' 198 r = 1) ∧ (D' 198 r = 1 → D 198 r = 1 ∨ BAD (d 185) M r (qsS (d 185) σ M)) ∧ (qsS (d 185) σ M = σ → ∀ m s : Int, 0 ≤ m → m < M → (s = 0 ∨ s = 1) → rtS σ (eS (d 185) m s) = r → misD (d 185) σ m s = true → D' 198 r = 1) ∧ (∀ x k, x ≠ 195 → x ≠ 196 → x ≠ 197 → x ≠ 198 → ¬ (x = 183 ∧ k ≠ 10) → D' x k = D x k) := by
  have E : EV (d 185) M := by
    have := ev_of P
    rw [hM] at this
    exact this
  obtain ⟨p1, p2, p3', p4, p5, p6, -⟩ := id P
  obtain ⟨e, h1, D', mo, rfl, h2⟩ : ∃ e, iter (b_X12_goes_31 183 (J r)) FU (J 0, J 0, mkH D) = some e ∧ ∃ (D' : Mem) (mo : Int), e = (J mo, mkH D') ∧ TRw D' 195 196 197 (qsS (d 185) σ M) ∧ (qsS (d 185) σ M = σ → mo = 0) ∧ (qsS (d 185) σ M ≠ σ → mo = 1) ∧ (∀ j, j ≠ r → D' 198 j = D 198 j) ∧ (D' 198 r = 0 ∨ D' 198 r = 1) ∧ (D 198 r = 1 → D' 198 r = 1) ∧ (D' 198 r = 1 → D 198 r = 1 ∨ BAD (d 185) M r (qsS (d 185) σ M)) ∧ (qsS (d 185) σ M = σ → ∀ m s : Int, 0 ≤ m → m < M → (s = 0 ∨ s = 1) → rtS σ (eS (d 185) m s) = r → misD (d 185) σ m s = true → D' 198 r = 1) ∧ (∀ x k, x ≠ 195 → x ≠ 196 → x ≠ 197 → x ≠ 198 → ¬ (x = 183 ∧ k ≠ 10) → D' x k = D x k) := by
    refine iter_for (fun k st => ∃ (D' : Mem) (mo : Int), st = (J mo, J (k : Int), mkH D') ∧ TRw D' 195 196 197 (qsS (d 185) σ k) ∧ (qsS (d 185) σ k = σ → mo = 0) ∧ (qsS (d 185) σ k ≠ σ → mo = 1) ∧ (∀ j, j ≠ r → D' 198 j = D 198 j) ∧ (D' 198 r = 0 ∨ D' 198 r = 1) ∧ (D 198 r = 1 → D' 198 r = 1) ∧ (D' 198 r = 1 → D 198 r = 1 ∨ BAD (d 185) M r (qsS (d 185) σ k)) ∧ (qsS (d 185) σ k = σ → ∀ m s : Int, 0 ≤ m → m < k → (s = 0 ∨ s = 1) → rtS σ (eS (d 185) m s) = r → misD (d 185) σ m s = true → D' 198 r = 1) ∧ (∀ x k, x ≠ 195 → x ≠ 196 → x ≠ 197 → x ≠ 198 → ¬ (x = 183 ∧ k ≠ 10) → D' x k = D x k)) _ M (by omega) ⟨D, 0, rfl, T, fun _ => rfl, fun c => absurd rfl c, fun _ _ => rfl, h198, fun c => c, fun c => Or.inl c, fun _ m s a b => by omega, fun _ _ _ _ _ _ _ => rfl⟩ ?_ ?_
    · rintro k st hk ⟨D1, mo, rfl, T1, a1, a2, a3, a4, a5, a6, a7, a8⟩
      have k0 : (0 : Int) ≤ k := by omega
      have k1 : (k : Int) < d 185 1741 := by omega
      have O1 := ps_ok E O k (by omega)
      have e1 : D1 185 = d 185 := (funext fun j => a8 185 j (by decide) (by decide) (by decide) (by decide) (by omega)).trans h185
      obtain ⟨D2, mo1, q1, T2, b1, b2, ⟨c1, c2, c3, c4, c5⟩, b4⟩ := m_edge P e1 k0 k1 (Or.inl rfl) r0 r1 O1.1 (O1.2.1 k 0 k0 (by omega) (Or.inl rfl)) T1 a4 mo
      have O2 := drv_ok E (m := k) k0 (by omega) (Or.inl rfl) O1
      have e2 : D2 185 = d 185 := (funext fun j => b4 185 j (by decide) (by decide) (by decide) (by decide) (by omega)).trans e1
      obtain ⟨D3, mo2, q2, T3, f1, f2, ⟨g1, g2, g3, g4, g5⟩, f4⟩ := m_edge P e2 k0 k1 (Or.inr rfl) r0 r1 O2.1 (O2.2.1 k 1 k0 (by omega) (Or.inr rfl)) T2 c3 mo1
      have ek : qsS (d 185) σ (k + 1) = drvS (d 185) k 1 (drvS (d 185) k 0 (qsS (d 185) σ k)) := rfl
      have it : iter (b_X12_goes_46 183 (J r) (J (k : Int))) FU (J mo, J 0, mkH D1) = some (J mo2, mkH D3) := by
        rw [show FU = 999999997 + 1 + 1 + 1 from rfl, iter_S q1]
        have q2 : b_X12_goes_46 183 (J r) (J (k : Int)) (J mo1, J (0 + 1), mkH D2) = some (.inl (J mo2, J (1 + 1), mkH D3)) := q2
        rw [iter_S q2]
        exact iter_E (by
          unfold b_X12_goes_46
          rw [if_pos (by exact (show J 2 ≤ J (1 + 1) by decide))])
      refine ⟨(J mo2, J ((k : Int) + 1), mkH D3), ?_, D3, mo2, rfl, T3, fun hh => ?_, fun hh => ?_, fun j hj => by rw [g1 j hj, c1 j hj, a3 j hj], g3, fun c => g2 (c2 (a5 c)), fun c => ?_, fun hh m s m0 m1 hs hr hm => ?_, fun x j n1 n2 n3 n4 n5 => by rw [f4 x j n1 n2 n3 n4 n5, b4 x j n1 n2 n3 n4 n5, a8 x j n1 n2 n3 n4 n5]⟩
      · unfold b_X12_goes_31
        refine bind_eq (z183_2 D1) (bind_eq (aI185 D1 (by decide) (by decide)) ?_)
        rw [e1, hM, if_neg (by rw [J_le (by omega) (by omega) (by omega) (by omega)]; omega)]
        refine bind_eq rfl (bind_eq it (bind_eq rfl ?_))
        rw [J_add]
      · obtain ⟨z1, z2, z3⟩ := ps_back E hk hh
        rw [z1] at b1 f1
        rw [z2] at f1
        rw [f1 z3, b1 z2, a1 z1]
      · by_cases y2 : drvS (d 185) k 1 (drvS (d 185) k 0 (qsS (d 185) σ k)) = drvS (d 185) k 0 (qsS (d 185) σ k)
        · rw [f1 y2]
          by_cases y1 : drvS (d 185) k 0 (qsS (d 185) σ k) = qsS (d 185) σ k
          · rw [b1 y1]
            refine a2 (fun c => hh ?_)
            rw [ek, y2, y1, c]
          · exact b2 y1
        · exact f2 y2
      · have X2 : EXT (drvS (d 185) k 0 (qsS (d 185) σ k)) (qsS (d 185) σ (k + 1)) := drv_ext _ _ _ _
        have X1 : EXT (qsS (d 185) σ k) (qsS (d 185) σ (k + 1)) := (drv_ext _ _ _ _).tr X2
        rcases g4 c with c | ⟨c, c'⟩
        · rcases c4 c with c | ⟨c, c'⟩
          · rcases a6 c with c | c
            · exact Or.inl c
            · exact Or.inr (bad_ext X1 c)
          · exact Or.inr (bad_ext X1 ⟨k, 0, k0, by omega, Or.inl rfl, c, c'⟩)
        · exact Or.inr (bad_ext X2 ⟨k, 1, k0, by omega, Or.inr rfl, c, c'⟩)
      · obtain ⟨z1, z2, z3⟩ := ps_back E hk hh
        rw [z1] at c5 g5
        rw [z2] at g5
        by_cases cm : m = (k : Int)
        · subst cm
          rcases hs with rfl | rfl
          · exact g2 (c5 z2 hr hm)
          · exact g5 z3 hr hm
        · exact g2 (c2 (a7 z1 m s m0 (by omega) hs hr hm))
    · rintro st ⟨D1, mo, rfl, T1, a1, a2, a3, a4, a5, a6, a7, a8⟩
      have e1 : D1 185 = d 185 := (funext fun j => a8 185 j (by decide) (by decide) (by decide) (by decide) (by omega)).trans h185
      refine ⟨(J mo, mkH D1), ?_, D1, mo, rfl, T1, a1, a2, a3, a4, a5, a6, a7, a8⟩
      unfold b_X12_goes_31
      refine bind_eq (z183_2 D1) (bind_eq (aI185 D1 (by decide) (by decide)) ?_)
      rw [e1, hM, if_pos (by rw [J_le (by omega) (by omega) (by omega) (by omega)]; omega)]
  exact ⟨D', mo, h1, h2⟩
theorem m_goes (P : PL d 1 3 4 5 185) {M : Nat} (hM : d 185 1741 = M) {D : Mem} (h185 : D 185 = d 185) {k : Int} (k0 : 0 ≤ k) (k1 : k < 8) {σ : TS} (O : OKS (d 185) M σ k) (h : σ k = none) (T : TRw D 195 196 197 σ) (hz : D 198 k = 0) : ∃ D', f_X12_goes (mkH D) 183 (J k) = some (mkH D') ∧ TRw D' 195 196 197 (itS (d 185) M (upT σ k (k, 1, 1)) 7) ∧ (∀ j, j ≠ k → D' 198 j = D 198 j) ∧ (D' 198 k = 0 ∨ D' 198 k = 1) ∧ (D' 198 k = 1 ↔ BAD (d 185) M k (itS (d 185) M (upT σ k (k, 1, 1)) 7)) ∧ (∀ x j, x ≠ 195 → x ≠ 196 → x ≠ 197 → x ≠ 198 → ¬ (x = 183 ∧ j ≠ 10) → D' x j = D x j) := by
  have E : EV (d 185) M := by
    have := ev_of P
    rw [hM] at this
    exact this
  obtain ⟨O1, cn1⟩ := start_ok k0 k1 O h
  obtain ⟨D1, hD1⟩ : ∃ D1, D1 = up (up (up D 195 k k) 196 k 1) 197 k 1 := ⟨_, rfl⟩
  have T1 : TRw D1 195 196 197 (upT σ k (k, 1, 1)) := by
    refine TRw_up (D := D) ?_ ?_ ?_ T
    · rw [hD1, up_row (by decide), up_row (by decide)]
    · rw [hD1, up_row (by decide)]
      funext j
      unfold up
      split
      · rfl
      · rw [if_neg (by omega)]
    · rw [hD1]
      funext j
      unfold up
      split
      · rfl
      · rw [if_neg (by omega), if_neg (by omega)]
  have f1 : ∀ x, x ≠ 195 → x ≠ 196 → x ≠ 197 → D1 x = D x := fun x a b c => by rw [hD1, up_row c, up_row b, up_row a]
  generalize upT σ k (k, 1, 1) = τ at *
  obtain ⟨e, h1, D', rfl, h2⟩ : ∃ e, iter (b_X12_goes_23 183 (J k)) FU (J 1, mkH D1) = some e ∧ ∃ D' : Mem, e = mkH D' ∧ TRw D' 195 196 197 (itS (d 185) M τ 7) ∧ (∀ j, j ≠ k → D' 198 j = D 198 j) ∧ (D' 198 k = 0 ∨ D' 198 k = 1) ∧ (D' 198 k = 1 ↔ BAD (d 185) M k (itS (d 185) M τ 7)) ∧ (∀ x j, x ≠ 195 → x ≠ 196 → x ≠ 197 → x ≠ 198 → ¬ (x = 183 ∧ j ≠ 10) → D' x j = D x j) := by
    refine iter_inv (fun i st => ∃ (D' : Mem) (mo : Int), st = (J mo, mkH D') ∧ TRw D' 195 196 197 (itS (d 185) M τ i) ∧ (∀ j, j ≠ k → D' 198 j = D 198 j) ∧ (D' 198 k = 0 ∨ D' 198 k = 1) ∧ (D' 198 k = 1 → BAD (d 185) M k (itS (d 185) M τ i)) ∧ (mo = 1 ∧ 1 + i ≤ cnT (itS (d 185) M τ i) 8 ∨ mo = 0 ∧ FCL (d 185) M (itS (d 185) M τ i) ∧ (BAD (d 185) M k (itS (d 185) M τ i) → D' 198 k = 1)) ∧ (∀ x j, x ≠ 195 → x ≠ 196 → x ≠ 197 → x ≠ 198 → ¬ (x = 183 ∧ j ≠ 10) → D' x j = D x j)) _ 9 (by decide) ⟨D1, 1, rfl, T1, fun j _ => by rw [f1 198 (by decide) (by decide) (by decide)], Or.inl (by rw [f1 198 (by decide) (by decide) (by decide)]; exact hz), fun c => by rw [f1 198 (by decide) (by decide) (by decide), hz] at c; omega, Or.inl ⟨rfl, cn1⟩, fun x j a b c _ _ => by rw [f1 x a b c]⟩ ?_
    rintro i st hi ⟨D2, mo, rfl, T2, a1, a2, a3, a4, a5⟩
    rcases a4 with ⟨rfl, cn⟩ | ⟨rfl, fc, full⟩
    · have l := cnT_le (itS (d 185) M τ i) 8
      have e2 : D2 185 = d 185 := (funext fun j => a5 185 j (by decide) (by decide) (by decide) (by decide) (by omega)).trans h185
      have O2 := it_ok E O1 i
      obtain ⟨D3, mo', q1, T3, b1, b2, b3, b4, b5, b6, b7, b8⟩ := m_pass1 P hM e2 k0 k1 O2 T2 a2
      have e3 : qsS (d 185) (itS (d 185) M τ i) M = itS (d 185) M τ (i + 1) := rfl
      have X : EXT (itS (d 185) M τ i) (itS (d 185) M τ (i + 1)) := ps_ext M
      refine Or.inl ⟨(J mo', mkH D3), by omega, ?_, D3, mo', rfl, T3, fun j hj => by rw [b3 j hj, a1 j hj], b4, fun c => ?_, ?_, fun x j n1 n2 n3 n4 n5 => by rw [b8 x j n1 n2 n3 n4 n5, a5 x j n1 n2 n3 n4 n5]⟩
      · unfold b_X12_goes_23
        rw [if_neg n1J]
        exact bind_eq rfl (bind_eq rfl (bind_eq q1 rfl))
      · rcases b6 c with c | c
        · exact bad_ext X (a3 c)
        · exact c
      · rcases ps_cn E (itS (d 185) M τ i) M (Nat.le_refl M) with ⟨y1, y2⟩ | y
        · refine Or.inr ⟨b1 y1, ?_, fun B => ?_⟩
          · rw [← e3, y1]
            exact y2
          · rw [← e3, y1] at B
            obtain ⟨m, s, m0, m1, hs, hr, hm⟩ := B
            exact b7 y1 m s m0 m1 hs hr hm
        · refine Or.inl ⟨b2 (fun c => ?_), ?_⟩
          · rw [c] at y
            omega
          · rw [← e3]
            omega
    · have e7 := it_7 E cn1 fc
      rw [e7] at T2 a3 full
      refine Or.inr ⟨mkH D2, ?_, D2, rfl, T2, a1, a2, ⟨a3, full⟩, a5⟩
      unfold b_X12_goes_23
      rw [if_pos (by rfl)]
  refine ⟨D', ?_, h2⟩
  unfold f_X12_goes
  refine bind_eq (z183_26 D) (bind_eq (z195_1 D _ _ k0 k1) (bind_eq (z183_27 _) (bind_eq (z196_1 _ _ 1 k0 k1) (bind_eq (z183_28 _) (bind_eq (z197_1 _ _ 1 k0 k1) (bind_eq rfl ?_))))))
  rw [← hD1]
  exact bind_eq h1 rfl
theorem bad_sd {w : Int → Int} {M : Nat} {σ : TS} {r : Int} (E : EV w M) (V : VAL σ r) (R : REQ w M σ) (j : Int) : ∀ n : Nat, n ≤ M → (sdS w σ n j = true ↔ BAD w n j σ)
  | 0, _ => ⟨fun h => Bool.noConfusion (show false = true from h), fun ⟨m, s, m0, m1, _⟩ => by omega⟩
  | n + 1, hn => by
    have ih := bad_sd E V R j n (by omega)
    have sym := mis_sym E (m := n) (by omega) (by omega) V
    have hrt : misD w σ n 0 = true → rtS σ (eS w n 0) = rtS σ (eS w n 1) := fun h => by
      obtain ⟨e, e', h1, h2⟩ := mis_k h
      rw [show (1 : Int) - 0 = 1 from rfl] at h2
      have := R n 0 (by omega) (by omega) (Or.inl rfl) e e' h1 (by rw [show (1 : Int) - 0 = 1 from rfl]; exact h2)
      unfold rtS
      rw [h1, h2]
      exact this
    show (sdS w σ n j || (misD w σ n 0 && decide (rtS σ (eS w n 1) = j))) = true ↔ _
    rw [Bool.or_eq_true, Bool.and_eq_true, decide_eq_true_iff, ih]
    constructor
    · rintro (⟨m, s, m0, m1, h⟩ | ⟨h1, h2⟩)
      · exact ⟨m, s, m0, by omega, h⟩
      · exact ⟨n, 1, by omega, by omega, Or.inr rfl, h2, by rw [← sym]; exact h1⟩
    · rintro ⟨m, s, m0, m1, hs, hr, hm⟩
      by_cases c : m = (n : Int)
      · subst c
        refine Or.inr ?_
        rcases hs with rfl | rfl
        · exact ⟨hm, by rw [← hrt hm]; exact hr⟩
        · rw [← sym] at hm
          exact ⟨hm, hr⟩
      · exact Or.inl ⟨m, s, m0, by omega, hs, hr, hm⟩
theorem m_turns (P : PL d 1 3 4 5 185) {M : Nat} (hM : d 185 1741 = M) : ∃ D, f_X12_turns (mkH d) 183 = some (mkH D) ∧ TRw D 195 196 197 (slS (d 185) M 8) ∧ (∀ j, 0 ≤ j → j < 8 → D 198 j = if sdS (d 185) (slS (d 185) M 8) M j = true then 1 else 0) ∧ (∀ x k, x ≠ 195 → x ≠ 196 → x ≠ 197 → x ≠ 198 → ¬ (x = 183 ∧ k ≠ 10) → D x k = d x k) := by
  have E : EV (d 185) M := by
    have := ev_of P
    rw [hM] at this
    exact this
  obtain ⟨N, hN⟩ : ∃ N : Nat, N = 8 := ⟨_, rfl⟩
  obtain ⟨e, h1, D1, rfl, h2, h3, h4⟩ : ∃ e, iter (b_X12_turns_2 183) FU (J 0, mkH d) = some e ∧ ∃ D' : Mem, e = mkH D' ∧ (∀ j, 0 ≤ j → j < (N : Int) → D' 195 j = -1) ∧ (∀ j, 0 ≤ j → j < (N : Int) → D' 198 j = 0) ∧ (∀ x, x ≠ 195 → x ≠ 198 → D' x = d x) := by
    refine iter_for (fun k st => ∃ D' : Mem, st = (J (k : Int), mkH D') ∧ (∀ j, 0 ≤ j → j < (k : Int) → D' 195 j = -1) ∧ (∀ j, 0 ≤ j → j < (k : Int) → D' 198 j = 0) ∧ (∀ x, x ≠ 195 → x ≠ 198 → D' x = d x)) _ N (by omega) ⟨d, rfl, fun j a b => by omega, fun j a b => by omega, fun _ _ _ => rfl⟩ ?_ ?_
    · rintro k st hk ⟨D2, rfl, a1, a2, a3⟩
      refine ⟨(J ((k : Int) + 1), mkH (up (up D2 195 k (-1)) 198 k 0)), ?_, _, rfl, fun j j0 j1 => ?_, fun j j0 j1 => ?_, fun x a b => by rw [up_row b, up_row a, a3 x a b]⟩
      · unfold b_X12_turns_2
        rw [if_neg (by rw [J_le (by omega) (by omega) (by omega) (by omega)]; omega)]
        refine bind_eq (z183_26 D2) (bind_eq (z195_1 D2 _ (-1) (by omega) (by omega)) (bind_eq (z183_29 _) (bind_eq (z198_1 _ _ (by omega) (by omega)) (bind_eq rfl ?_))))
        rw [J_add]
      · rw [up_na (by decide)]
        by_cases c : j = (k : Int)
        · rw [c, up_same]
        · rw [up_nk c]
          exact a1 j j0 (by omega)
      · by_cases c : j = (k : Int)
        · rw [c, up_same]
        · rw [up_nk c, up_na (by decide)]
          exact a2 j j0 (by omega)
    · rintro st ⟨D2, rfl, a1, a2, a3⟩
      refine ⟨mkH D2, ?_, D2, rfl, a1, a2, a3⟩
      unfold b_X12_turns_2
      rw [if_pos (by rw [J_le (by omega) (by omega) (by omega) (by omega)]; omega)]
  obtain ⟨e, g1, D2, rfl, T2, s2, f2⟩ : ∃ e, iter (b_X12_turns_30 183) FU (J 0, mkH D1) = some e ∧ ∃ D' : Mem, e = mkH D' ∧ TRw D' 195 196 197 (slS (d 185) M N) ∧ (∀ j, 0 ≤ j → j < 8 → (D' 198 j = 0 ∨ D' 198 j = 1) ∧ (D' 198 j = 1 ↔ BAD (d 185) M j (slS (d 185) M N))) ∧ (∀ x k, x ≠ 195 → x ≠ 196 → x ≠ 197 → x ≠ 198 → ¬ (x = 183 ∧ k ≠ 10) → D' x k = d x k) := by
    refine iter_for (fun k st => ∃ D' : Mem, st = (J (k : Int), mkH D') ∧ TRw D' 195 196 197 (slS (d 185) M k) ∧ (∀ j, 0 ≤ j → j < 8 → (D' 198 j = 0 ∨ D' 198 j = 1) ∧ (D' 198 j = 1 ↔ BAD (d 185) M j (slS (d 185) M k))) ∧ (∀ x k, x ≠ 195 → x ≠ 196 → x ≠ 197 → x ≠ 198 → ¬ (x = 183 ∧ k ≠ 10) → D' x k = d x k)) _ N (by omega) ⟨D1, rfl, fun j j0 j1 => ⟨fun _ => h2 j j0 (by omega), fun e h => (by cases h)⟩, fun j j0 j1 => ⟨Or.inl (h3 j j0 (by omega)), fun c => by rw [h3 j j0 (by omega)] at c; omega, fun ⟨m, s, _, _, _, _, hm⟩ => by
        obtain ⟨e, e', q, -⟩ := mis_k hm
        cases q⟩, fun x k a _ _ b _ => by rw [h4 x a b]⟩ ?_ ?_
    · rintro k st hk ⟨D3, rfl, T3, s3, f3⟩
      have k0 : (0 : Int) ≤ k := by omega
      have k1 : (k : Int) < 8 := by omega
      have O := sl_ok E k (by omega)
      have e3 : D3 185 = d 185 := funext fun j => f3 185 j (by decide) (by decide) (by decide) (by decide) (by omega)
      have pre : ∀ {Y : Option ((Int32 × Hp) ⊕ Hp)}, ((if 0 ≤ J (D3 195 k) then
      some (mkH D3)
    else
      (isO (mkH D3) 183 11).bind fun _ =>
      (f_X12_goes (mkH D3) 183 (J (k : Int))).bind fun r5 =>
      some r5).bind fun (j3 : Hp) =>
    (some (J (k : Int) + (J 1))).bind fun x7 =>
    some (.inl (x7, j3))) = Y → b_X12_turns_30 183 (J (k : Int), mkH D3) = Y := by
        intro Y hY
        unfold b_X12_turns_30
        rw [if_neg (by rw [J_le (by omega) (by omega) (by omega) (by omega)]; omega)]
        exact bind_eq (z183_26 D3) (bind_eq (z195_0 D3 _ k0 k1) hY)
      unfold slS
      by_cases c : slS (d 185) M k k = none
      · rw [if_pos c]
        have nb : ¬ BAD (d 185) M k (slS (d 185) M k) := fun ⟨m, s, m0, m1, hs, hr, hm⟩ => by
          obtain ⟨e, e', q, -⟩ := mis_k hm
          obtain ⟨sa0, sa1, -⟩ := E m s m0 m1 hs
          obtain ⟨u1, u2, -⟩ := O.1 _ e sa0 sa1 q
          unfold rtS at hr
          rw [q] at hr
          have hr : e.1 = k := hr
          omega
        have z : D3 198 k = 0 := by
          rcases (s3 k k0 k1).1 with z | z
          · exact z
          · exact absurd ((s3 k k0 k1).2.mp z) nb
        obtain ⟨D4, q4, T4, b1, b2, b3, b4⟩ := m_goes P hM e3 k0 k1 O c T3 z
        obtain ⟨O1, -⟩ := start_ok k0 k1 O c
        have X0 : EXT (slS (d 185) M k) (upT (slS (d 185) M k) k (k, 1, 1)) := fun j x hx => by
          unfold upT
          rw [if_neg (fun cc => by rw [cc, c] at hx; cases hx)]
          exact hx
        have X : EXT (slS (d 185) M k) (itS (d 185) M (upT (slS (d 185) M k) k (k, 1, 1)) 7) := X0.tr (it_ext 7)
        have OL : OLD (upT (slS (d 185) M k) k (k, 1, 1)) (itS (d 185) M (upT (slS (d 185) M k) k (k, 1, 1)) 7) k := it_old E O1 7
        refine ⟨(J ((k : Int) + 1), mkH D4), pre ?_, D4, rfl, T4, fun j j0 j1 => ?_, fun x j n1 n2 n3 n4 n5 => by rw [b4 x j n1 n2 n3 n4 n5, f3 x j n1 n2 n3 n4 n5]⟩
        · rw [(T3 k k0 k1).1 c, if_neg (by decide)]
          refine bind_eq (a := mkH D4) (bind_eq (isO183 _) (bind_eq q4 rfl)) (bind_eq rfl ?_)
          rw [J_add]
        · by_cases cj : j = (k : Int)
          · rw [cj]
            exact ⟨b2, b3⟩
          · rw [b1 j cj]
            refine ⟨(s3 j j0 j1).1, (s3 j j0 j1).2.trans ⟨fun B => bad_ext X B, fun ⟨m, s, m0, m1, hs, hr, hm⟩ => ?_⟩⟩
            obtain ⟨e, e', q, q'⟩ := mis_k hm
            have er : e.1 = j := by
              unfold rtS at hr
              rw [q] at hr
              exact hr
            have o1 := OL _ e q (by rw [er]; exact cj)
            have o2 : slS (d 185) M k (eS (d 185) m s) = some e := by
              unfold upT at o1
              by_cases cc : eS (d 185) m s = (k : Int)
              · rw [if_pos cc] at o1
                have o1 := Option.some.inj o1
                rw [← o1] at er
                exact absurd er.symm cj
              · rw [if_neg cc] at o1
                exact o1
            have o3 := O.2.1 m s m0 m1 hs (fun cc => by rw [o2] at cc; cases cc)
            cases o4 : slS (d 185) M k (eS (d 185) m (1 - s)) with
            | none => exact absurd o4 o3
            | some e'' =>
              have o5 := X _ _ o4
              rw [q'] at o5
              have o5 := Option.some.inj o5
              refine ⟨m, s, m0, m1, hs, ?_, ?_⟩
              · unfold rtS
                rw [o2]
                exact er
              · unfold misD at hm ⊢
                rw [q, q', o5] at hm
                rw [o2, o4]
                exact hm
      · rw [if_neg c]
        cases hq : slS (d 185) M k k with
        | none => exact absurd hq c
        | some x =>
          obtain ⟨v1, v2, -⟩ := val_b O.1 k0 k1 hq
          obtain ⟨t1, -⟩ := (T3 k k0 k1).2 x hq
          refine ⟨(J ((k : Int) + 1), mkH D3), pre ?_, D3, rfl, T3, s3, f3⟩
          rw [t1, if_pos (by rw [J_zero, J_le (by omega) (by omega) (by omega) (by omega)]; omega)]
          refine bind_eq rfl (bind_eq rfl ?_)
          rw [J_add]
    · rintro st ⟨D3, rfl, T3, s3, f3⟩
      refine ⟨mkH D3, ?_, D3, rfl, T3, s3, f3⟩
      unfold b_X12_turns_30
      rw [if_pos (by rw [J_le (by omega) (by omega) (by omega) (by omega)]; omega)]
  rw [hN] at T2 s2
  have O := sl_ok E 8 (by omega)
  refine ⟨D2, ?_, T2, fun j j0 j1 => ?_, f2⟩
  · unfold f_X12_turns
    exact bind_eq rfl (bind_eq h1 (bind_eq rfl (bind_eq g1 rfl)))
  · have b := bad_sd E O.1 O.2.2 j M (Nat.le_refl M)
    obtain ⟨s0, s1⟩ := s2 j j0 j1
    by_cases c : sdS (d 185) (slS (d 185) M 8) M j = true
    · rw [if_pos c]
      exact s1.mpr (b.mp c)
    · rw [if_neg c]
      rcases s0 with s0 | s0
      · exact s0
      · exact absurd (b.mpr (s1.mp s0)) c
end
