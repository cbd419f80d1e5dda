/-! TURNING, told of the reference's row w: shafts, their roots and speeds -/
theorem nx_fac {p q : Int} (hq : 0 < q) : ∃ g P Q : Int, 0 < g ∧ g = (Nat.gcd p.natAbs q.natAbs : Int) ∧ p = g * P ∧ q = g * Q ∧ p / g = P ∧ q / g = Q ∧ 0 < Q ∧ Nat.gcd P.natAbs Q.natAbs = 1 := by
  obtain ⟨G, hG⟩ : ∃ G : Nat, G = Nat.gcd p.natAbs q.natAbs := ⟨_, rfl⟩
  have Gp : 0 < G := by rw [hG]; exact Nat.gcd_pos_of_pos_right _ (by omega)
  have d1 : (G : Int) ∣ p := Int.natAbs_dvd_natAbs.mp (by rw [Int.natAbs_natCast, hG]; exact Nat.gcd_dvd_left _ _)
  have d2 : (G : Int) ∣ q := Int.natAbs_dvd_natAbs.mp (by rw [Int.natAbs_natCast, hG]; exact Nat.gcd_dvd_right _ _)
  have e1 : p = G * (p / G) := (Int.mul_ediv_cancel' d1).symm
  have e2 : q = G * (q / G) := (Int.mul_ediv_cancel' d2).symm
  refine ⟨G, p / G, q / G, by omega, by rw [hG], e1, e2, rfl, rfl, ?_, ?_⟩
  · have h : 0 < (G : Int) * (q / G) := by rw [← e2]; exact hq
    exact Int.pos_of_mul_pos_right h (by omega)
  · have h1 : p.natAbs = G * (p / G).natAbs := by
      have := congrArg Int.natAbs e1
      rw [Int.natAbs_mul, Int.natAbs_natCast] at this
      exact this
    have h2 : q.natAbs = G * (q / G).natAbs := by
      have := congrArg Int.natAbs e2
      rw [Int.natAbs_mul, Int.natAbs_natCast] at this
      exact this
    have h3 : G * Nat.gcd (p / G).natAbs (q / G).natAbs = G * 1 := by
      rw [← Nat.gcd_mul_left, ← h1, ← h2, Nat.mul_one]
      exact hG.symm
    exact Nat.eq_of_mul_eq_mul_left Gp h3
theorem red_iff {A C p q : Int} (hC : 0 < C) (hq : 0 < q) (hg : Nat.gcd A.natAbs C.natAbs = 1) : (A = p / (Nat.gcd p.natAbs q.natAbs : Int) ∧ C = q / (Nat.gcd p.natAbs q.natAbs : Int)) ↔ A * q = p * C := by
  obtain ⟨g, P, Q, g0, eg, ep, eq, rp, rq, Q0, cop⟩ := nx_fac (p := p) hq
  rw [← eg, rp, rq]
  constructor
  · rintro ⟨rfl, rfl⟩
    rw [ep, eq, ← Int.mul_assoc, Int.mul_comm A g]
  · intro h
    have h1 : g * (A * Q) = g * (P * C) := by
      rw [ep, eq] at h
      rw [← Int.mul_assoc, ← Int.mul_assoc, Int.mul_comm g A, Int.mul_assoc]
      exact h
    have h2 : A * Q = P * C := Int.eq_of_mul_eq_mul_left (by omega) h1
    have h3 : A.natAbs * Q.natAbs = P.natAbs * C.natAbs := by
      rw [← Int.natAbs_mul, ← Int.natAbs_mul, h2]
    have a1 : C.natAbs ∣ Q.natAbs := by
      have : Nat.Coprime C.natAbs A.natAbs := by
        show Nat.gcd _ _ = 1
        rw [Nat.gcd_comm]
        exact hg
      exact this.dvd_of_dvd_mul_left (by rw [h3]; exact Nat.dvd_mul_left _ _)
    have a2 : Q.natAbs ∣ C.natAbs := by
      have : Nat.Coprime Q.natAbs P.natAbs := by
        show Nat.gcd _ _ = 1
        rw [Nat.gcd_comm]
        exact cop
      exact this.dvd_of_dvd_mul_left (by rw [← h3]; exact Nat.dvd_mul_left _ _)
    have a3 := Nat.dvd_antisymm a1 a2
    have eC : C = Q := by omega
    refine ⟨?_, eC⟩
    rw [eC] at h2
    exact Int.eq_of_mul_eq_mul_right (by omega) h2
/-- of the mesh m, side s (0, 1): shaft and teeth of its gear; the sign of the mesh -/
def eS (w : Int → Int) (m s : Int) : Int := w (19 * w (228 + 3 * m + s) + 2)
def eT (w : Int → Int) (m s : Int) : Int := w (19 * w (228 + 3 * m + s) + 1)
def eG (w : Int → Int) (m : Int) : Int := if w (19 * w (228 + 3 * m + 0)) = 4 ∨ w (19 * w (228 + 3 * m + 1)) = 4 then 1 else -1
/-- root, above the line, below it, of a shaft, once they are known -/
abbrev TS : Type := Int → Option (Int × Int × Int)
def nxP (w : Int → Int) (m s b : Int) : Int := b * eT w m s * eG w m
def nxQ (w : Int → Int) (m s c : Int) : Int := c * eT w m (1 - s)
def nxG (w : Int → Int) (m s : Int) (e : Int × Int × Int) : Int := (Nat.gcd (nxP w m s e.2.1).natAbs (nxQ w m s e.2.2).natAbs : Int)
def nxt (w : Int → Int) (m s : Int) (e : Int × Int × Int) : Int × Int × Int := (e.1, nxP w m s e.2.1 / nxG w m s e, nxQ w m s e.2.2 / nxG w m s e)
def upT (σ : TS) (k : Int) (e : Int × Int × Int) : TS := fun j => if j = k then some e else σ j
def drvS (w : Int → Int) (m s : Int) (σ : TS) : TS := match σ (eS w m s), σ (eS w m (1 - s)) with
  | some e, none => upT σ (eS w m (1 - s)) (nxt w m s e)
  | _, _ => σ
/-- how many shafts are known -/
def cnT (σ : TS) : Nat → Nat
  | 0 => 0
  | k + 1 => cnT σ k + (if (σ k).isSome = true then 1 else 0)
/-- the edges of a plant of M meshes -/
def EV (w : Int → Int) (M : Int) : Prop := ∀ m s : Int, 0 ≤ m → m < M → (s = 0 ∨ s = 1) → 0 ≤ eS w m s ∧ eS w m s < 8 ∧ 4 ≤ eT w m s ∧ eT w m s ≤ 99
theorem eG_rng (w : Int → Int) (m : Int) : eG w m = 1 ∨ eG w m = -1 := by
  unfold eG
  split
  · exact Or.inl rfl
  · exact Or.inr rfl
theorem cnT_le (σ : TS) : ∀ k, cnT σ k ≤ k
  | 0 => Nat.le_refl 0
  | k + 1 => by
    have h := cnT_le σ k
    unfold cnT
    split <;> omega
theorem cnT_up {σ : TS} {k : Int} {e : Int × Int × Int} (h : σ k = none) (k0 : 0 ≤ k) : ∀ n : Nat, cnT (upT σ k e) n = cnT σ n + (if k < n then 1 else 0)
  | 0 => by
    unfold cnT
    rw [if_neg (by omega)]
  | n + 1 => by
    have h1 := cnT_up (e := e) h k0 n
    show cnT (upT σ k e) n + (if (upT σ k e n).isSome = true then 1 else 0) = cnT σ n + (if (σ n).isSome = true then 1 else 0) + (if k < ((n + 1 : Nat) : Int) then 1 else 0)
    rw [h1]
    by_cases c : (n : Int) = k
    · have e1 : upT σ k e n = some e := if_pos c
      have e2 : σ n = none := by rw [c]; exact h
      have a1 : ¬ k < (n : Int) := by omega
      have a2 : k < ((n + 1 : Nat) : Int) := by omega
      rw [e1, e2, if_neg a1, if_pos a2]
      rfl
    · have e1 : upT σ k e n = σ n := if_neg c
      rw [e1]
      by_cases c2 : k < (n : Int)
      · have a2 : k < ((n + 1 : Nat) : Int) := by omega
        rw [if_pos c2, if_pos a2]
        omega
      · have a2 : ¬ k < ((n + 1 : Nat) : Int) := by omega
        rw [if_neg c2, if_neg a2]
        omega
def EXT (σ σ' : TS) : Prop := ∀ j e, σ j = some e → σ' j = some e
theorem EXT.rf (σ : TS) : EXT σ σ := fun _ _ h => h
theorem EXT.tr {a b c : TS} (h : EXT a b) (h' : EXT b c) : EXT a c := fun j e k => h' j e (h j e k)
theorem drv_cases (w : Int → Int) (m s : Int) (σ : TS) : (drvS w m s σ = σ ∧ (σ (eS w m s) ≠ none → σ (eS w m (1 - s)) ≠ none)) ∨ ∃ e, σ (eS w m s) = some e ∧ σ (eS w m (1 - s)) = none ∧ drvS w m s σ = upT σ (eS w m (1 - s)) (nxt w m s e) := by
  unfold drvS
  cases h1 : σ (eS w m s) with
  | none => exact Or.inl ⟨rfl, fun h => absurd rfl h⟩
  | some e =>
    cases h2 : σ (eS w m (1 - s)) with
    | none => exact Or.inr ⟨e, rfl, rfl, rfl⟩
    | some e' => exact Or.inl ⟨rfl, fun _ h => (nomatch h)⟩
theorem drv_ext (w : Int → Int) (m s : Int) (σ : TS) : EXT σ (drvS w m s σ) := fun j x hx => by
  rcases drv_cases w m s σ with ⟨h, -⟩ | ⟨e, -, h2, h⟩
  · rw [h]
    exact hx
  · rw [h]
    unfold upT
    rw [if_neg (fun c => by rw [c, h2] at hx; cases hx)]
    exact hx
theorem up_ne {σ : TS} {k : Int} {e : Int × Int × Int} (h : σ k = none) : upT σ k e ≠ σ := fun c => by
  have h1 : upT σ k e k = some e := if_pos rfl
  rw [c, h] at h1
  cases h1
/-- what holds of the shafts while the root r is gone through -/
def VAL (σ : TS) (r : Int) : Prop := ∀ j e, 0 ≤ j → j < 8 → σ j = some e → 0 ≤ e.1 ∧ e.1 ≤ r ∧ e.1 < 8 ∧ 0 < e.2.2 ∧ e.2.2.natAbs ≤ 99 ^ (cnT σ 8) ∧ e.2.1.natAbs ≤ 99 ^ (cnT σ 8) ∧ Nat.gcd e.2.1.natAbs e.2.2.natAbs = 1
def CLO (w : Int → Int) (M : Int) (σ : TS) (r : Int) : Prop := ∀ m s : Int, 0 ≤ m → m < M → (s = 0 ∨ s = 1) → ∀ e, σ (eS w m s) = some e → e.1 ≠ r → σ (eS w m (1 - s)) ≠ none
def REQ (w : Int → Int) (M : Int) (σ : TS) : Prop := ∀ m s : Int, 0 ≤ m → m < M → (s = 0 ∨ s = 1) → ∀ e e', σ (eS w m s) = some e → σ (eS w m (1 - s)) = some e' → e.1 = e'.1
def OKT (w : Int → Int) (M : Int) (σ : TS) (r : Int) : Prop := VAL σ r ∧ CLO w M σ r ∧ REQ w M σ
theorem nx_rng {w : Int → Int} {M m s : Int} (E : EV w M) (m0 : 0 ≤ m) (m1 : m < M) (hs : s = 0 ∨ s = 1) {e : Int × Int × Int} {B : Nat} (h1 : 0 < e.2.2) (h2 : e.2.2.natAbs ≤ B) (h3 : e.2.1.natAbs ≤ B) : 0 < nxQ w m s e.2.2 ∧ (nxQ w m s e.2.2).natAbs ≤ B * 99 ∧ (nxP w m s e.2.1).natAbs ≤ B * 99 ∧ 0 < (nxt w m s e).2.2 ∧ (nxt w m s e).2.2.natAbs ≤ B * 99 ∧ (nxt w m s e).2.1.natAbs ≤ B * 99 ∧ Nat.gcd (nxt w m s e).2.1.natAbs (nxt w m s e).2.2.natAbs = 1 := by
  obtain ⟨-, -, t0, t1⟩ := E m s m0 m1 hs
  obtain ⟨-, -, u0, u1⟩ := E m (1 - s) m0 m1 (by omega)
  have hQ : 0 < nxQ w m s e.2.2 := Int.mul_pos h1 (by omega)
  have bQ : (nxQ w m s e.2.2).natAbs ≤ B * 99 := by
    unfold nxQ
    rw [Int.natAbs_mul]
    exact Nat.mul_le_mul h2 (by omega)
  have bP : (nxP w m s e.2.1).natAbs ≤ B * 99 := by
    unfold nxP
    rw [Int.natAbs_mul, Int.natAbs_mul]
    have : (eG w m).natAbs = 1 := by
      rcases eG_rng w m with h | h <;> rw [h] <;> rfl
    rw [this, Nat.mul_one]
    exact Nat.mul_le_mul h3 (by omega)
  obtain ⟨g, P, Q, g0, eg, ep, eq, rp, rq, Q0, cop⟩ := nx_fac (p := nxP w m s e.2.1) hQ
  have e1 : (nxt w m s e).2.1 = P := by
    show nxP w m s e.2.1 / nxG w m s e = P
    unfold nxG
    rw [← eg, rp]
  have e2 : (nxt w m s e).2.2 = Q := by
    show nxQ w m s e.2.2 / nxG w m s e = Q
    unfold nxG
    rw [← eg, rq]
  have le : ∀ x y : Int, x = g * y → y.natAbs ≤ x.natAbs := fun x y h => by
    rw [h, Int.natAbs_mul]
    exact Nat.le_mul_of_pos_left _ (by omega)
  rw [e1, e2]
  exact ⟨hQ, bQ, bP, Q0, Nat.le_trans (le _ _ eq) bQ, Nat.le_trans (le _ _ ep) bP, cop⟩
theorem cn_drv {w : Int → Int} {M m s : Int} (E : EV w M) (m0 : 0 ≤ m) (m1 : m < M) (hs : s = 0 ∨ s = 1) {σ : TS} {e : Int × Int × Int} (h2 : σ (eS w m (1 - s)) = none) : cnT (upT σ (eS w m (1 - s)) e) 8 = cnT σ 8 + 1 := by
  obtain ⟨a0, a1, -⟩ := E m (1 - s) m0 m1 (by omega)
  rw [cnT_up h2 a0 8, if_pos (by omega)]
theorem drv_ok {w : Int → Int} {M m s r : Int} (E : EV w M) (m0 : 0 ≤ m) (m1 : m < M) (hs : s = 0 ∨ s = 1) {σ : TS} (O : OKT w M σ r) : OKT w M (drvS w m s σ) r := by
  rcases drv_cases w m s σ with ⟨h, -⟩ | ⟨e, h1, h2, h⟩
  · rw [h]
    exact O
  · obtain ⟨V, C, R⟩ := O
    rw [h]
    have er : e.1 = r := by
      by_cases c : e.1 = r
      · exact c
      · exact absurd h2 (C m s m0 m1 hs e h1 c)
    obtain ⟨a0, a1, -⟩ := E m s m0 m1 hs
    obtain ⟨b0, b1, -⟩ := E m (1 - s) m0 m1 (by omega)
    obtain ⟨v1, v2, v3, v4, v5, v6, v7⟩ := V _ e a0 a1 h1
    obtain ⟨-, -, -, n1, n2, n3, n4⟩ := nx_rng E m0 m1 hs v4 v5 v6
    have hc := cn_drv E m0 m1 hs (e := nxt w m s e) h2
    have hp : 99 ^ (cnT σ 8 + 1) = 99 ^ cnT σ 8 * 99 := Nat.pow_succ _ _
    generalize hk : eS w m (1 - s) = k at *
    have old : ∀ {j x}, upT σ k (nxt w m s e) j = some x → (j = k ∧ x = nxt w m s e) ∨ (j ≠ k ∧ σ j = some x) := fun {j x} hx => by
      unfold upT at hx
      by_cases c : j = k
      · rw [if_pos c] at hx
        exact Or.inl ⟨c, (Option.some.inj hx).symm⟩
      · rw [if_neg c] at hx
        exact Or.inr ⟨c, hx⟩
    have grow : ∀ {j}, σ j ≠ none → upT σ k (nxt w m s e) j ≠ none := fun {j} hj => by
      unfold upT
      split
      · exact fun h => (nomatch h)
      · exact hj
    refine ⟨fun j x j0 j1 hx => ?_, fun m' s' a b c x hx nr => ?_, fun m' s' a b c x y hx hy => ?_⟩
    · rw [hc, hp]
      rcases old hx with ⟨-, rfl⟩ | ⟨-, hx⟩
      · exact ⟨v1, v2, v3, n1, n2, n3, n4⟩
      · obtain ⟨u1, u2, u3, u4, u5, u6, u7⟩ := V j x j0 j1 hx
        exact ⟨u1, u2, u3, u4, by omega, by omega, u7⟩
    · rcases old hx with ⟨-, rfl⟩ | ⟨-, hx⟩
      · exact absurd er nr
      · exact grow (C m' s' a b c x hx nr)
    · have hr : 1 - (1 - s') = s' := by omega
      rcases old hx with ⟨kx, rfl⟩ | ⟨kx, hx⟩
      · rcases old hy with ⟨-, rfl⟩ | ⟨ky, hy⟩
        · rfl
        · by_cases cy : y.1 = r
          · exact er.trans cy.symm
          · have q := C m' (1 - s') a b (by omega) y hy cy
            rw [hr, kx] at q
            exact absurd h2 q
      · rcases old hy with ⟨ky, rfl⟩ | ⟨ky, hy⟩
        · by_cases cx : x.1 = r
          · exact cx.trans er.symm
          · have q := C m' s' a b c x hx cx
            rw [ky] at q
            exact absurd h2 q
        · exact R m' s' a b c x y hx hy
/-- entries of other roots stay as they were -/
def OLD (σ σ' : TS) (r : Int) : Prop := ∀ j e, σ' j = some e → e.1 ≠ r → σ j = some e
theorem drv_old {w : Int → Int} {M m s r : Int} (m0 : 0 ≤ m) (m1 : m < M) (hs : s = 0 ∨ s = 1) {σ : TS} (C : CLO w M σ r) : OLD σ (drvS w m s σ) r := fun j x hx nr => by
  rcases drv_cases w m s σ with ⟨h, -⟩ | ⟨e, h1, h2, h⟩
  · rw [h] at hx
    exact hx
  · rw [h] at hx
    unfold upT at hx
    by_cases c : j = eS w m (1 - s)
    · rw [if_pos c] at hx
      have hx := (Option.some.inj hx).symm
      rw [hx] at nr
      exact absurd h2 (C m s m0 m1 hs e h1 nr)
    · rw [if_neg c] at hx
      exact hx
/-- one pass over the first k meshes -/
def qsS (w : Int → Int) (σ : TS) : Nat → TS
  | 0 => σ
  | k + 1 => drvS w k 1 (drvS w k 0 (qsS w σ k))
def itS (w : Int → Int) (M : Nat) (σ : TS) : Nat → TS
  | 0 => σ
  | k + 1 => qsS w (itS w M σ k) M
theorem ps_ok {w : Int → Int} {M : Nat} {r : Int} (E : EV w M) {σ : TS} (O : OKT w M σ r) : ∀ k : Nat, k ≤ M → OKT w M (qsS w σ k) r
  | 0, _ => O
  | k + 1, h => drv_ok E (by omega) (by omega) (Or.inr rfl) (drv_ok E (by omega) (by omega) (Or.inl rfl) (ps_ok E O k (by omega)))
theorem it_ok {w : Int → Int} {M : Nat} {r : Int} (E : EV w M) {σ : TS} (O : OKT w M σ r) : ∀ k : Nat, OKT w M (itS w M σ k) r
  | 0 => O
  | k + 1 => ps_ok E (it_ok E O k) M (Nat.le_refl M)
theorem ps_ext {w : Int → Int} {σ : TS} : ∀ k : Nat, EXT σ (qsS w σ k)
  | 0 => EXT.rf σ
  | k + 1 => ((ps_ext k).tr (drv_ext _ _ _ _)).tr (drv_ext _ _ _ _)
theorem it_ext {w : Int → Int} {M : Nat} {σ : TS} : ∀ k : Nat, EXT σ (itS w M σ k)
  | 0 => EXT.rf σ
  | k + 1 => (it_ext k).tr (ps_ext M)
theorem OLD.tr {a b c : TS} {r : Int} (h : OLD a b r) (h' : OLD b c r) : OLD a c r := fun j e k n => h j e (h' j e k n) n
theorem ps_old {w : Int → Int} {M : Nat} {r : Int} (E : EV w M) {σ : TS} (O : OKT w M σ r) : ∀ k : Nat, k ≤ M → OLD σ (qsS w σ k) r
  | 0, _ => fun _ _ h _ => h
  | k + 1, h => by
    have h1 := ps_ok E O k (by omega)
    have h2 := drv_ok E (m := k) (by omega) (by omega) (Or.inl rfl) h1
    exact ((ps_old E O k (by omega)).tr (drv_old (by omega) (by omega) (Or.inl rfl) h1.2.1)).tr (drv_old (by omega) (by omega) (Or.inr rfl) h2.2.1)
theorem it_old {w : Int → Int} {M : Nat} {r : Int} (E : EV w M) {σ : TS} (O : OKT w M σ r) : ∀ k : Nat, OLD σ (itS w M σ k) r
  | 0 => fun _ _ h _ => h
  | k + 1 => (it_old E O k).tr (ps_old E (it_ok E O k) M (Nat.le_refl M))
theorem drv_cn {w : Int → Int} {M m s : Int} (E : EV w M) (m0 : 0 ≤ m) (m1 : m < M) (hs : s = 0 ∨ s = 1) (σ : TS) : (drvS w m s σ = σ ∧ (σ (eS w m s) ≠ none → σ (eS w m (1 - s)) ≠ none)) ∨ cnT (drvS w m s σ) 8 = cnT σ 8 + 1 := by
  rcases drv_cases w m s σ with h | ⟨e, h1, h2, h⟩
  · exact Or.inl h
  · refine Or.inr ?_
    rw [h]
    exact cn_drv E m0 m1 hs h2
/-- a pass changes nothing, or knows more; unchanged, all its edges are closed -/
theorem ps_cn {w : Int → Int} {M : Nat} (E : EV w M) (σ : TS) : ∀ k : Nat, k ≤ M → (qsS w σ k = σ ∧ ∀ m s : Int, 0 ≤ m → m < k → (s = 0 ∨ s = 1) → σ (eS w m s) ≠ none → σ (eS w m (1 - s)) ≠ none) ∨ cnT σ 8 + 1 ≤ cnT (qsS w σ k) 8
  | 0, _ => Or.inl ⟨rfl, fun m s a b => by omega⟩
  | k + 1, h => by
    have h1 := drv_cn E (m := k) (s := 0) (by omega) (by omega) (Or.inl rfl) (qsS w σ k)
    have h2 := drv_cn E (m := k) (s := 1) (by omega) (by omega) (Or.inr rfl) (drvS w k 0 (qsS w σ k))
    rcases ps_cn E σ k (by omega) with ⟨i1, i2⟩ | i
    · rw [i1] at h1 h2
      have ek : qsS w σ (k + 1) = drvS w k 1 (drvS w k 0 σ) := by
        show drvS w k 1 (drvS w k 0 (qsS w σ k)) = _
        rw [i1]
      rw [ek]
      rcases h1 with ⟨a1, a2⟩ | a
      · rw [a1] at h2 ⊢
        rcases h2 with ⟨b1, b2⟩ | b
        · refine Or.inl ⟨b1, fun m s m0 m1 hs => ?_⟩
          by_cases c : m = (k : Int)
          · rw [c]
            rcases hs with rfl | rfl
            · exact a2
            · exact b2
          · exact i2 m s m0 (by omega) hs
        · exact Or.inr (by omega)
      · rcases h2 with ⟨b1, -⟩ | b
        · rw [b1]
          exact Or.inr (by omega)
        · exact Or.inr (by omega)
    · refine Or.inr ?_
      show _ ≤ cnT (drvS w k 1 (drvS w k 0 (qsS w σ k))) 8
      rcases h1 with ⟨a1, -⟩ | a
      · rw [a1] at h2 ⊢
        rcases h2 with ⟨b1, -⟩ | b
        · rw [b1]
          exact i
        · omega
      · rcases h2 with ⟨b1, -⟩ | b
        · rw [b1]
          omega
        · omega
/-- fully closed -/
def FCL (w : Int → Int) (M : Int) (σ : TS) : Prop := ∀ m s : Int, 0 ≤ m → m < M → (s = 0 ∨ s = 1) → σ (eS w m s) ≠ none → σ (eS w m (1 - s)) ≠ none
theorem cn_all {σ : TS} : ∀ n : Nat, cnT σ n = n → ∀ j : Int, 0 ≤ j → j < n → σ j ≠ none
  | 0, _, j, j0, j1 => by omega
  | n + 1, h, j, j0, j1 => by
    have l := cnT_le σ n
    unfold cnT at h
    by_cases c : (σ n).isSome = true
    · rw [if_pos c] at h
      by_cases e : j = (n : Int)
      · rw [e]
        intro q
        rw [q] at c
        exact Bool.noConfusion c
      · exact cn_all n (by omega) j j0 (by omega)
    · rw [if_neg c] at h
      omega
theorem ps_fix {w : Int → Int} {M : Nat} (E : EV w M) {σ : TS} (h : FCL w M σ) : ∀ k : Nat, k ≤ M → qsS w σ k = σ
  | 0, _ => rfl
  | k + 1, hk => by
    have h1 : ∀ s : Int, (s = 0 ∨ s = 1) → drvS w k s σ = σ := fun s hs => by
      rcases drv_cases w k s σ with ⟨q, -⟩ | ⟨e, q1, q2, -⟩
      · exact q
      · exact absurd q2 (h k s (by omega) (by omega) hs (fun c => by rw [q1] at c; cases c))
    show drvS w k 1 (drvS w k 0 (qsS w σ k)) = σ
    rw [ps_fix E h k (by omega), h1 0 (Or.inl rfl), h1 1 (Or.inr rfl)]
theorem it_cn {w : Int → Int} {M : Nat} (E : EV w M) {σ : TS} (h0 : 1 ≤ cnT σ 8) : ∀ k : Nat, FCL w M (itS w M σ k) ∨ 1 + k ≤ cnT (itS w M σ k) 8
  | 0 => Or.inr h0
  | k + 1 => by
    rcases it_cn E h0 k with h | h
    · refine Or.inl ?_
      show FCL w M (qsS w (itS w M σ k) M)
      rw [ps_fix E h M (Nat.le_refl M)]
      exact h
    · rcases ps_cn E (itS w M σ k) M (Nat.le_refl M) with ⟨a, b⟩ | a
      · refine Or.inl ?_
        show FCL w M (qsS w (itS w M σ k) M)
        rw [a]
        exact b
      · refine Or.inr ?_
        show _ ≤ cnT (qsS w (itS w M σ k) M) 8
        omega
theorem it_fc {w : Int → Int} {M : Nat} (E : EV w M) {σ : TS} (h0 : 1 ≤ cnT σ 8) : FCL w M (itS w M σ 7) := by
  rcases it_cn E h0 7 with h | h
  · exact h
  · have l := cnT_le (itS w M σ 7) 8
    intro m s m0 m1 hs _
    obtain ⟨b0, b1, -⟩ := E m (1 - s) m0 m1 (by omega)
    exact cn_all 8 (by omega) _ b0 (by omega)
theorem it_more {w : Int → Int} {M : Nat} (E : EV w M) {σ : TS} {k : Nat} (h : FCL w M (itS w M σ k)) : ∀ i : Nat, itS w M σ (k + i) = itS w M σ k
  | 0 => rfl
  | i + 1 => by
    show qsS w (itS w M σ (k + i)) M = _
    rw [it_more E h i, ps_fix E h M (Nat.le_refl M)]
theorem it_7 {w : Int → Int} {M : Nat} (E : EV w M) {σ : TS} (h0 : 1 ≤ cnT σ 8) {k : Nat} (h : FCL w M (itS w M σ k)) : itS w M σ k = itS w M σ 7 := by
  by_cases c : k ≤ 7
  · have q := it_more E h (7 - k)
    rw [show k + (7 - k) = 7 by omega] at q
    exact q.symm
  · have q := it_more E (it_fc E h0) (k - 7)
    rw [show 7 + (k - 7) = k by omega] at q
    exact q
/-- all shafts below k gone through -/
def slS (w : Int → Int) (M : Nat) : Nat → TS
  | 0 => fun _ => none
  | k + 1 => if slS w M k k = none then itS w M (upT (slS w M k) k (k, 1, 1)) 7 else slS w M k
def OKS (w : Int → Int) (M : Int) (σ : TS) (k : Int) : Prop := VAL σ (k - 1) ∧ FCL w M σ ∧ REQ w M σ
theorem start_ok {w : Int → Int} {M : Nat} {k : Int} {σ : TS} (k0 : 0 ≤ k) (k1 : k < 8) (O : OKS w M σ k) (h : σ k = none) : OKT w M (upT σ k (k, 1, 1)) k ∧ 1 ≤ cnT (upT σ k (k, 1, 1)) 8 := by
  obtain ⟨V, F, R⟩ := O
  have hc : cnT (upT σ k (k, 1, 1)) 8 = cnT σ 8 + 1 := by rw [cnT_up h k0 8, if_pos (by omega)]
  have hp : 99 ^ (cnT σ 8 + 1) = 99 ^ cnT σ 8 * 99 := Nat.pow_succ _ _
  have hp0 : 0 < 99 ^ cnT σ 8 := Nat.pow_pos (by decide)
  have old : ∀ {j x}, upT σ k (k, 1, 1) j = some x → (j = k ∧ x = (k, 1, 1)) ∨ (j ≠ k ∧ σ j = some x) := fun {j x} hx => by
    unfold upT at hx
    by_cases c : j = k
    · rw [if_pos c] at hx
      exact Or.inl ⟨c, (Option.some.inj hx).symm⟩
    · rw [if_neg c] at hx
      exact Or.inr ⟨c, hx⟩
  refine ⟨⟨fun j x j0 j1 hx => ?_, fun m' s' a b c x hx nr => ?_, fun m' s' a b c x y hx hy => ?_⟩, by omega⟩
  · rw [hc, hp]
    rcases old hx with ⟨-, rfl⟩ | ⟨-, hx⟩
    · exact ⟨k0, Int.le_refl k, k1, by show (0 : Int) < 1; decide, by show (1 : Int).natAbs ≤ _; omega, by show (1 : Int).natAbs ≤ _; omega, show Nat.gcd 1 1 = 1 from Nat.gcd_self 1⟩
    · obtain ⟨u1, u2, u3, u4, u5, u6, u7⟩ := V j x j0 j1 hx
      exact ⟨u1, by omega, u3, u4, by omega, by omega, u7⟩
  · rcases old hx with ⟨-, rfl⟩ | ⟨-, hx⟩
    · exact absurd rfl nr
    · have q := F m' s' a b c (fun e => by rw [hx] at e; cases e)
      unfold upT
      split
      · exact fun h => (nomatch h)
      · exact q
  · have hr : 1 - (1 - s') = s' := by omega
    rcases old hx with ⟨kx, rfl⟩ | ⟨kx, hx⟩
    · rcases old hy with ⟨-, rfl⟩ | ⟨ky, hy⟩
      · rfl
      · have q := F m' (1 - s') a b (by omega) (fun e => by rw [hy] at e; cases e)
        rw [hr, kx] at q
        exact absurd h q
    · rcases old hy with ⟨ky, rfl⟩ | ⟨ky, hy⟩
      · have q := F m' s' a b c (fun e => by rw [hx] at e; cases e)
        rw [ky] at q
        exact absurd h q
      · exact R m' s' a b c x y hx hy
theorem VAL_mono {σ : TS} {r r' : Int} (h : r ≤ r') (V : VAL σ r) : VAL σ r' := fun j e j0 j1 he => by
  obtain ⟨u1, u2, u3⟩ := V j e j0 j1 he
  exact ⟨u1, by omega, u3⟩
theorem sl_ok {w : Int → Int} {M : Nat} (E : EV w M) : ∀ k : Nat, k ≤ 8 → OKS w M (slS w M k) k
  | 0, _ => ⟨fun j e _ _ h => (by cases h), fun m s _ _ _ h => absurd rfl h, fun m s _ _ _ e e' h => (by cases h)⟩
  | k + 1, hk => by
    have O := sl_ok E k (by omega)
    unfold slS
    by_cases c : slS w M k k = none
    · rw [if_pos c]
      obtain ⟨O1, c1⟩ := start_ok (by omega) (by omega) O c
      have O2 := it_ok E O1 7
      exact ⟨VAL_mono (by omega) O2.1, it_fc E c1, O2.2.2⟩
    · rw [if_neg c]
      exact ⟨VAL_mono (by omega) O.1, O.2.1, O.2.2⟩
theorem sl_known {w : Int → Int} {M : Nat} : ∀ k : Nat, ∀ j : Int, 0 ≤ j → j < k → slS w M k j ≠ none
  | 0, j, j0, j1 => by omega
  | k + 1, j, j0, j1 => by
    unfold slS
    by_cases c : slS w M k k = none
    · rw [if_pos c]
      have X : EXT (upT (slS w M k) k (k, 1, 1)) (itS w M (upT (slS w M k) k (k, 1, 1)) 7) := it_ext 7
      by_cases e : j = (k : Int)
      · rw [X j (k, 1, 1) (if_pos e)]
        exact fun h => (nomatch h)
      · have q := sl_known (w := w) (M := M) k j j0 (by omega)
        cases hq : slS w M k j with
        | none => exact absurd hq q
        | some x =>
          rw [X j x (by unfold upT; rw [if_neg e]; exact hq)]
          exact fun h => (nomatch h)
    · rw [if_neg c]
      by_cases e : j = (k : Int)
      · rw [e]
        exact c
      · exact sl_known k j j0 (by omega)
/-- whether the mesh m, from side s, doesn't fit -/
def misD (w : Int → Int) (σ : TS) (m s : Int) : Bool := match σ (eS w m s), σ (eS w m (1 - s)) with
  | some e, some e' => !(decide (e'.2.1 = (nxt w m s e).2.1 ∧ e'.2.2 = (nxt w m s e).2.2))
  | _, _ => false
def rtS (σ : TS) (j : Int) : Int := match σ j with
  | some e => e.1
  | none => -1
theorem mis_k {w : Int → Int} {σ : TS} {m s : Int} (h : misD w σ m s = true) : ∃ e e', σ (eS w m s) = some e ∧ σ (eS w m (1 - s)) = some e' := by
  unfold misD at h
  cases h1 : σ (eS w m s) with
  | none =>
    rw [h1] at h
    exact Bool.noConfusion (show false = true from h)
  | some e =>
    cases h2 : σ (eS w m (1 - s)) with
    | none =>
      rw [h1, h2] at h
      exact Bool.noConfusion (show false = true from h)
    | some e' => exact ⟨e, e', rfl, rfl⟩
theorem mis_ext {w : Int → Int} {σ σ' : TS} {m s : Int} (X : EXT σ σ') (h : misD w σ m s = true) : misD w σ' m s = true := by
  obtain ⟨e, e', h1, h2⟩ := mis_k h
  unfold misD at h ⊢
  rw [h1, h2] at h
  rw [X _ _ h1, X _ _ h2]
  exact h
theorem mis_sym {w : Int → Int} {M : Nat} {σ : TS} {m r : Int} (E : EV w M) (m0 : 0 ≤ m) (m1 : m < M) (V : VAL σ r) : misD w σ m 0 = misD w σ m 1 := by
  obtain ⟨a0, a1, t0, t1⟩ := E m 0 m0 m1 (Or.inl rfl)
  obtain ⟨b0, b1, u0, u1⟩ := E m 1 m0 m1 (Or.inr rfl)
  unfold misD
  rw [show (1 : Int) - 0 = 1 from rfl, show (1 : Int) - 1 = 0 from rfl]
  cases h1 : σ (eS w m 0) with
  | none =>
    cases h2 : σ (eS w m 1) with
    | none => rfl
    | some e' => rfl
  | some e =>
    cases h2 : σ (eS w m 1) with
    | none => rfl
    | some e' =>
      obtain ⟨-, -, -, v4, v5, v6, v7⟩ := V _ e a0 a1 h1
      obtain ⟨-, -, -, w4, w5, w6, w7⟩ := V _ e' b0 b1 h2
      obtain ⟨q1, -⟩ := nx_rng E m0 m1 (Or.inl rfl) v4 v5 v6
      obtain ⟨q2, -⟩ := nx_rng E m0 m1 (Or.inr rfl) w4 w5 w6
      have r1 : (e'.2.1 = (nxt w m 0 e).2.1 ∧ e'.2.2 = (nxt w m 0 e).2.2) ↔ e'.2.1 * nxQ w m 0 e.2.2 = nxP w m 0 e.2.1 * e'.2.2 := red_iff w4 q1 w7
      have r2 : (e.2.1 = (nxt w m 1 e').2.1 ∧ e.2.2 = (nxt w m 1 e').2.2) ↔ e.2.1 * nxQ w m 1 e'.2.2 = nxP w m 1 e'.2.1 * e.2.2 := red_iff v4 q2 v7
      have r3 : e'.2.1 * nxQ w m 0 e.2.2 = nxP w m 0 e.2.1 * e'.2.2 ↔ e.2.1 * nxQ w m 1 e'.2.2 = nxP w m 1 e'.2.1 * e.2.2 := by
        unfold nxP nxQ
        rw [show (1 : Int) - 0 = 1 from rfl, show (1 : Int) - 1 = 0 from rfl]
        generalize eT w m 0 = A
        generalize eT w m 1 = C
        generalize e.2.1 = x
        generalize e.2.2 = y
        generalize e'.2.1 = z
        generalize e'.2.2 = u
        have k1 : z * (y * C) = z * C * y := by rw [Int.mul_comm y C, Int.mul_assoc]
        have k2 : x * (u * A) = x * A * u := by rw [Int.mul_comm u A, Int.mul_assoc]
        rcases eG_rng w m with h | h
        · rw [h, Int.mul_one, Int.mul_one, k1, k2]
          exact ⟨fun h => h.symm, fun h => h.symm⟩
        · rw [h, k1, k2, Int.mul_neg_one, Int.mul_neg_one, Int.neg_mul, Int.neg_mul]
          omega
      show (!(decide _)) = (!(decide _))
      congr 1
      exact decide_eq_decide.mpr (r1.trans (r3.trans r2.symm))
