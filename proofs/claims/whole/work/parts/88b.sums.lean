/-! counts of faults that fit -/
def smN (f : Nat → Nat) : Nat → Nat
  | 0 => 0
  | n + 1 => smN f n + f n
theorem sm_cong {f g : Nat → Nat} : ∀ n : Nat, (∀ p, p < n → f p = g p) → smN f n = smN g n
  | 0, _ => rfl
  | n + 1, h => by
    unfold smN
    rw [sm_cong n (fun p hp => h p (by omega)), h n (by omega)]
theorem sm_zero {f : Nat → Nat} : ∀ n : Nat, (∀ p, p < n → f p = 0) → smN f n = 0
  | 0, _ => rfl
  | n + 1, h => by
    unfold smN
    rw [sm_zero n (fun p hp => h p (by omega)), h n (by omega)]
theorem sm_split {f : Nat → Nat} {e : Nat} : ∀ n : Nat, e < n → smN f n = f e + smN (fun p => if p = e then 0 else f p) n
  | 0, h => by omega
  | n + 1, h => by
    unfold smN
    by_cases c : e = n
    · subst c
      rw [if_pos rfl, Nat.add_zero, Nat.add_comm]
      congr 1
      exact sm_cong e (fun p hp => (if_neg (by omega)).symm)
    · rw [sm_split (e := e) n (by omega), if_neg (show ¬ n = e by omega), Nat.add_assoc]
theorem sm_one {f : Nat → Nat} {e n : Nat} (he : e < n) (h : ∀ p, p < n → p ≠ e → f p = 0) : smN f n = f e := by
  rw [sm_split n he, sm_zero n (fun p hp => ?_), Nat.add_zero]
  by_cases c : p = e
  · exact if_pos c
  · rw [if_neg c, h p hp c]
theorem sm_mul {f : Nat → Nat} (c : Nat) : ∀ n : Nat, smN (fun p => f p * c) n = smN f n * c
  | 0 => by simp [smN]
  | n + 1 => by
    unfold smN
    rw [sm_mul c n, Nat.add_mul]
theorem sm_le {f : Nat → Nat} {b : Nat} : ∀ n : Nat, (∀ p, p < n → f p ≤ b) → smN f n ≤ n * b
  | 0, _ => Nat.zero_le _
  | n + 1, h => by
    have h1 := sm_le (f := f) n (fun p hp => h p (by omega))
    have h2 := h n (by omega)
    unfold smN
    rw [Nat.succ_mul]
    omega
/-- a sound at no other tick than those of H -/
def inB (H x : Int64) : Bool := decide (x &&& (H ^^^ K (-1)) = K 0)
theorem in_iff {H x : Int64} : inB H x = true ↔ ∀ t, t < 64 → tb x t = true → tb H t = true := by
  unfold inB
  rw [decide_eq_true_iff]
  constructor
  · intro h t ht hx
    have := congrArg (fun z => tb z t) h
    simp only [tb_and, tb_not H ht, tb_K0, hx] at this
    cases q : tb H t
    · rw [q] at this
      exact Bool.noConfusion this
    · rfl
  · intro h
    refine tb_ext (fun t ht => ?_)
    rw [tb_and, tb_not H ht, tb_K0]
    cases q : tb x t
    · rfl
    · rw [h t ht q]
      rfl
theorem or_eq_in {H x y : Int64} (h : x ||| y = H) : inB H x = true := in_iff.mpr (fun t _ hx => by rw [← h, tb_or, hx]; rfl)
theorem or_comm64 (x y : Int64) : x ||| y = y ||| x := tb_ext (fun t _ => by rw [tb_or, tb_or, Bool.or_comm])
theorem in_self (H : Int64) : inB H H = true := in_iff.mpr (fun _ _ h => h)
/-- what is heard: ticks below N -/
def HRD (N : Nat) (H : Int64) : Prop := ∀ t, t < 64 → tb H t = true → t < N
section
variable {N : Nat} {te : Nat → Nat} {H : Int64}
abbrev Xs (N : Nat) (te : Nat → Nat) (g p : Nat) : Int64 := sdL N (te g) p
def fit1 (N : Nat) (te : Nat → Nat) (H : Int64) (g p : Nat) : Nat := if Xs N te g p = H then 1 else 0
def fit2 (N : Nat) (te : Nat → Nat) (H : Int64) (g h p q : Nat) : Nat := if Xs N te g p ||| Xs N te h q = H then 1 else 0
def fitI (N : Nat) (te : Nat → Nat) (H : Int64) (g p : Nat) : Nat := if inB H (Xs N te g p) = true then 1 else 0
def c1S (N : Nat) (te : Nat → Nat) (H : Int64) (g : Nat) : Nat := smN (fit1 N te H g) (te g)
def c2S (N : Nat) (te : Nat → Nat) (H : Int64) (g h : Nat) : Nat := smN (fun p => smN (fit2 N te H g h p) (te h)) (te g)
def cIS (N : Nat) (te : Nat → Nat) (H : Int64) (g : Nat) : Nat := smN (fitI N te H g) (te g)
theorem f1_le (g p : Nat) : fit1 N te H g p ≤ 1 := by unfold fit1; split <;> omega
theorem f2_le (g h p q : Nat) : fit2 N te H g h p q ≤ 1 := by unfold fit2; split <;> omega
theorem c1_le (g : Nat) : c1S N te H g ≤ te g := by
  have := sm_le (f := fit1 N te H g) (b := 1) (te g) (fun p _ => f1_le g p)
  unfold c1S
  omega
theorem c2_le (g h : Nat) : c2S N te H g h ≤ te g * te h := sm_le (te g) (fun p _ => by
  have := sm_le (f := fit2 N te H g h p) (b := 1) (te h) (fun q _ => f2_le g h p q)
  omega)
/-! nothing heard -/
theorem in_0 {x : Int64} : inB (K 0) x = true ↔ x = K 0 := by
  rw [in_iff]
  constructor
  · intro h
    refine tb_ext (fun t ht => ?_)
    rw [tb_K0]
    cases q : tb x t
    · rfl
    · have := h t ht q
      rw [tb_K0] at this
      exact this.symm
  · intro h t _ hx
    rw [← h]
    exact hx
theorem or_0 {x y : Int64} : x ||| y = K 0 ↔ x = K 0 ∧ y = K 0 := by
  constructor
  · intro h
    exact ⟨in_0.mp (or_eq_in h), in_0.mp (or_eq_in (by rw [or_comm64]; exact h))⟩
  · rintro ⟨rfl, rfl⟩
    exact tb_ext (fun t _ => by rw [tb_or, tb_K0]; rfl)
theorem c1_nil (g : Nat) : c1S N te (K 0) g = cIS N te (K 0) g := sm_cong _ (fun p _ => by
  unfold fit1 fitI
  by_cases c : Xs N te g p = K 0
  · rw [if_pos c, if_pos (in_0.mpr c)]
  · rw [if_neg c, if_neg (fun h => c (in_0.mp h))])
theorem c2_nil (g h : Nat) : c2S N te (K 0) g h = cIS N te (K 0) g * cIS N te (K 0) h := by
  unfold c2S
  rw [sm_cong (g := fun p => fitI N te (K 0) g p * cIS N te (K 0) h) (te g) (fun p _ => ?_)]
  · exact sm_mul _ _
  · unfold cIS
    rw [Nat.mul_comm, ← sm_mul]
    refine sm_cong _ (fun q _ => ?_)
    unfold fit2 fitI
    by_cases c : Xs N te g p = K 0
    · by_cases c2 : Xs N te h q = K 0
      · rw [if_pos (or_0.mpr ⟨c, c2⟩), if_pos (in_0.mpr c2), if_pos (in_0.mpr c)]
      · rw [if_neg (fun e => c2 (or_0.mp e).2), if_neg (fun e => c2 (in_0.mp e)), Nat.zero_mul]
    · rw [if_neg (fun e => c (or_0.mp e).1), if_neg (fun e => c (in_0.mp e)), Nat.mul_zero]
/-! something heard, first at the tick f -/
theorem X_bit (hN : N ≤ 60) {g p t : Nat} : tb (Xs N te g p) t = true ↔ t < N ∧ t % te g = p := by
  unfold Xs
  rw [tb_sdL hN, decide_eq_true_iff]
theorem c1_some (hN : N ≤ 60) {f : Nat} (hf : tb H f = true) {g : Nat} (hg : 1 ≤ te g) : c1S N te H g = if Xs N te g (f % te g) = H then 1 else 0 := by
  unfold c1S
  rw [sm_one (e := f % te g) (Nat.mod_lt _ hg) (fun p _ hp => ?_)]
  · rfl
  · refine if_neg (fun e => hp ?_)
    rw [← e] at hf
    exact ((X_bit hN).mp hf).2.symm
/-- faults of h that fit beside the earliest of g, and aren't the earliest themselves -/
def nbS (N : Nat) (te : Nat → Nat) (H : Int64) (f g h : Nat) : Nat := smN (fun q => if q = f % te h then 0 else fit2 N te H g h (f % te g) q) (te h)
theorem c2_some (hN : N ≤ 60) {f : Nat} (hf : tb H f = true) {g h : Nat} (hg : 1 ≤ te g) (hh : 1 ≤ te h) : c2S N te H g h = fit2 N te H g h (f % te g) (f % te h) + nbS N te H f g h + nbS N te H f h g := by
  have lg : f % te g < te g := Nat.mod_lt _ hg
  have lh : f % te h < te h := Nat.mod_lt _ hh
  unfold c2S
  rw [sm_split (te g) lg, sm_split (te h) lh]
  unfold nbS
  congr 1
  refine sm_cong _ (fun p hp => ?_)
  by_cases c : p = f % te g
  · rw [if_pos c, if_pos c]
  · rw [if_neg c, if_neg c, sm_one lh (fun q _ hq => ?_)]
    · unfold fit2
      rw [or_comm64]
    · refine if_neg (fun e => ?_)
      rw [← e, tb_or, Bool.or_eq_true] at hf
      rcases hf with hf | hf
      · exact c ((X_bit hN).mp hf).2.symm
      · exact hq ((X_bit hN).mp hf).2.symm
theorem nb_out {f g h : Nat} (hi : inB H (Xs N te g (f % te g)) = false) : nbS N te H f g h = 0 := sm_zero _ (fun q _ => by
  by_cases c : q = f % te h
  · exact if_pos c
  · rw [if_neg c]
    refine if_neg (fun e => ?_)
    rw [or_eq_in e] at hi
    exact Bool.noConfusion hi)
theorem rest_0 {x : Int64} (hi : inB H x = true) : H &&& (x ^^^ K (-1)) = K 0 ↔ x = H := by
  constructor
  · intro e
    refine tb_ext (fun t ht => ?_)
    have := congrArg (fun z => tb z t) e
    simp only [tb_and, tb_not x ht, tb_K0] at this
    cases q : tb x t
    · rw [q] at this
      cases q2 : tb H t
      · rfl
      · rw [q2] at this
        exact Bool.noConfusion this
    · exact (in_iff.mp hi t ht q).symm
  · rintro rfl
    refine tb_ext (fun t ht => ?_)
    rw [tb_and, tb_not x ht, tb_K0]
    cases tb x t <;> rfl
theorem nb_all {f g h : Nat} (hh : 1 ≤ te h) (e : Xs N te g (f % te g) = H) : nbS N te H f g h + fitI N te H h (f % te h) = cIS N te H h := by
  unfold nbS cIS
  rw [sm_split (f := fitI N te H h) (e := f % te h) (te h) (Nat.mod_lt _ hh), Nat.add_comm]
  congr 1
  refine sm_cong _ (fun q _ => ?_)
  by_cases c : q = f % te h
  · rw [if_pos c, if_pos c]
  · rw [if_neg c, if_neg c]
    unfold fit2 fitI
    rw [e]
    by_cases c2 : inB H (Xs N te h q) = true
    · rw [if_pos c2, if_pos]
      refine tb_ext (fun t ht => ?_)
      rw [tb_or]
      cases q1 : tb H t
      · cases q2 : tb (Xs N te h q) t
        · rfl
        · rw [in_iff.mp c2 t ht q2] at q1
          exact Bool.noConfusion q1
      · rfl
    · rw [if_neg c2, if_neg]
      intro q
      rw [or_comm64] at q
      exact c2 (or_eq_in q)
theorem nb_rest (hN : N ≤ 60) {f g h r : Nat} (hh : 1 ≤ te h) (r1 : tb H r = true) (r2 : tb (Xs N te g (f % te g)) r = false) (r3 : r < N) : nbS N te H f g h = if Xs N te h (r % te h) = Xs N te h (f % te h) then 0 else if Xs N te h (r % te h) ||| Xs N te g (f % te g) = H then 1 else 0 := by
  unfold nbS
  rw [sm_one (e := r % te h) (Nat.mod_lt _ hh) (fun q _ hq => ?_)]
  · by_cases c : r % te h = f % te h
    · rw [if_pos c, if_pos (by rw [c])]
    · rw [if_neg c, if_neg]
      · unfold fit2
        rw [or_comm64]
      · intro e
        have b : tb (Xs N te h (r % te h)) r = true := (X_bit hN).mpr ⟨r3, rfl⟩
        rw [e] at b
        exact c ((X_bit hN).mp b).2
  · by_cases c : q = f % te h
    · exact if_pos c
    · rw [if_neg c]
      refine if_neg (fun e => ?_)
      rw [← e, tb_or, r2, Bool.false_or] at r1
      exact hq ((X_bit hN).mp r1).2.symm
/-! the reference's list of faults, told gear by gear -/
def wtS (k g h : Nat) : Nat := if k = 0 then 1 else if g + 1 = k ∨ h + 1 = k then 1 else 0
def oneW (N : Nat) (te : Nat → Nat) (H : Int64) (k : Nat) (x : Nat × Nat) : Nat := if Xs N te x.1 x.2 = H then wtS k x.1 x.1 else 0
def twoW (N : Nat) (te : Nat → Nat) (H : Int64) (k : Nat) (x y : Nat × Nat) : Nat := if x.1 ≠ y.1 ∧ Xs N te x.1 x.2 ||| Xs N te y.1 y.2 = H then wtS k x.1 y.1 else 0
def inW (N : Nat) (te : Nat → Nat) (H : Int64) (k : Nat) (x : Nat × Nat) : List (Nat × Nat) → Nat
  | [] => 0
  | y :: l => twoW N te H k x y + inW N te H k x l
def ouW (N : Nat) (te : Nat → Nat) (H : Int64) (k : Nat) : List (Nat × Nat) → Nat
  | [] => 0
  | x :: l => oneW N te H k x + inW N te H k x l + ouW N te H k l
def crW (N : Nat) (te : Nat → Nat) (H : Int64) (k : Nat) (l : List (Nat × Nat)) : List (Nat × Nat) → Nat
  | [] => 0
  | x :: a => inW N te H k x l + crW N te H k l a
/-- the faults of the gear g, phases below n, that are inside -/
def flG (N : Nat) (te : Nat → Nat) (H : Int64) (g : Nat) : Nat → List (Nat × Nat)
  | 0 => []
  | n + 1 => if inB H (Xs N te g n) = true then flG N te H g n ++ [(g, n)] else flG N te H g n
def flA (N : Nat) (te : Nat → Nat) (H : Int64) : Nat → List (Nat × Nat)
  | 0 => []
  | g + 1 => flA N te H g ++ flG N te H g (te g)
def flF (N : Nat) (te : Nat → Nat) (H : Int64) : Nat → Nat → List (Nat × Nat)
  | 0, _ => []
  | r + 1, i => flG N te H i (te i) ++ flF N te H r (i + 1)
theorem flF_end : ∀ r i : Nat, flF N te H (r + 1) i = flF N te H r i ++ flG N te H (i + r) (te (i + r))
  | 0, i => by
    show flG N te H i (te i) ++ [] = [] ++ flG N te H (i + 0) (te (i + 0))
    rw [List.append_nil, List.nil_append, Nat.add_zero]
  | r + 1, i => by
    have ih := flF_end r (i + 1)
    show flG N te H i (te i) ++ flF N te H (r + 1) (i + 1) = flG N te H i (te i) ++ flF N te H r (i + 1) ++ _
    rw [ih, List.append_assoc, show i + 1 + r = i + (r + 1) by omega]
theorem flA_F : ∀ G : Nat, flA N te H G = flF N te H G 0
  | 0 => rfl
  | G + 1 => by
    show flA N te H G ++ _ = _
    rw [flF_end, flA_F G, Nat.zero_add]
theorem inW_app (k : Nat) (x : Nat × Nat) : ∀ a b : List (Nat × Nat), inW N te H k x (a ++ b) = inW N te H k x a + inW N te H k x b
  | [], b => by
    show inW N te H k x b = 0 + _
    rw [Nat.zero_add]
  | y :: a, b => by
    show twoW N te H k x y + inW N te H k x (a ++ b) = twoW N te H k x y + inW N te H k x a + _
    rw [inW_app k x a b, Nat.add_assoc]
theorem ouW_app (k : Nat) : ∀ a b : List (Nat × Nat), ouW N te H k (a ++ b) = ouW N te H k a + crW N te H k b a + ouW N te H k b
  | [], b => by
    show ouW N te H k b = 0 + 0 + _
    omega
  | x :: a, b => by
    show oneW N te H k x + inW N te H k x (a ++ b) + ouW N te H k (a ++ b) = oneW N te H k x + inW N te H k x a + ouW N te H k a + (inW N te H k x b + crW N te H k b a) + _
    rw [inW_app, ouW_app k a b]
    omega
theorem crW_appL (k : Nat) (l : List (Nat × Nat)) : ∀ a b : List (Nat × Nat), crW N te H k l (a ++ b) = crW N te H k l a + crW N te H k l b
  | [], b => by
    show crW N te H k l b = 0 + _
    rw [Nat.zero_add]
  | x :: a, b => by
    show inW N te H k x l + crW N te H k l (a ++ b) = inW N te H k x l + crW N te H k l a + _
    rw [crW_appL k l a b, Nat.add_assoc]
theorem crW_appR (k : Nat) (l l' : List (Nat × Nat)) : ∀ a : List (Nat × Nat), crW N te H k (l ++ l') a = crW N te H k l a + crW N te H k l' a
  | [] => rfl
  | x :: a => by
    show inW N te H k x (l ++ l') + crW N te H k (l ++ l') a = inW N te H k x l + crW N te H k l a + (inW N te H k x l' + crW N te H k l' a)
    rw [inW_app, crW_appR k l l' a]
    omega
theorem inW_same (k g p : Nat) : ∀ n : Nat, inW N te H k (g, p) (flG N te H g n) = 0
  | 0 => rfl
  | n + 1 => by
    unfold flG
    split
    · rw [inW_app, inW_same k g p n]
      show 0 + (twoW N te H k (g, p) (g, n) + 0) = 0
      have : twoW N te H k (g, p) (g, n) = 0 := if_neg (fun h => h.1 rfl)
      omega
    · exact inW_same k g p n
theorem inW_other (k g h p : Nat) (ne : g ≠ h) : ∀ n : Nat, inW N te H k (g, p) (flG N te H h n) = smN (fit2 N te H g h p) n * wtS k g h
  | 0 => by
    show 0 = 0 * _
    rw [Nat.zero_mul]
  | n + 1 => by
    have ih := inW_other k g h p ne n
    unfold flG
    show _ = (smN (fit2 N te H g h p) n + fit2 N te H g h p n) * wtS k g h
    rw [Nat.add_mul, ← ih]
    by_cases c : inB H (Xs N te h n) = true
    · rw [if_pos c, inW_app]
      congr 1
      show twoW N te H k (g, p) (h, n) + 0 = _
      unfold twoW fit2
      by_cases c2 : Xs N te g p ||| Xs N te h n = H
      · rw [if_pos ⟨ne, c2⟩, if_pos c2, Nat.one_mul, Nat.add_zero]
      · rw [if_neg (fun h => c2 h.2), if_neg c2, Nat.zero_mul]
    · rw [if_neg c]
      unfold fit2
      rw [if_neg (fun e => by
        rw [or_comm64] at e
        exact c (or_eq_in e)), Nat.zero_mul, Nat.add_zero]
theorem ouW_same (k g : Nat) : ∀ n : Nat, ouW N te H k (flG N te H g n) = smN (fit1 N te H g) n * wtS k g g
  | 0 => by
    show 0 = 0 * _
    rw [Nat.zero_mul]
  | n + 1 => by
    have ih := ouW_same k g n
    have cr0 : ∀ m : Nat, crW N te H k [(g, n)] (flG N te H g m) = 0 := by
      intro m
      induction m with
      | zero => rfl
      | succ m ih =>
        unfold flG
        split
        · rw [crW_appL, ih]
          show 0 + (inW N te H k (g, m) [(g, n)] + 0) = 0
          have : inW N te H k (g, m) [(g, n)] = 0 := by
            show twoW N te H k (g, m) (g, n) + 0 = 0
            have : twoW N te H k (g, m) (g, n) = 0 := if_neg (fun h => h.1 rfl)
            omega
          omega
        · exact ih
    unfold flG
    show _ = (smN (fit1 N te H g) n + fit1 N te H g n) * wtS k g g
    rw [Nat.add_mul, ← ih]
    by_cases c : inB H (Xs N te g n) = true
    · rw [if_pos c, ouW_app, cr0 n, Nat.add_zero]
      congr 1
      show oneW N te H k (g, n) + 0 + 0 = _
      unfold oneW fit1
      by_cases c2 : Xs N te g n = H
      · rw [if_pos c2, if_pos c2, Nat.one_mul]
        rfl
      · rw [if_neg c2, if_neg c2, Nat.zero_mul]
    · rw [if_neg c]
      unfold fit1
      rw [if_neg (fun e => c (by rw [e]; exact in_self H)), Nat.zero_mul, Nat.add_zero]
theorem crW_gears (k g h : Nat) (ne : g ≠ h) : ∀ n : Nat, crW N te H k (flG N te H h (te h)) (flG N te H g n) = smN (fun p => smN (fit2 N te H g h p) (te h)) n * wtS k g h
  | 0 => by
    show 0 = 0 * _
    rw [Nat.zero_mul]
  | n + 1 => by
    have ih := crW_gears k g h ne n
    show crW N te H k (flG N te H h (te h)) (if inB H (Xs N te g n) = true then flG N te H g n ++ [(g, n)] else flG N te H g n) = (smN (fun p => smN (fit2 N te H g h p) (te h)) n + smN (fit2 N te H g h n) (te h)) * wtS k g h
    rw [Nat.add_mul, ← ih]
    by_cases c : inB H (Xs N te g n) = true
    · rw [if_pos c, crW_appL]
      congr 1
      show inW N te H k (g, n) (flG N te H h (te h)) + 0 = _
      rw [inW_other k g h n ne, Nat.add_zero]
    · have z : smN (fit2 N te H g h n) (te h) = 0 := sm_zero (te h) (fun q _ => if_neg (fun e => c (or_eq_in e)))
      rw [if_neg c, z, Nat.zero_mul, Nat.add_zero]
/-- the class's sums, from the gear i on: pairs, all -/
def psW (N : Nat) (te : Nat → Nat) (H : Int64) (k i : Nat) : Nat → Nat → Nat
  | 0, _ => 0
  | r + 1, j => c2S N te H i j * wtS k i j + psW N te H k i r (j + 1)
def tsW (N : Nat) (te : Nat → Nat) (H : Int64) (k : Nat) : Nat → Nat → Nat
  | 0, _ => 0
  | r + 1, i => c1S N te H i * wtS k i i + psW N te H k i r (i + 1) + tsW N te H k r (i + 1)
theorem crW_F (k i : Nat) : ∀ r j : Nat, i < j → crW N te H k (flF N te H r j) (flG N te H i (te i)) = psW N te H k i r j
  | 0, j, h => by
    have : ∀ a : List (Nat × Nat), crW N te H k [] a = 0 := by
      intro a
      induction a with
      | nil => rfl
      | cons x a ih =>
        show 0 + crW N te H k [] a = 0
        rw [ih]
    exact this _
  | r + 1, j, h => by
    show crW N te H k (flG N te H j (te j) ++ flF N te H r (j + 1)) _ = c2S N te H i j * wtS k i j + psW N te H k i r (j + 1)
    rw [crW_appR, crW_gears k i j (by omega), crW_F k i r (j + 1) (by omega)]
    rfl
theorem ouW_F (k : Nat) : ∀ r i : Nat, ouW N te H k (flF N te H r i) = tsW N te H k r i
  | 0, i => rfl
  | r + 1, i => by
    show ouW N te H k (flG N te H i (te i) ++ flF N te H r (i + 1)) = c1S N te H i * wtS k i i + psW N te H k i r (i + 1) + tsW N te H k r (i + 1)
    rw [ouW_app, ouW_same, crW_F k i r (i + 1) (by omega), ouW_F k r (i + 1)]
    rfl
theorem ouW_all (k G : Nat) : ouW N te H k (flA N te H G) = tsW N te H k G 0 := by rw [flA_F, ouW_F]
theorem wt_le (k g h : Nat) : wtS k g h ≤ 1 := by
  unfold wtS
  split
  · exact Nat.le_refl 1
  · split <;> omega
theorem wt_0 (g h : Nat) : wtS 0 g h = 1 := if_pos rfl
theorem ps_le {B : Nat} (hB : ∀ g, te g ≤ B) (k i : Nat) : ∀ r j : Nat, psW N te H k i r j ≤ r * (B * B)
  | 0, j => Nat.zero_le _
  | r + 1, j => by
    have h1 := ps_le hB k i r (j + 1)
    have h2 := c2_le (N := N) (te := te) (H := H) i j
    have h3 := Nat.mul_le_mul (hB i) (hB j)
    have h4 := Nat.mul_le_mul (Nat.le_trans h2 h3) (wt_le k i j)
    rw [Nat.mul_one] at h4
    show c2S N te H i j * wtS k i j + psW N te H k i r (j + 1) ≤ (r + 1) * (B * B)
    rw [Nat.succ_mul]
    omega
theorem ts_le {B : Nat} (hB : ∀ g, te g ≤ B) (k : Nat) : ∀ r i : Nat, tsW N te H k r i ≤ r * (B + r * (B * B))
  | 0, i => Nat.zero_le _
  | r + 1, i => by
    have h1 := ts_le hB k r (i + 1)
    have h2 := ps_le (N := N) (te := te) (H := H) hB k i r (i + 1)
    have h3 := Nat.mul_le_mul (Nat.le_trans (c1_le (N := N) (te := te) (H := H) i) (hB i)) (wt_le k i i)
    rw [Nat.mul_one] at h3
    show c1S N te H i * wtS k i i + psW N te H k i r (i + 1) + tsW N te H k r (i + 1) ≤ (r + 1) * (B + (r + 1) * (B * B))
    have h4 : r * (B + r * (B * B)) ≤ r * (B + (r + 1) * (B * B)) := Nat.mul_le_mul_left r (by rw [Nat.succ_mul]; omega)
    rw [Nat.succ_mul, Nat.succ_mul] 
    rw [Nat.succ_mul] at h4
    omega
end
