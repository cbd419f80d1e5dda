/-! the class's listener (146: gears 147, earliest 148, inside 149, uses 150) -/
theorem K_self (x : Int64) : K x.toInt = x := Int64.ofInt_toInt x
def ftS (x : Int64) : Int := match srch (fun t => tb x t) 60 with
  | some t => (t : Int)
  | none => 0
theorem c_firstTick (x : Int64) : f_X1_firstTick x = some (J (ftS x)) := by
  have L := iter_srch (b := b_X1_firstTick_2 x) (fun t => J (t : Int)) (fun t => tb x t) 60 (s0 := J 0) (e0 := .inl ()) (fun t => .inr (J t)) rfl (by decide) (fun t ht hc => ?_) (fun t ht hc => ?_) ?_
  · unfold f_X1_firstTick ftS
    refine bind_eq rfl (bind_eq L ?_)
    cases srch (fun t => tb x t) 60 <;> rfl
  · unfold b_X1_firstTick_2
    rw [if_neg (by rw [J_le (by omega) (by omega) (by omega) (by omega)]; omega), if_pos ((shr_bit (by omega) x).mpr hc)]
    refine bind_eq rfl ?_
    rw [J_add]
    rfl
  · unfold b_X1_firstTick_2
    rw [if_neg (by rw [J_le (by omega) (by omega) (by omega) (by omega)]; omega), if_neg (fun h => by
      rw [(shr_bit (by omega) x).mp h] at hc
      exact Bool.noConfusion hc)]
  · unfold b_X1_firstTick_2
    rw [if_pos (by rw [J_le (by omega) (by omega) (by omega) (by omega)]; omega)]
theorem ft_some {x : Int64} (h : ∀ t, t < 64 → tb x t = true → t < 60) (hx : x ≠ K 0) : ∃ f : Nat, ftS x = f ∧ f < 60 ∧ tb x f = true := by
  unfold ftS
  cases hs : srch (fun t => tb x t) 60 with
  | some t => exact ⟨t, rfl, (srch_lt hs).1, (srch_lt hs).2.1⟩
  | none =>
    refine absurd (tb_ext (fun t ht => ?_)) hx
    rw [tb_K0]
    by_cases c : t < 60
    · exact srch_none hs t c
    · cases q : tb x t
      · rfl
      · exact absurd (h t ht q) c
section
variable {N : Nat} {te : Nat → Nat} {H : Int64}
theorem snd_loop {h : Hp} {p0 : Nat} (hN : N ≤ 60) (h2 : gI h p0 1 2 = some (J (N : Int))) {τ : Nat} (t1 : 1 ≤ τ) (t2 : τ ≤ 99) : ∀ (r m t : Nat) (x : Int64), N - t ≤ r → r < m → t ≤ 200 → ∃ y, iter (b_X1_soundAt_22 h p0 (J (τ : Int))) m (x, J (t : Int)) = some y ∧ ∀ s, tb y s = (tb x s || decide (s < N ∧ t ≤ s ∧ (s - t) % τ = 0))
  | r, 0, t, x, hr, hm, ht => by omega
  | r, m + 1, t, x, hr, hm, ht => by
    by_cases c : N ≤ t
    · refine ⟨x, iter_E ?_, fun s => ?_⟩
      · unfold b_X1_soundAt_22
        refine bind_eq h2 ?_
        rw [if_pos (by rw [J_le (by omega) (by omega) (by omega) (by omega)]; omega)]
      · rw [decide_eq_false (by omega), Bool.or_false]
    · match r, hr, hm with
      | 0, hr, hm => omega
      | r + 1, hr, hm =>
        obtain ⟨y, h3, h4⟩ := snd_loop hN h2 t1 t2 r m (t + τ) (x ||| (K 1 <<< ((J (t : Int)).toInt64 &&& 63))) (by omega) (by omega) (by omega)
        refine ⟨y, ?_, fun s => ?_⟩
        · rw [iter_S (t := (x ||| (K 1 <<< ((J (t : Int)).toInt64 &&& 63)), J ((t + τ : Nat) : Int))) ?_]
          · exact h3
          · unfold b_X1_soundAt_22
            refine bind_eq h2 ?_
            rw [if_neg (by rw [J_le (by omega) (by omega) (by omega) (by omega)]; omega)]
            refine bind_eq rfl (bind_eq rfl ?_)
            rw [J_add]
            rfl
        · rw [h4 s, tb_or, tb_bit (by omega), Bool.or_assoc]
          congr 1
          have k := step_mod (te := τ) (t := t) (s := s) t1
          rw [Bool.eq_iff_iff, Bool.or_eq_true, decide_eq_true_iff, decide_eq_true_iff, decide_eq_true_iff]
          constructor
          · rintro (e | ⟨a, b⟩)
            · exact ⟨by omega, k.mpr (Or.inl e)⟩
            · exact ⟨a, k.mpr (Or.inr b)⟩
          · rintro ⟨a, b⟩
            rcases k.mp b with e | e
            · exact Or.inl e
            · exact Or.inr ⟨a, e⟩
/-- what the listener knows -/
def LS0 (D : Mem) (N : Nat) (te : Nat → Nat) (H : Int64) (f : Nat) : Prop := D 146 2 = N ∧ K (D 146 3) = H ∧ D 146 4 = f
def LSg (D : Mem) (te : Nat → Nat) (g : Nat) : Prop := D 147 g = (gA 1 g : Nat) ∧ D (gA 1 g) 2 = te g
theorem c_soundAt {D : Mem} {f : Nat} (hN : N ≤ 60) (L : LS0 D N te H f) {g : Nat} (hg : g < 12) (Lg : LSg D te g) (t1 : 1 ≤ te g) (t2 : te g ≤ 99) {t : Nat} (ht : t < 200) : f_X1_soundAt (mkH D) 146 (J (g : Int)) (J (t : Int)) = some (Xs N te g (t % te g)) := by
  obtain ⟨l1, l2, l3⟩ := L
  obtain ⟨g1, g2⟩ := Lg
  have G := isG_1 (i := (g : Int)) (by omega) (by omega)
  have a : aR (mkH D) 147 3 (J (g : Int)) = some (gA 1 g) := by
    rw [q_aV (len := 12) rfl rfl (by decide) (by decide) (by omega) (by omega) (by rw [g1]; omega), g1]
    exact congrArg some (Int.toNat_natCast _)
  have h2 : gI (mkH D) 146 1 2 = some (J (N : Int)) := by
    rw [q_gI rfl rfl]
    exact congrArg (fun z => some (J z)) l1
  have lt : t % te g < te g := Nat.mod_lt _ t1
  obtain ⟨y, q1, q2⟩ := snd_loop hN h2 t1 t2 60 FU (t % te g) (K 0) (by omega) (by decide) (by omega)
  have ey : y = Xs N te g (t % te g) := tb_ext (fun s _ => by
    rw [q2 s, tb_K0, Bool.false_or]
    unfold Xs
    rw [tb_sdL hN, Bool.eq_iff_iff, decide_eq_true_iff, decide_eq_true_iff, ph_mod t1 lt])
  rw [ey] at q1
  unfold f_X1_soundAt
  refine bind_eq (q_gR rfl rfl) (bind_eq a (bind_eq (SG3 D _ G) ?_))
  rw [g2]
  have mx : (if J (te g : Int) < J 1 then J 1 else J (te g : Int)) = J (te g : Int) := if_neg (by rw [J_lt (by omega) (by omega) (by omega) (by omega)]; omega)
  rw [mx]
  refine bind_eq rfl (bind_eq rfl (bind_eq (nz_J (by omega) (by omega) (by omega)) ?_))
  rw [J_mod (by omega) (by omega) (by omega) (by omega)]
  have em : ((t : Int) % (te g : Int)) = ((t % te g : Nat) : Int) := (Int.natCast_emod t (te g)).symm
  rw [em]
  exact bind_eq rfl (bind_eq q1 rfl)
theorem c_isIn {D : Mem} {f : Nat} (L : LS0 D N te H f) (x : Int64) : f_X1_isInside (mkH D) 146 x = some (J (B (inB H x = true))) := by
  obtain ⟨l1, l2, l3⟩ := L
  unfold f_X1_isInside
  refine bind_eq (q_gL rfl rfl) ?_
  rw [show ((3 : Nat) : Int) = 3 from rfl, l2]
  have e : lg_cmp (x &&& (H ^^^ K (-1))) (K 0) = 0 ↔ x &&& (H ^^^ K (-1)) = K 0 := lg_eq _ _
  by_cases c : x &&& (H ^^^ K (-1)) = K 0
  · have i : inB H x = true := decide_eq_true c
    rw [if_pos (by exact e.mpr c), B_t i]
    rfl
  · have i : ¬ inB H x = true := fun h => c (of_decide_eq_true h)
    rw [if_neg (fun h => c (e.mp h)), B_f i]
    rfl
theorem cI_tail (hN : N ≤ 60) {g : Nat} : ∀ r : Nat, smN (fitI N te H g) (N + r) = smN (fitI N te H g) N + r
  | 0 => rfl
  | r + 1 => by
    show smN (fitI N te H g) (N + r) + fitI N te H g (N + r) = _
    rw [cI_tail hN r]
    have : fitI N te H g (N + r) = 1 := by
      unfold fitI
      refine if_pos (in_iff.mpr (fun t _ ht => ?_))
      have h := (X_bit hN).mp ht
      have := Nat.mod_le t (te g)
      omega
    omega
theorem c_countIn {D : Mem} {f : Nat} (hN : N ≤ 60) (L : LS0 D N te H f) {g : Nat} (hg : g < 12) (Lg : LSg D te g) (t1 : 1 ≤ te g) (t2 : te g ≤ 99) : f_X1_countInside (mkH D) 146 (J (g : Int)) = some (J (cIS N te H g : Int)) := by
  obtain ⟨l1, l2, l3⟩ := id L
  obtain ⟨g1, g2⟩ := id Lg
  have G := isG_1 (i := (g : Int)) (by omega) (by omega)
  have a : aR (mkH D) 147 3 (J (g : Int)) = some (gA 1 g) := by
    rw [q_aV (len := 12) rfl rfl (by decide) (by decide) (by omega) (by omega) (by rw [g1]; omega), g1]
    exact congrArg some (Int.toNat_natCast _)
  have h2 : gI (mkH D) 146 1 2 = some (J (N : Int)) := by
    rw [q_gI rfl rfl]
    exact congrArg (fun z => some (J z)) l1
  obtain ⟨Q, hQ⟩ : ∃ Q : Nat, Q = min (te g) N := ⟨_, rfl⟩
  obtain ⟨x0, hx0⟩ : ∃ x0 : Nat, x0 = te g - Q := ⟨_, rfl⟩
  have mn : (if J (N : Int) < J (te g : Int) then J (N : Int) else J (te g : Int)) = J (Q : Int) := by
    by_cases c : N < te g
    · rw [if_pos (by rw [J_lt (by omega) (by omega) (by omega) (by omega)]; omega), hQ, Nat.min_eq_right (by omega)]
    · rw [if_neg (by rw [J_lt (by omega) (by omega) (by omega) (by omega)]; omega), hQ, Nat.min_eq_left (by omega)]
  have mx : (if J ((te g : Int) - N) < J 0 then J 0 else J ((te g : Int) - N)) = J (x0 : Int) := by
    by_cases c : (te g : Int) - N < 0
    · rw [if_pos (by rw [J_lt (by omega) (by omega) (by omega) (by omega)]; omega)]
      congr 1
      omega
    · rw [if_neg (by rw [J_lt (by omega) (by omega) (by omega) (by omega)]; omega)]
      congr 1
      omega
  have tot : x0 + smN (fitI N te H g) Q = cIS N te H g := by
    unfold cIS
    by_cases c : N < te g
    · have q := cI_tail (te := te) (H := H) hN (g := g) (te g - N)
      rw [show N + (te g - N) = te g by omega] at q
      rw [q, show Q = N by omega]
      omega
    · rw [show Q = te g by omega]
      omega
  have Lo : iter (b_X1_countInside_24 (mkH D) 146 (J (g : Int)) (J (te g : Int))) FU (J (x0 : Int), J 0) = some (J (cIS N te H g : Int)) := by
    rw [← tot]
    refine iter_at (fun p => (J ((x0 + smN (fitI N te H g) p : Nat) : Int), J (p : Int))) Q rfl (by omega) (fun p hp => ?_) ?_
    · have s := c_soundAt hN L hg Lg t1 t2 (t := p) (by omega)
      have i := c_isIn L (Xs N te g (p % te g))
      rw [Nat.mod_eq_of_lt (by omega)] at s i
      unfold b_X1_countInside_24
      refine bind_eq h2 ?_
      rw [mn, if_neg (by rw [J_le (by omega) (by omega) (by omega) (by omega)]; omega)]
      refine bind_eq (q_isO rfl) (bind_eq s (bind_eq (q_isO rfl) (bind_eq i (bind_eq (a := J (fitI N te H g p : Int)) ?_ (bind_eq rfl (bind_eq rfl ?_))))))
      · unfold fitI
        by_cases c : inB H (Xs N te g p) = true
        · rw [B_t c, if_neg n1J, if_pos c]
          rfl
        · rw [B_f c, if_pos (by rfl), if_neg c]
          rfl
      · rw [J_add, J_add]
        have e : ((x0 + smN (fitI N te H g) p : Nat) : Int) + (fitI N te H g p : Nat) = ((x0 + smN (fitI N te H g) (p + 1) : Nat) : Int) := by
          show _ = ((x0 + (smN (fitI N te H g) p + fitI N te H g p) : Nat) : Int)
          omega
        rw [e]
        rfl
    · unfold b_X1_countInside_24
      refine bind_eq h2 ?_
      rw [mn, if_pos (by rw [J_le (by omega) (by omega) (by omega) (by omega)]; omega)]
  unfold f_X1_countInside
  refine bind_eq (q_gR rfl rfl) (bind_eq a (bind_eq (SG3 D _ G) (bind_eq h2 ?_)))
  rw [g2, J_sub, mx]
  exact bind_eq rfl (bind_eq rfl (bind_eq Lo rfl))
/-- all that the listener knows of a gear -/
def LSa (D : Mem) (N : Nat) (te : Nat → Nat) (H : Int64) (f g : Nat) : Prop := LSg D te g ∧ K (D 148 g) = Xs N te g (f % te g) ∧ D 149 g = cIS N te H g
theorem a148 {D : Mem} {f g : Nat} (hg : g < 12) (A : LSa D N te H f g) : aL (mkH D) 148 (J (g : Int)) = some (Xs N te g (f % te g)) := by
  rw [q_aL (len := 12) rfl (by decide) (by omega) (by omega), A.2.1]
theorem a149 {D : Mem} {f g : Nat} (hg : g < 12) (A : LSa D N te H f g) : aI (mkH D) 149 (J (g : Int)) = some (J (cIS N te H g : Int)) := by
  rw [q_aI (len := 12) rfl (by decide) (by omega) (by omega), A.2.2]
theorem g146_3 {D : Mem} {f : Nat} (L : LS0 D N te H f) : gL (mkH D) 146 1 3 = some H := by
  rw [q_gL rfl rfl]
  exact congrArg some L.2.1
theorem lg0 (x y : Int64) : lg_cmp x y = 0 ↔ x = y := lg_eq x y
theorem c_beside {D : Mem} {f : Nat} (hN : N ≤ 60) (HH : HRD N H) (L : LS0 D N te H f) {g h : Nat} (hg : g < 12) (hh : h < 12) (Ag : LSa D N te H f g) (Ah : LSa D N te H f h) (t1 : 1 ≤ te h) (t2 : te h ≤ 99) : f_X1_countBeside (mkH D) 146 (J (g : Int)) (J (h : Int)) = some (J (nbS N te H f g h : Int)) := by
  have i1 := c_isIn L (Xs N te g (f % te g))
  unfold f_X1_countBeside
  refine bind_eq (q_gR rfl rfl) (bind_eq (a148 hg Ag) (bind_eq (q_isO rfl) (bind_eq i1 ?_)))
  by_cases c : inB H (Xs N te g (f % te g)) = true
  · rw [B_t c, if_neg n1J]
    refine bind_eq (g146_3 L) (bind_eq (q_gR rfl rfl) (bind_eq (a148 hg Ag) (bind_eq rfl ?_)))
    by_cases c0 : H &&& (Xs N te g (f % te g) ^^^ K (-1)) = K 0
    · rw [if_pos ((lg0 _ _).mpr c0)]
      have e := (rest_0 c).mp c0
      have na := nb_all (f := f) (h := h) t1 e
      have i2 := c_isIn L (Xs N te h (f % te h))
      refine bind_eq (q_gR rfl rfl) (bind_eq (a149 hh Ah) (bind_eq (q_gR rfl rfl) (bind_eq (a148 hh Ah) (bind_eq (q_isO rfl) (bind_eq i2 (bind_eq (a := J (fitI N te H h (f % te h) : Int)) ?_ ?_))))))
      · unfold fitI
        by_cases c2 : inB H (Xs N te h (f % te h)) = true
        · rw [B_t c2, if_neg n1J, if_pos c2]
          rfl
        · rw [B_f c2, if_pos (by rfl), if_neg c2]
          rfl
      · rw [J_sub]
        congr 2
        omega
    · rw [if_neg (fun q => c0 ((lg0 _ _).mp q))]
      obtain ⟨r, r1, r2, r3⟩ := ft_some (x := H &&& (Xs N te g (f % te g) ^^^ K (-1))) (fun t ht hb => by
        rw [tb_and, Bool.and_eq_true] at hb
        have := HH t ht hb.1
        omega) c0
      rw [tb_and, tb_not _ (by omega), Bool.and_eq_true] at r3
      have rN := HH r (by omega) r3.1
      have s := c_soundAt hN L hh Ah.1 t1 t2 (t := r) (by omega)
      have nr := nb_rest hN (f := f) (g := g) (h := h) t1 r3.1 (by cases q : tb (Xs N te g (f % te g)) r <;> simp_all) rN
      rw [c_firstTick, r1]
      refine bind_eq rfl (bind_eq (q_isO rfl) (bind_eq s (bind_eq (q_gR rfl rfl) (bind_eq (a148 hh Ah) ?_))))
      rw [nr]
      by_cases c1 : Xs N te h (r % te h) = Xs N te h (f % te h)
      · rw [if_pos c1, if_pos ((lg0 _ _).mpr c1)]
        exact bind_eq rfl rfl
      · rw [if_neg c1, if_neg (fun q => c1 ((lg0 _ _).mp q))]
        by_cases c2 : Xs N te h (r % te h) ||| Xs N te g (f % te g) = H
        · rw [if_pos c2]
          refine bind_eq (a := J 1) (bind_eq (q_gR rfl rfl) (bind_eq (a148 hg Ag) (bind_eq (g146_3 L) ?_))) (bind_eq (a := J 1) ?_ rfl)
          · rw [if_pos ((lg0 _ _).mpr c2)]
          · rw [if_neg n1J]
        · rw [if_neg c2]
          refine bind_eq (a := J 0) (bind_eq (q_gR rfl rfl) (bind_eq (a148 hg Ag) (bind_eq (g146_3 L) ?_))) (bind_eq (a := J 0) ?_ rfl)
          · rw [if_neg (fun q => c2 ((lg0 _ _).mp q))]
          · rw [if_pos (by rfl)]
  · rw [B_f c, if_pos (by rfl), nb_out (by cases q : inB H (Xs N te g (f % te g)) <;> simp_all)]
    rfl
theorem c_singles {D : Mem} {f : Nat} (hN : N ≤ 60) (L : LS0 D N te H f) (hf : H ≠ K 0 → tb H f = true) {g : Nat} (hg : g < 12) (Ag : LSa D N te H f g) (t1 : 1 ≤ te g) : f_X1_countSingles (mkH D) 146 (J (g : Int)) = some (J (c1S N te H g : Int)) := by
  unfold f_X1_countSingles
  refine bind_eq (g146_3 L) ?_
  by_cases c : H = K 0
  · rw [if_pos ((lg0 _ _).mpr c)]
    subst c
    rw [c1_nil]
    exact bind_eq (q_gR rfl rfl) (bind_eq (a149 hg Ag) rfl)
  · rw [if_neg (fun q => c ((lg0 _ _).mp q)), c1_some hN (hf c) t1]
    refine bind_eq (q_gR rfl rfl) (bind_eq (a148 hg Ag) (bind_eq (g146_3 L) ?_))
    by_cases c2 : Xs N te g (f % te g) = H
    · rw [if_pos ((lg0 _ _).mpr c2), if_pos c2]
      rfl
    · rw [if_neg (fun q => c2 ((lg0 _ _).mp q)), if_neg c2]
      rfl
theorem c_pairs {D : Mem} {f : Nat} (hN : N ≤ 60) (HH : HRD N H) (L : LS0 D N te H f) (hf : H ≠ K 0 → tb H f = true) {g h : Nat} (hg : g < 12) (hh : h < 12) (Ag : LSa D N te H f g) (Ah : LSa D N te H f h) (t1 : 1 ≤ te g) (t2 : te g ≤ 99) (u1 : 1 ≤ te h) (u2 : te h ≤ 99) : f_X1_countPairs (mkH D) 146 (J (g : Int)) (J (h : Int)) = some (J (c2S N te H g h : Int)) := by
  unfold f_X1_countPairs
  refine bind_eq (g146_3 L) ?_
  by_cases c : H = K 0
  · rw [if_pos ((lg0 _ _).mpr c)]
    subst c
    rw [c2_nil]
    refine bind_eq (q_gR rfl rfl) (bind_eq (a149 hg Ag) (bind_eq (q_gR rfl rfl) (bind_eq (a149 hh Ah) ?_)))
    rw [J_mul]
    congr 2
  · rw [if_neg (fun q => c ((lg0 _ _).mp q)), c2_some hN (hf c) t1 u1]
    have b1 := c_beside hN HH L hg hh Ag Ah u1 u2
    have b2 := c_beside hN HH L hh hg Ah Ag t1 t2
    refine bind_eq (q_gR rfl rfl) (bind_eq (a148 hg Ag) (bind_eq (q_gR rfl rfl) (bind_eq (a148 hh Ah) (bind_eq (g146_3 L) (bind_eq (a := J (fit2 N te H g h (f % te g) (f % te h) : Int)) ?_ (bind_eq (q_isO rfl) (bind_eq b1 (bind_eq (q_isO rfl) (bind_eq b2 ?_)))))))))
    · unfold fit2
      by_cases c2 : Xs N te g (f % te g) ||| Xs N te h (f % te h) = H
      · rw [if_pos ((lg0 _ _).mpr c2), if_pos c2]
        rfl
      · rw [if_neg (fun q => c2 ((lg0 _ _).mp q)), if_neg c2]
        rfl
    · rw [J_add, J_add]
      congr 2
end
