/-! the words of the functions that the program's methods are read as -/
def J (z : Int) : Int32 := Int32.ofInt z
def K (z : Int) : Int64 := Int64.ofInt z
def Ok {α : Type} (o : Option α) (P : α → Prop) : Prop := ∃ a, o = some a ∧ P a
theorem ok_some {α : Type} {a : α} {P : α → Prop} (h : Ok (some a) P) : P a := by
  obtain ⟨b, e, hb⟩ := h
  cases e
  exact hb
theorem ok_bind {α β : Type} {o : Option α} {f : α → Option β} {P : β → Prop} (h : Ok (o.bind f) P) : ∃ a, o = some a ∧ Ok (f a) P := by
  obtain ⟨b, e, hb⟩ := h
  obtain ⟨a, h1, h2⟩ := Option.bind_eq_some_iff.mp e
  exact ⟨a, h1, b, h2, hb⟩
theorem ok_none {α : Type} {P : α → Prop} {G : Prop} (h : Ok (none : Option α) P) : G := by
  obtain ⟨b, e, -⟩ := h
  cases e
theorem ok_join {α β : Type} {o : Option α} {f : α → Option β} {P : β → Prop} {Q : α → Prop} {G : Prop} (h : Ok (o.bind f) P) (hj : ∀ e, Ok (f e) P → Q e) (hb : Ok o Q → G) : G := by
  obtain ⟨a, h1, h2⟩ := ok_bind h
  exact hb ⟨a, h1, hj a h2⟩
theorem ok_t {α : Type} {c : Prop} [Decidable c] {a b : Option α} {P : α → Prop} (h : Ok (if c then a else b) P) (hc : c) : Ok a P := by rwa [if_pos hc] at h
theorem ok_f {α : Type} {c : Prop} [Decidable c] {a b : Option α} {P : α → Prop} (h : Ok (if c then a else b) P) (hc : ¬ c) : Ok b P := by rwa [if_neg hc] at h
/-- a loop: from the state s, until its body says what it ends with -/
def iter {σ ε : Type} (b : σ → Option (σ ⊕ ε)) : Nat → σ → Option ε
  | 0, _ => none
  | n + 1, s => match b s with
    | none => none
    | some (.inl t) => iter b n t
    | some (.inr e) => some e
def FU : Nat := 1000000000
def KI {σ ε : Type} (b : σ → Option (σ ⊕ ε)) (n : Nat) (P : ε → Prop) : σ ⊕ ε → Prop
  | .inl t => Ok (iter b n t) P
  | .inr e => P e
theorem ki_l {σ ε : Type} {b : σ → Option (σ ⊕ ε)} {n : Nat} {P : ε → Prop} {t : σ} (h : Ok (some (.inl t)) (KI b n P)) : Ok (iter b n t) P := by have q := ok_some h; exact q
theorem ki_r {σ ε : Type} {b : σ → Option (σ ⊕ ε)} {n : Nat} {P : ε → Prop} {e : ε} (h : Ok (some (.inr e)) (KI b n P)) : P e := by have q := ok_some h; exact q
theorem ok_iter0 {σ ε : Type} {b : σ → Option (σ ⊕ ε)} {s : σ} {P : ε → Prop} {G : Prop} (h : Ok (iter b 0 s) P) : G := ok_none h
theorem ok_iter {σ ε : Type} {b : σ → Option (σ ⊕ ε)} {n : Nat} {s : σ} {P : ε → Prop} (h : Ok (iter b (n + 1) s) P) : Ok (b s) (KI b n P) := by
  obtain ⟨e, h1, h2⟩ := h
  simp only [iter] at h1
  split at h1
  · cases h1
  · rename_i t ht
    exact ⟨_, ht, e, h1, h2⟩
  · rename_i e' he
    cases h1
    exact ⟨_, he, h2⟩
def cap (a b : Nat) : Option Unit := if a ≤ b then some () else none
def eqn (a b : Nat) : Option Unit := if a = b then some () else none
theorem cap_le {a b : Nat} (h : cap a b = some ()) : a ≤ b := by
  unfold cap at h
  split at h
  · assumption
  · cases h
theorem eqn_eq {a b : Nat} (h : eqn a b = some ()) : a = b := by
  unfold eqn at h
  split at h
  · assumption
  · cases h
theorem nz_ne {b : Int32} {u : Unit} (h : nz b = some u) : ¬ b = 0 := by
  unfold nz at h
  split at h
  · cases h
  · assumption
theorem nzL_ne {b : Int64} {u : Unit} (h : nzL b = some u) : ¬ b = 0 := by
  unfold nzL at h
  split at h
  · cases h
  · assumption
theorem bz_fits {v : Int32} {u : Unit} (h : bz v = some u) : fits .boolean (.int v) = true := by
  unfold bz at h
  split at h
  · rename_i q
    rcases q with rfl | rfl <;> decide
  · cases h
theorem bz_nar {v : Int32} {u : Unit} (h : bz v = some u) : narrow .boolean (.int v) = .int v := bz_narrow h
theorem J_toInt (a : Int32) : J a.toInt = a := Int32.ofInt_toInt a
theorem sw_n {a : Int32} {k : Int} (h : ¬ a = J k) : ¬ a.toInt = k := fun e => h (by rw [← e, J_toInt])
theorem r_ls {Z : Zc} {pc n x : Nat} {ls ls' : List (Nat × Value)} {st : List Value} {h : Hp} (e : ls = ls') (k : R Z pc ls' st n h x) : R Z pc ls st n h x := e ▸ k
theorem r_topi {Z : Zc} {pc n x : Nat} {ls : List (Nat × Value)} {st : List Value} {h : Hp} {a b : Int32} (e : some a = some b) (k : R Z pc ls (.int b :: st) n h x) : R Z pc ls (.int a :: st) n h x := Option.some.inj e ▸ k
theorem r_topl {Z : Zc} {pc n x : Nat} {ls : List (Nat × Value)} {st : List Value} {h : Hp} {a b : Int64} (e : some a = some b) (k : R Z pc ls (.long b :: st) n h x) : R Z pc ls (.long a :: st) n h x := Option.some.inj e ▸ k
theorem r_iincE {Z : Zc} {cc : ByteArray} {own : String} {nL d X : Nat} (hZ : Fx cc own nL d X Z) {pc n x : Nat} {ls : List (Nat × Value)} {st : List Value} {h : Hp} {i : Nat} {z : Int} {v w v' : Int32} (hd : decode cc pc = .ok (.iinc i z, 3)) (hn : i < nL) (hv : lget ls i = some (.int v)) (hzv : Int32.ofInt z = w) (he : some (v + w) = some v') (k : R Z (pc + 3) (lset ls i (.int v')) st n h x) : R Z pc ls st n h x :=
  r_iinc hZ hd hn hv hzv (Option.some.inj he ▸ k)
theorem mem_all {l : List Cond} (h : l.all (fun w => decide (w ∈ lw_tbl) && goodWord w) = true) : ∀ w ∈ l, w ∈ TT := by
  intro w hw
  have h1 := List.all_eq_true.mp h w hw
  simp only [Bool.and_eq_true, decide_eq_true_eq] at h1
  exact List.mem_filter.mpr h1
theorem ok_bindK {α β : Type} {o : Option α} {f : α → Option β} {P : β → Prop} (h : Ok (o.bind f) P) : Ok o (fun a => Ok (f a) P) := by
  obtain ⟨a, h1, h2⟩ := ok_bind h
  exact ⟨a, h1, h2⟩
