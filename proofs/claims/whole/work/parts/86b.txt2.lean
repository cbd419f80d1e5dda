/-! statements by the class's reader -/
section
variable {d : Mem} {b : Nat} {tx : Int → Int} {n : Int}
theorem sI127 (D : Mem) {k v : Int} (k0 : 0 ≤ k) (k1 : k < 3) : sI (mkH D) 127 (J k) (J v) = some (mkH (up D 127 k v)) := q_sI (len := 3) rfl (by decide) k0 k1
theorem t_itemsS {w : Nat} (hw : w ≤ 3) : ∀ (r i m : Nat) (E : Mem) (p : Int), i + r = w → r < m → ∃ E', iter (b_X9_readStatement_76 125 (J (w : Int))) m (J (i : Int), mkH (ts E p 1)) = some (mkH (ts E' p 1)) ∧ ∀ x k, x ≠ 127 → E' x k = E x k
  | 0, i, 0, E, p, hi, hm => by omega
  | 0, i, m + 1, E, p, hi, hm => ⟨E, iter_E (by
      unfold b_X9_readStatement_76
      rw [if_pos (by rw [J_le (by omega) (by omega) (by omega) (by omega)]; omega)]), fun _ _ _ => rfl⟩
  | r + 1, i, 0, E, p, hi, hm => by omega
  | r + 1, i, m + 1, E, p, hi, hm => by
    obtain ⟨E', h1, h2⟩ := t_itemsS hw r (i + 1) m (up E 127 i 0) p (by omega) (by omega)
    refine ⟨E', ?_, fun x k hx => (h2 x k hx).trans (up_na hx)⟩
    rw [iter_S (t := (J ((i + 1 : Nat) : Int), mkH (ts (up E 127 i 0) p 1))) ?_]
    · exact h1
    · unfold b_X9_readStatement_76
      rw [if_neg (by rw [J_le (by omega) (by omega) (by omega) (by omega)]; omega)]
      refine bind_eq (a := mkH (ts E p 1)) ?_ (bind_eq (z125_13 _) (bind_eq (z125_0 _) (bind_eq t_numberS (bind_eq (sI127 _ (by omega) (by omega)) (bind_eq rfl ?_)))))
      · split
        · rfl
        · exact bind_eq (z125_0 _) (bind_eq (t_tosS (by decide) (by decide)) rfl)
      · rw [ts_up (by omega), J_add]
        rfl
theorem t_items {w : Nat} (hw : w ≤ 3) : ∀ (r i m : Nat) (E : Mem) (p : Int), i + r = w → r < m → RT E b tx n → 0 ≤ p → p ≤ n → ∃ E', iter (b_X9_readStatement_76 125 (J (w : Int))) m (J (i : Int), mkH (ts E p 0)) = some (mkH (ts E' (itsS (chS tx n) r i p (E 127)).1 (if (itsS (chS tx n) r i p (E 127)).2.1 = true then 0 else 1))) ∧ ((itsS (chS tx n) r i p (E 127)).2.1 = true → E' 127 = (itsS (chS tx n) r i p (E 127)).2.2) ∧ ∀ x k, x ≠ 127 → E' x k = E x k
  | 0, i, 0, E, p, hi, hm, R, p0, p1 => by omega
  | 0, i, m + 1, E, p, hi, hm, R, p0, p1 => ⟨E, iter_E (by
      unfold b_X9_readStatement_76
      rw [if_pos (by rw [J_le (by omega) (by omega) (by omega) (by omega)]; omega)]
      rfl), fun _ => rfl, fun _ _ _ => rfl⟩
  | r + 1, i, 0, E, p, hi, hm, R, p0, p1 => by omega
  | r + 1, i, m + 1, E, p, hi, hm, R, p0, p1 => by
    have nw : ¬ (J (w : Int) ≤ J (i : Int)) := by rw [J_le (by omega) (by omega) (by omega) (by omega)]; omega
    -- the number behind the blank, at q
    have num : ∀ q : Int, 0 ≤ q → q ≤ n → (∃ pre : Option Hp, pre = some (mkH (ts E q 0)) ∧ pre = (if (J (i : Int)) ≤ 0 then some (mkH (ts E p 0)) else (isO (mkH (ts E p 0)) 125 8).bind fun _ => (f_X4_takeOrStop_8 (mkH (ts E p 0)) 125 (J 32)).bind fun r3 => some r3)) → ∃ E', iter (b_X9_readStatement_76 125 (J (w : Int))) (m + 1) (J (i : Int), mkH (ts E p 0)) = some (mkH (ts E' (if isDg (chS tx n q) = true then itsS (chS tx n) r (i + 1) (n2P (chS tx n) q) (fun k => if k = (i : Int) then n2V (chS tx n) q else E 127 k) else (q, false, E 127)).1 (if (if isDg (chS tx n q) = true then itsS (chS tx n) r (i + 1) (n2P (chS tx n) q) (fun k => if k = (i : Int) then n2V (chS tx n) q else E 127 k) else (q, false, E 127)).2.1 = true then 0 else 1))) ∧ ((if isDg (chS tx n q) = true then itsS (chS tx n) r (i + 1) (n2P (chS tx n) q) (fun k => if k = (i : Int) then n2V (chS tx n) q else E 127 k) else (q, false, E 127)).2.1 = true → E' 127 = (if isDg (chS tx n q) = true then itsS (chS tx n) r (i + 1) (n2P (chS tx n) q) (fun k => if k = (i : Int) then n2V (chS tx n) q else E 127 k) else (q, false, E 127)).2.2) ∧ ∀ x k, x ≠ 127 → E' x k = E x k := by
      rintro q q0 q1 ⟨pre, hp1, hp2⟩
      rw [hp1] at hp2
      have k := t_number R q0 q1
      by_cases c : isDg (chS tx n q) = true
      · rw [if_pos c] at k
        simp only [if_pos c]
        obtain ⟨g1, g2, g3, g4⟩ := n2_rng c
        have eu : (up E 127 i (n2V (chS tx n) q)) 127 = fun k => if k = (i : Int) then n2V (chS tx n) q else E 127 k := up_self_row _ _ _ _
        obtain ⟨E', h1, h2, h3⟩ := t_items hw r (i + 1) m (up E 127 i (n2V (chS tx n) q)) (n2P (chS tx n) q) (by omega) (by omega) (RT_fr R (fun x k hx _ => up_na hx)) (by omega) g2
        rw [eu] at h1 h2
        refine ⟨E', ?_, h2, fun x k hx => (h3 x k hx).trans (up_na hx)⟩
        rw [iter_S (t := (J ((i + 1 : Nat) : Int), mkH (ts (up E 127 i (n2V (chS tx n) q)) (n2P (chS tx n) q) 0))) ?_]
        · exact h1
        · unfold b_X9_readStatement_76
          rw [if_neg nw]
          refine bind_eq hp2.symm (bind_eq (z125_13 _) (bind_eq (z125_0 _) (bind_eq k (bind_eq (sI127 _ (by omega) (by omega)) (bind_eq rfl ?_)))))
          rw [ts_up (by omega), J_add]
          rfl
      · rw [if_neg c] at k
        simp only [if_neg c]
        obtain ⟨E', h1, h2⟩ := t_itemsS hw r (i + 1) m (up E 127 i 0) q (by omega) (by omega)
        refine ⟨E', ?_, fun h => Bool.noConfusion (show false = true from h), fun x k hx => (h2 x k hx).trans (up_na hx)⟩
        rw [iter_S (t := (J ((i + 1 : Nat) : Int), mkH (ts (up E 127 i 0) q 1))) ?_]
        · exact h1
        · unfold b_X9_readStatement_76
          rw [if_neg nw]
          refine bind_eq hp2.symm (bind_eq (z125_13 _) (bind_eq (z125_0 _) (bind_eq k (bind_eq (sI127 _ (by omega) (by omega)) (bind_eq rfl ?_)))))
          rw [ts_up (by omega), J_add]
          rfl
    unfold itsS
    by_cases i0 : i = 0
    · have c1 : ¬ (i ≠ 0 ∧ chS tx n p ≠ 32) := fun h => h.1 i0
      rw [if_neg c1]
      have es : skS i p = p := if_pos i0
      rw [es]
      refine num p p0 p1 ⟨_, rfl, ?_⟩
      rw [if_pos (by rw [i0]; decide)]
    · have ni : ¬ (J (i : Int) ≤ 0) := by
        rw [J_zero, J_le (by omega) (by omega) (by omega) (by omega)]
        omega
      have t := t_tos R p0 p1 (x := 32) (by decide) (by decide)
      by_cases c32 : chS tx n p = 32
      · have c1 : ¬ (i ≠ 0 ∧ chS tx n p ≠ 32) := fun h => h.2 c32
        have hlt := ch_lt (tx := tx) (n := n) (p := p) (by omega)
        rw [if_neg c1]
        rw [if_pos c32] at t
        have es : skS i p = p + 1 := if_neg i0
        rw [es]
        refine num (p + 1) (by omega) (by omega) ⟨_, rfl, ?_⟩
        rw [if_neg ni]
        exact (bind_eq (z125_0 _) (bind_eq t rfl)).symm
      · rw [if_pos ⟨i0, c32⟩]
        rw [if_neg c32] at t
        obtain ⟨E', h1, h2⟩ := t_itemsS hw r (i + 1) m (up E 127 i 0) p (by omega) (by omega)
        refine ⟨E', ?_, fun h => Bool.noConfusion (show false = true from h), fun x k hx => (h2 x k hx).trans (up_na hx)⟩
        rw [iter_S (t := (J ((i + 1 : Nat) : Int), mkH (ts (up E 127 i 0) p 1))) ?_]
        · exact h1
        · unfold b_X9_readStatement_76
          rw [if_neg nw]
          refine bind_eq (a := mkH (ts E p 1)) ?_ (bind_eq (z125_13 _) (bind_eq (z125_0 _) (bind_eq t_numberS (bind_eq (sI127 _ (by omega) (by omega)) (bind_eq rfl ?_)))))
          · rw [if_neg ni]
            exact bind_eq (z125_0 _) (bind_eq t rfl)
          · rw [ts_up (by omega), J_add]
            rfl
/-- a statement by the class -/
theorem t_stmt {E : Mem} (R : RT E b tx n) {p : Int} (p0 : 0 ≤ p) (p1 : p ≤ n) : ∃ E', f_X9_readStatement (mkH (ts E p 0)) 125 = some (mkH (ts E' (stS (chS tx n) p (E 127)).1 (if (stS (chS tx n) p (E 127)).2.1 = true then 0 else 1))) ∧ E' 125 5 = p ∧ E' 125 4 = chS tx n p ∧ ((stS (chS tx n) p (E 127)).2.1 = true → E' 127 = (stS (chS tx n) p (E 127)).2.2) ∧ ∀ x k, x ≠ 127 → ¬ (x = 125 ∧ (k = 4 ∨ k = 5)) → E' x k = E x k := by
  obtain ⟨E1, hE1⟩ : ∃ E1, E1 = up E 125 5 p := ⟨_, rfl⟩
  have f1 : ∀ x k, ¬ (x = 125 ∧ (k = 4 ∨ k = 5)) → E1 x k = E x k := fun x k h => by
    rw [hE1]
    unfold up
    rw [if_neg (by omega)]
  have R1 : RT E1 b tx n := RT_fr R (fun x k _ h => f1 x k h)
  have q := t_coming R1 p0 p1
  have q2 := R.ch p
  obtain ⟨E2, hE2⟩ : ∃ E2, E2 = up E1 125 4 (chS tx n p) := ⟨_, rfl⟩
  have f2 : ∀ x k, ¬ (x = 125 ∧ (k = 4 ∨ k = 5)) → E2 x k = E x k := fun x k h => by
    rw [hE2]
    unfold up
    rw [if_neg (by omega)]
    exact f1 x k h
  have R2 : RT E2 b tx n := RT_fr R (fun x k _ h => f2 x k h)
  have a4 : ∀ s, ts E2 s 0 125 4 = chS tx n p := fun s => by rw [ts_nk (by decide) (by decide), hE2, up_same]
  have a5 : E2 125 5 = p := by rw [hE2, up_nk (by decide), hE1, up_same]
  have a4' : E2 125 4 = chS tx n p := by rw [hE2, up_same]
  have w5 : pF (mkH (ts E p 0)) 125 8 5 (.int (J p)) = some (mkH (ts E1 p 0)) := by
    rw [z125_12, ts_up (by omega), ← hE1]
  have w4 : pF (mkH (ts E1 p 0)) 125 8 4 (.int (J (chS tx n p))) = some (mkH (ts E2 p 0)) := by
    rw [z125_10, ts_up (by omega), ← hE2]
  have g2 : gI (mkH (ts E p 0)) 125 8 2 = some (J p) := by rw [z125_5, ts_at]
  have g4 : ∀ s, gI (mkH (ts E2 s 0)) 125 8 4 = some (J (chS tx n p)) := fun s => by rw [z125_9, a4]
  have g2' : gI (mkH (ts E2 p 0)) 125 8 2 = some (J p) := by rw [z125_5, ts_at]
  have w2 : pF (mkH (ts E2 p 0)) 125 8 2 (.int (J (p + 1))) = some (mkH (ts E2 (p + 1) 0)) := by rw [z125_6, ts_ua]
  have e127 : E2 127 = E 127 := funext fun k => f2 127 k (by omega)
  have tail : chS tx n p = 103 ∨ chS tx n p = 109 ∨ chS tx n p = 100 → ∃ E', ((iter (b_X9_readStatement_76 125 (J (wnt (chS tx n p) : Int))) FU (J 0, mkH (ts E2 (p + 1) 0))).bind fun e13 => (isO e13 125 8).bind fun _ => (f_X4_takeOrStop_8 e13 125 (J 59)).bind fun r15 => some r15) = some (mkH (ts E' (stS (chS tx n) p (E 127)).1 (if (stS (chS tx n) p (E 127)).2.1 = true then 0 else 1))) ∧ E' 125 5 = p ∧ E' 125 4 = chS tx n p ∧ ((stS (chS tx n) p (E 127)).2.1 = true → E' 127 = (stS (chS tx n) p (E 127)).2.2) ∧ ∀ x k, x ≠ 127 → ¬ (x = 125 ∧ (k = 4 ∨ k = 5)) → E' x k = E x k := by
    intro hl
    have hlt := ch_lt (tx := tx) (n := n) (p := p) (by omega)
    have hw : wnt (chS tx n p) ≤ 3 := by unfold wnt; split <;> omega
    obtain ⟨E', h1, h2, h3⟩ := t_items hw (wnt (chS tx n p)) 0 FU E2 (p + 1) (by omega) (by unfold FU; omega) R2 (by omega) (by omega)
    rw [e127] at h1 h2
    obtain ⟨o1, o2, -⟩ := its_rng (tx := tx) (n := n) (wnt (chS tx n p)) 0 (p + 1) (E 127) (by omega) (by omega)
    have R3 : RT E' b tx n := RT_fr R2 (fun x k hx _ => h3 x k hx)
    unfold stS
    rw [if_pos hl]
    generalize itsS (chS tx n) (wnt (chS tx n p)) 0 (p + 1) (E 127) = T at *
    have fr : ∀ x k, x ≠ 127 → ¬ (x = 125 ∧ (k = 4 ∨ k = 5)) → E' x k = E x k := fun x k hx hk => (h3 x k hx).trans (f2 x k hk)
    have b5 : E' 125 5 = p := (h3 125 5 (by decide)).trans a5
    have b4 : E' 125 4 = chS tx n p := (h3 125 4 (by decide)).trans a4'
    have h1 : iter (b_X9_readStatement_76 125 (J (wnt (chS tx n p) : Int))) FU (J 0, mkH (ts E2 (p + 1) 0)) = _ := h1
    by_cases c : T.2.1 = true
    · rw [if_pos c] at h1 ⊢
      have t := t_tos R3 (p := T.1) (by omega) o2 (x := 59) (by decide) (by decide)
      by_cases c59 : chS tx n T.1 = 59
      · rw [if_pos c59] at t ⊢
        exact ⟨E', bind_eq h1 (bind_eq (z125_0 _) (bind_eq t rfl)), b5, b4, fun _ => h2 c, fr⟩
      · rw [if_neg c59] at t ⊢
        exact ⟨E', bind_eq h1 (bind_eq (z125_0 _) (bind_eq t rfl)), b5, b4, fun h => Bool.noConfusion (show false = true from h), fr⟩
    · rw [if_neg c] at h1 ⊢
      exact ⟨E', bind_eq h1 (bind_eq (z125_0 _) (bind_eq (t_tosS (by decide) (by decide)) rfl)), b5, b4, fun h => Bool.noConfusion (show false = true from h), fr⟩
  have jc : ∀ x : Int, -128 ≤ x → x ≤ 127 → ((J (chS tx n p) = J x) ↔ chS tx n p = x) := fun x x0 x1 => J_eq (by omega) (by omega) (by omega) (by omega)
  by_cases k103 : chS tx n p = 103
  · obtain ⟨E', t1, t2⟩ := tail (by omega)
    refine ⟨E', ?_, t2⟩
    have e : wnt (chS tx n p) = 3 := by rw [k103]; rfl
    rw [e] at t1
    refine bind_eq g2 (bind_eq w5 (bind_eq (z125_0 _) (bind_eq q (bind_eq w4 (bind_eq (g4 p) ?_)))))
    rw [if_pos ((jc 103 (by decide) (by decide)).mpr k103)]
    refine bind_eq g2' ?_
    rw [J_add]
    refine bind_eq w2 (bind_eq (g4 (p + 1)) (bind_eq (a := J 3) ?_ (bind_eq rfl t1)))
    rw [if_neg (fun h => by have := (jc 109 (by decide) (by decide)).mp h; omega)]
  by_cases k109 : chS tx n p = 109
  · obtain ⟨E', t1, t2⟩ := tail (by omega)
    refine ⟨E', ?_, t2⟩
    have e : wnt (chS tx n p) = 2 := by rw [k109]; rfl
    rw [e] at t1
    refine bind_eq g2 (bind_eq w5 (bind_eq (z125_0 _) (bind_eq q (bind_eq w4 (bind_eq (g4 p) ?_)))))
    rw [if_neg (fun h => k103 ((jc 103 (by decide) (by decide)).mp h))]
    refine bind_eq (g4 p) ?_
    rw [if_pos ((jc 109 (by decide) (by decide)).mpr k109)]
    refine bind_eq g2' ?_
    rw [J_add]
    refine bind_eq w2 (bind_eq (g4 (p + 1)) (bind_eq (a := J 2) ?_ (bind_eq rfl t1)))
    rw [if_pos ((jc 109 (by decide) (by decide)).mpr k109)]
  by_cases k100 : chS tx n p = 100
  · obtain ⟨E', t1, t2⟩ := tail (by omega)
    refine ⟨E', ?_, t2⟩
    have e : wnt (chS tx n p) = 3 := by rw [k100]; rfl
    rw [e] at t1
    refine bind_eq g2 (bind_eq w5 (bind_eq (z125_0 _) (bind_eq q (bind_eq w4 (bind_eq (g4 p) ?_)))))
    rw [if_neg (fun h => k103 ((jc 103 (by decide) (by decide)).mp h))]
    refine bind_eq (g4 p) ?_
    rw [if_neg (fun h => k109 ((jc 109 (by decide) (by decide)).mp h))]
    refine bind_eq (g4 p) ?_
    rw [if_pos ((jc 100 (by decide) (by decide)).mpr k100)]
    refine bind_eq g2' ?_
    rw [J_add]
    refine bind_eq w2 (bind_eq (g4 (p + 1)) (bind_eq (a := J 3) ?_ (bind_eq rfl t1)))
    rw [if_neg (fun h => k109 ((jc 109 (by decide) (by decide)).mp h))]
  · have es : stS (chS tx n) p (E 127) = (p, false, E 127) := if_neg (by omega)
    rw [es]
    refine ⟨E2, ?_, a5, a4', fun h => Bool.noConfusion (show false = true from h), fun x k _ h => f2 x k h⟩
    refine bind_eq g2 (bind_eq w5 (bind_eq (z125_0 _) (bind_eq q (bind_eq w4 (bind_eq (g4 p) ?_)))))
    rw [if_neg (fun h => k103 ((jc 103 (by decide) (by decide)).mp h))]
    refine bind_eq (g4 p) ?_
    rw [if_neg (fun h => k109 ((jc 109 (by decide) (by decide)).mp h))]
    refine bind_eq (g4 p) ?_
    rw [if_neg (fun h => k100 ((jc 100 (by decide) (by decide)).mp h))]
    refine bind_eq (a := mkH (ts E2 p 1)) ?_ rfl
    rw [z125_8, ts_us]
/-- all statements of a text: where it stands, whether it reads, how many -/
def zf : Int → Int := fun _ => 0
def txS (c : Int → Int) (n : Int) : Nat → Int → Int × Bool × Nat
  | 0, p => (p, false, 0)
  | F + 1, p => if (stS c p zf).2.1 = true then (if (stS c p zf).1 < n then ((txS c n F (stS c p zf).1).1, (txS c n F (stS c p zf).1).2.1, (txS c n F (stS c p zf).1).2.2 + 1) else ((stS c p zf).1, true, 1)) else ((stS c p zf).1, false, 1)
theorem t_pass : ∀ (F m : Nat) (E : Mem) (p k : Int), n - p < F → F ≤ m → RT E b tx n → 0 ≤ k → k ≤ p → p ≤ n → ∃ E', iter (b_X9_countStatements_8 125 (J n)) m (J k, mkH (ts E p 0)) = some (J (k + (txS (chS tx n) n F p).2.2), mkH (ts E' (txS (chS tx n) n F p).1 (if (txS (chS tx n) n F p).2.1 = true then 0 else 1))) ∧ ∀ x k, x ≠ 127 → ¬ (x = 125 ∧ (k = 4 ∨ k = 5)) → E' x k = E x k
  | 0, m, E, p, k, hF, hm, R, k0, k1, p1 => by omega
  | F + 1, 0, E, p, k, hF, hm, R, k0, k1, p1 => by omega
  | F + 1, m + 1, E, p, k, hF, hm, R, k0, k1, p1 => by
    obtain ⟨E', h1, -, -, -, h5⟩ := t_stmt R (p := p) (by omega) p1
    obtain ⟨i1, i2, -⟩ := st_ind (c := chS tx n) (p := p) (E 127) zf
    obtain ⟨g1, g2, g3⟩ := st_rng (tx := tx) (n := n) (p := p) (f := zf) (by omega) p1
    rw [i1, i2] at h1
    have R' : RT E' b tx n := RT_fr R h5
    have hn := R.2.2.2.1
    unfold txS
    generalize stS (chS tx n) p zf = T at *
    by_cases c : T.2.1 = true
    · rw [if_pos c] at h1 ⊢
      obtain ⟨l1, l2, -⟩ := g3 c
      have e3 : ts E' T.1 0 125 3 = 0 := ts_st _ _ _
      have e2 : ts E' T.1 0 125 2 = T.1 := ts_at _ _ _
      have e1 : ts E' T.1 0 125 1 = n := by rw [ts_nk (by decide) (by decide)]; exact R'.2.1
      by_cases c2 : T.1 < n
      · rw [if_pos c2]
        obtain ⟨E2, q1, q2⟩ := t_pass F m E' T.1 (k + 1) (by omega) (by omega) R' (by omega) (by omega) g2
        refine ⟨E2, ?_, fun x k a b => (q2 x k a b).trans (h5 x k a b)⟩
        rw [iter_S (t := (J (k + 1), mkH (ts E' T.1 0))) (by simp (disch := first | omega | assumption | decide) only [b_X9_countStatements_8, h1, e3, e2, e1, f_X4_isAtEnd_8, z125_0, z125_1, z125_2, z125_3, z125_4, z125_5, z125_6, z125_7, z125_8, z125_9, z125_10, z125_11, z125_12, z125_13, z127_0, z127_1, SN0, SN1, SN2, SN3, SN4, SN5, SN6, SN7, SN8, SN9, SN10, SN11, SN12, SN13, SN14, SN15, SN16, SN17, SN18, SJ0, SJ1, SJ2, SJ3, SJ4, SJ5, bindS, if_pos, if_neg, w_isWithin, w_isIn, JB_0, JB_1, bz_B, ite10, ite01, Int.natCast_add, csN0, csN1, csN16, Int.toNat_natCast, ite_not, not_true_eq_false, not_false_eq_true])]
        rw [q1]
        congr 3
        show k + 1 + _ = k + ((_ + 1 : Nat) : Int)
        omega
      · rw [if_neg c2]
        refine ⟨E', iter_E (by simp (disch := first | omega | assumption | decide) only [b_X9_countStatements_8, h1, e3, e2, e1, f_X4_isAtEnd_8, z125_0, z125_1, z125_2, z125_3, z125_4, z125_5, z125_6, z125_7, z125_8, z125_9, z125_10, z125_11, z125_12, z125_13, z127_0, z127_1, SN0, SN1, SN2, SN3, SN4, SN5, SN6, SN7, SN8, SN9, SN10, SN11, SN12, SN13, SN14, SN15, SN16, SN17, SN18, SJ0, SJ1, SJ2, SJ3, SJ4, SJ5, bindS, if_pos, if_neg, w_isWithin, w_isIn, JB_0, JB_1, bz_B, ite10, ite01, Int.natCast_add, csN0, csN1, csN16, Int.toNat_natCast, ite_not, not_true_eq_false, not_false_eq_true]), h5⟩
    · rw [if_neg c] at h1 ⊢
      have e3 : ts E' T.1 1 125 3 = 1 := ts_st _ _ _
      refine ⟨E', iter_E (by simp (disch := first | omega | assumption | decide) only [b_X9_countStatements_8, h1, e3, z125_0, z125_1, z125_2, z125_3, z125_4, z125_5, z125_6, z125_7, z125_8, z125_9, z125_10, z125_11, z125_12, z125_13, z127_0, z127_1, SN0, SN1, SN2, SN3, SN4, SN5, SN6, SN7, SN8, SN9, SN10, SN11, SN12, SN13, SN14, SN15, SN16, SN17, SN18, SJ0, SJ1, SJ2, SJ3, SJ4, SJ5, bindS, if_pos, if_neg, w_isWithin, w_isIn, JB_0, JB_1, bz_B, ite10, ite01, Int.natCast_add, csN0, csN1, csN16, Int.toNat_natCast, ite_not, not_true_eq_false, not_false_eq_true]), h5⟩
theorem t_startOn {m : Int} (hb : shR b = some (0, 120)) (m0 : 0 ≤ m) (m1 : m ≤ 120) : f_X4_startOn_8 (mkH d) 125 b (J m) = some (mkH (ts (up (up d 125 0 b) 125 1 m) 0 0)) := by
  have q : ∀ D : Mem, aN (mkH D) b = some (J 120) := fun D => q_aN hb (by decide)
  have e : ∀ D : Mem, up (up D 125 2 0) 125 3 0 = ts D 0 0 := fun D => by
    funext a k
    unfold up ts
    by_cases c : a = 125 ∧ k = 3
    · rw [if_pos c, if_neg (by omega), if_pos c]
    · rw [if_neg c, if_neg c]
  simp (disch := first | omega | assumption | decide) only [f_X4_startOn_8, q, e, z125_0, z125_1, z125_2, z125_3, z125_4, z125_5, z125_6, z125_7, z125_8, z125_9, z125_10, z125_11, z125_12, z125_13, z127_0, z127_1, SN0, SN1, SN2, SN3, SN4, SN5, SN6, SN7, SN8, SN9, SN10, SN11, SN12, SN13, SN14, SN15, SN16, SN17, SN18, SJ0, SJ1, SJ2, SJ3, SJ4, SJ5, bindS, if_pos, if_neg, w_isWithin, w_isIn, JB_0, JB_1, bz_B, ite10, ite01, Int.natCast_add, csN0, csN1, csN16, Int.toNat_natCast, ite_not, not_true_eq_false, not_false_eq_true]
end
