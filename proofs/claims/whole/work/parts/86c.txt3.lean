/-! statements by the model's reader -/
theorem ms_up {d : Mem} {p s v : Int} {a : Nat} {k : Int} (h : ¬ (a = 183 ∧ (k = 12 ∨ k = 25))) : up (ms d p s) a k v = ms (up d a k v) p s := by
  funext x j
  unfold up ms
  by_cases c : x = a ∧ j = k
  · rw [if_pos c, if_neg (by omega), if_neg (by omega)]
    exact (if_pos c).symm
  · rw [if_neg c]
    by_cases c2 : x = 183 ∧ j = 12
    · rw [if_pos c2, if_pos c2]
    · rw [if_neg c2, if_neg c2]
      by_cases c3 : x = 183 ∧ j = 25
      · rw [if_pos c3, if_pos c3]
      · rw [if_neg c3, if_neg c3]
        exact (if_neg c).symm
theorem n1J : ¬ (J 1 = (0 : Int32)) := by decide
theorem nFT : ¬ (false = true) := by decide
theorem up_up (d : Mem) (a : Nat) (k v w : Int) : up (up d a k v) a k w = up d a k w := by
  funext x j
  unfold up
  by_cases c : x = a ∧ j = k
  · rw [if_pos c, if_pos c]
  · rw [if_neg c, if_neg c, if_neg c]
section
variable {d : Mem} {o : Int} {tx : Int → Int} {n : Int}
/-- the frame of the model's text reader -/
def MT (D d : Mem) : Prop := ∀ x k, x ≠ 194 → ¬ (x = 183 ∧ k = 15) → D x k = d x k
theorem MT.t {D D' d : Mem} (h' : MT D' D) (h : MT D d) : MT D' d := fun x k a b => (h' x k a b).trans (h x k a b)
theorem MT_15 {v : Int} : MT (up d 183 15 v) d := fun x k _ h => by unfold up; rw [if_neg h]
theorem MT_194 {i v : Int} : MT (up d 194 i v) d := fun x k h _ => up_na h
theorem MD_fr {D : Mem} (M : MD d 191 o tx n) (h : MT D d) : MD D 191 o tx n := by
  obtain ⟨r0, r1, r2, r3, r4, r5, r6, r7⟩ := M
  refine ⟨by rw [h _ _ (by decide) (by omega)]; exact r0, by rw [h _ _ (by decide) (by omega)]; exact r1, by rw [h _ _ (by decide) (by omega)]; exact r2, r3, r4, r5, r6, fun k h0 h1 => ?_⟩
  rw [h 191 _ (by decide) (by omega)]
  exact r7 k h0 h1
theorem m_dig {x : Int} (x0 : -1000 ≤ x) (x1 : x ≤ 127) : f_X12_isIn (J x).toInt64 (K 48) (K 57) = some (J (B (isDg x = true))) := by
  rw [B_cong (q := 48 ≤ x ∧ x ≤ 57) isDg_iff]
  simp (disch := first | omega | assumption | decide) only [SN0, SN1, SN2, SN3, SN4, SN5, SN6, SN7, SN8, SN9, SN10, SN11, SN12, SN13, SN14, SN15, SN16, SN17, SN18, SJ0, SJ1, SJ2, SJ3, SJ4, SJ5, bindS, if_pos, if_neg, w_isWithin, w_isIn, JB_0, JB_1, bz_B, ite10, ite01, Int.natCast_add, csN0, csN1, csN16, Int.toNat_natCast, ite_not, not_true_eq_false, not_false_eq_true]
theorem g15 (d : Mem) (p s v : Int) : gI (mkH (ms (up d 183 15 v) p s)) 183 11 15 = some (J v) := by
  rw [z183_21, ms_nk (by decide) (by decide), up_same]
theorem p15 (d : Mem) (p s v : Int) : pF (mkH (ms d p s)) 183 11 15 (.int (J v)) = some (mkH (ms (up d 183 15 v) p s)) := by
  rw [z183_22, ms_up (by omega)]
theorem p15b (d : Mem) (p s v w : Int) : pF (mkH (ms (up d 183 15 v) p s)) 183 11 15 (.int (J w)) = some (mkH (ms (up d 183 15 w) p s)) := by
  rw [z183_22, ms_up (by omega), up_up]
theorem m_readsNum {s : Int} (M : MD d 191 o tx n) {p : Int} (p0 : 0 ≤ p) (p1 : p ≤ n) : f_X12_readsNumber (mkH (ms d p s)) 183 = if isDg (chS tx n p) = true then some (J 1, mkH (ms (up d 183 15 (n2V (chS tx n) p)) (n2P (chS tx n) p) s)) else some (J 0, mkH (ms d p s)) := by
  have q := m_sign M (s := s) p0 p1
  obtain ⟨g0, g1, -⟩ := M.sg p0
  have q2 := m_dig g0 g1
  rw [(isDg_sg M p0).1] at q2
  by_cases c : isDg (chS tx n p) = true
  · rw [if_pos c]
    have cd := isDg_iff.mp c
    have hlt := ch_lt (tx := tx) (n := n) (p := p) (by omega)
    have es : sgn tx n p = chS tx n p := by
      unfold sgn chS
      rw [if_pos hlt.2, if_pos hlt]
    rw [es] at q q2
    have M1 : MD (up d 183 15 (chS tx n p - 48)) 191 o tx n := MD_fr M MT_15
    have q3 := m_sign M1 (s := s) (p := p + 1) (by omega) (by omega)
    obtain ⟨h0, h1, -⟩ := M1.sg (p := p + 1) (by omega)
    have q4 := m_dig h0 h1
    rw [(isDg_sg M1 (p := p + 1) (by omega)).1] at q4
    unfold n2V n2P f_X12_readsNumber
    refine bind_eq (isO183 _) (bind_eq q (bind_eq q2 ?_))
    rw [if_neg (by rw [JBt c]; exact fun h => h)]
    refine bind_eq (isO183 _) (bind_eq q ?_)
    rw [J_sub]
    refine bind_eq (p15 _ _ _ _) (bind_eq (g12 _ _ _) ?_)
    rw [J_add]
    refine bind_eq (p12 _ _ _ _) (bind_eq (g15 _ _ _ _) ?_)
    by_cases c0 : chS tx n p = 48
    · rw [if_pos (Or.inl c0), if_pos (Or.inl c0)]
      refine bind_eq (a := mkH (ms (up d 183 15 (chS tx n p - 48)) (p + 1) s)) ?_ rfl
      rw [if_pos (by rw [J_zero, J_le (by omega) (by omega) (by omega) (by omega)]; omega)]
    · have nz : ¬ (J (chS tx n p - 48) ≤ 0) := by
        rw [J_zero, J_le (by omega) (by omega) (by omega) (by omega)]
        omega
      rw [if_neg nz]
      by_cases c1 : isDg (chS tx n (p + 1)) = true
      · have nc : ¬ (chS tx n p = 48 ∨ isDg (chS tx n (p + 1)) = false) := fun h => by
          rcases h with h | h
          · exact c0 h
          · rw [c1] at h; exact Bool.noConfusion h
        have c1' := isDg_iff.mp c1
        have hlt2 := ch_lt (tx := tx) (n := n) (p := p + 1) (by omega)
        have es2 : sgn tx n (p + 1) = chS tx n (p + 1) := by
          unfold sgn chS
          rw [if_pos hlt2.2, if_pos hlt2]
        rw [es2] at q3 q4
        rw [if_neg nc, if_neg nc]
        refine bind_eq (a := mkH (ms (up d 183 15 (10 * (chS tx n p - 48) + chS tx n (p + 1) - 48)) (p + 1 + 1) s)) ?_ (by rw [show p + 1 + 1 = p + 2 by omega])
        refine bind_eq (isO183 _) (bind_eq q3 (bind_eq q4 ?_))
        rw [if_neg (by rw [JBt c1]; exact fun h => h)]
        refine bind_eq (g15 _ _ _ _) (bind_eq (isO183 _) (bind_eq q3 ?_))
        rw [J_mul, J_add, J_sub]
        refine bind_eq (p15b _ _ _ _ _) (bind_eq (g12 _ _ _) ?_)
        rw [J_add]
        exact bind_eq (p12 _ _ _ _) rfl
      · have nc : chS tx n p = 48 ∨ isDg (chS tx n (p + 1)) = false := Or.inr (by cases hq : isDg (chS tx n (p + 1)) <;> simp_all)
        rw [if_pos nc, if_pos nc]
        refine bind_eq (a := mkH (ms (up d 183 15 (chS tx n p - 48)) (p + 1) s)) ?_ rfl
        refine bind_eq (isO183 _) (bind_eq q3 (bind_eq q4 ?_))
        rw [if_pos (by rw [JBf c1]; trivial)]
  · rw [if_neg c]
    unfold f_X12_readsNumber
    refine bind_eq (isO183 _) (bind_eq q (bind_eq q2 ?_))
    rw [if_pos (by rw [JBf c]; trivial)]
theorem sI194 (D : Mem) {k v : Int} (k0 : 0 ≤ k) (k1 : k < 3) : sI (mkH D) 194 (J k) (J v) = some (mkH (up D 194 k v)) := q_sI (len := 3) rfl (by decide) k0 k1
def ItM (r : Option (Hp ⊕ Hp ⊕ Hp)) (ok : Bool) (h : Hp) : Prop := if ok = true then r = some (.inl h) else (r = some (.inr (.inl h)) ∨ r = some (.inr (.inr h)))
theorem m_items {s : Int} {w : Nat} (hw : w ≤ 3) : ∀ (r i m : Nat) (E : Mem) (p : Int), i + r = w → r < m → MD E 191 o tx n → 0 ≤ p → p ≤ n → ∃ E', ItM (iter (b_X12_readsStatement_49 183 (J (w : Int))) m (J (i : Int), mkH (ms E p s))) (itsS (chS tx n) r i p (E 194)).2.1 (mkH (ms E' (itsS (chS tx n) r i p (E 194)).1 s)) ∧ ((itsS (chS tx n) r i p (E 194)).2.1 = true → E' 194 = (itsS (chS tx n) r i p (E 194)).2.2) ∧ MT E' E
  | 0, i, 0, E, p, hi, hm, M, p0, p1 => by omega
  | 0, i, m + 1, E, p, hi, hm, M, p0, p1 => ⟨E, iter_E (by
      unfold b_X12_readsStatement_49
      rw [if_pos (by rw [J_le (by omega) (by omega) (by omega) (by omega)]; omega)]
      rfl), fun _ => rfl, fun _ _ _ _ => rfl⟩
  | r + 1, i, 0, E, p, hi, hm, M, p0, p1 => by omega
  | r + 1, i, m + 1, E, p, hi, hm, M, p0, p1 => by
    have nw : ¬ (J (w : Int) ≤ J (i : Int)) := by rw [J_le (by omega) (by omega) (by omega) (by omega)]; omega
    have step : ∀ v q : Int, (sI (mkH (ms (up E 183 15 v) q s)) 194 (J (i : Int)) (J v)) = some (mkH (ms (up (up E 183 15 v) 194 i v) q s)) := fun v q => by
      rw [sI194 _ (by omega) (by omega), ms_up (by omega)]
    have row : ∀ v : Int, (up (up E 183 15 v) 194 i v) 194 = fun k => if k = (i : Int) then v else E 194 k := fun v => by
      rw [up_self_row]
      funext k
      rw [up_na (by decide)]
    have go : ∀ q : Int, 0 ≤ q → q ≤ n → isDg (chS tx n q) = true → b_X12_readsStatement_49 183 (J (w : Int)) (J (i : Int), mkH (ms E p s)) = some (.inl (J ((i + 1 : Nat) : Int), mkH (ms (up (up E 183 15 (n2V (chS tx n) q)) 194 i (n2V (chS tx n) q)) (n2P (chS tx n) q) s))) → ∃ E', ItM (iter (b_X12_readsStatement_49 183 (J (w : Int))) (m + 1) (J (i : Int), mkH (ms E p s))) (itsS (chS tx n) r (i + 1) (n2P (chS tx n) q) (fun k => if k = (i : Int) then n2V (chS tx n) q else E 194 k)).2.1 (mkH (ms E' (itsS (chS tx n) r (i + 1) (n2P (chS tx n) q) (fun k => if k = (i : Int) then n2V (chS tx n) q else E 194 k)).1 s)) ∧ ((itsS (chS tx n) r (i + 1) (n2P (chS tx n) q) (fun k => if k = (i : Int) then n2V (chS tx n) q else E 194 k)).2.1 = true → E' 194 = (itsS (chS tx n) r (i + 1) (n2P (chS tx n) q) (fun k => if k = (i : Int) then n2V (chS tx n) q else E 194 k)).2.2) ∧ MT E' E := by
      intro q q0 q1 c hb
      obtain ⟨g1, g2, g3, g4⟩ := n2_rng c
      obtain ⟨E', h1, h2, h3⟩ := m_items (s := s) hw r (i + 1) m (up (up E 183 15 (n2V (chS tx n) q)) 194 i (n2V (chS tx n) q)) (n2P (chS tx n) q) (by omega) (by omega) (MD_fr M (MT.t MT_194 MT_15)) (by omega) g2
      rw [row] at h1 h2
      rw [iter_S hb]
      exact ⟨E', h1, h2, h3.t (MT.t MT_194 MT_15)⟩
    unfold itsS
    by_cases i0 : i = 0
    · have c1 : ¬ (i ≠ 0 ∧ chS tx n p ≠ 32) := fun h => h.1 i0
      rw [if_neg c1]
      have es : skS i p = p := if_pos i0
      rw [es]
      have hi0 : J (i : Int) ≤ 0 := by rw [i0]; decide
      have k := m_readsNum (s := s) M p0 p1
      by_cases c : isDg (chS tx n p) = true
      · rw [if_pos c] at k ⊢
        refine go p p0 p1 c ?_
        unfold b_X12_readsStatement_49
        rw [if_neg nw, if_pos hi0]
        refine bind_eq (isO183 _) (bind_eq k ?_)
        rw [if_neg (by first | exact n1J | decide)]
        refine bind_eq (z183_25 _) (bind_eq (g15 _ _ _ _) (bind_eq (step _ _) (bind_eq rfl ?_)))
        rw [J_add]
        rfl
      · rw [if_neg c] at k ⊢
        refine ⟨E, ?_, fun h => Bool.noConfusion (show false = true from h), fun _ _ _ _ => rfl⟩
        refine Or.inr (iter_E ?_)
        unfold b_X12_readsStatement_49
        rw [if_neg nw, if_pos hi0]
        refine bind_eq (isO183 _) (bind_eq k ?_)
        rw [if_pos (by rfl)]
    · have ni : ¬ (J (i : Int) ≤ 0) := by
        rw [J_zero, J_le (by omega) (by omega) (by omega) (by omega)]
        omega
      have t := m_takes M (s := s) p0 p1 (x := 32) (by decide) (by decide)
      by_cases c32 : chS tx n p = 32
      · have c1 : ¬ (i ≠ 0 ∧ chS tx n p ≠ 32) := fun h => h.2 c32
        have hlt := ch_lt (tx := tx) (n := n) (p := p) (by omega)
        rw [if_neg c1]
        rw [if_pos c32] at t
        have es : skS i p = p + 1 := if_neg i0
        rw [es]
        have k := m_readsNum (s := s) M (p := p + 1) (by omega) (by omega)
        by_cases c : isDg (chS tx n (p + 1)) = true
        · rw [if_pos c] at k ⊢
          refine go (p + 1) (by omega) (by omega) c ?_
          unfold b_X12_readsStatement_49
          rw [if_neg nw, if_neg ni]
          refine bind_eq (isO183 _) (bind_eq t ?_)
          rw [if_neg (by first | exact n1J | decide)]
          refine bind_eq (isO183 _) (bind_eq k ?_)
          rw [if_neg (by first | exact n1J | decide)]
          refine bind_eq (z183_25 _) (bind_eq (g15 _ _ _ _) (bind_eq (step _ _) (bind_eq rfl ?_)))
          rw [J_add]
          rfl
        · rw [if_neg c] at k ⊢
          refine ⟨E, ?_, fun h => Bool.noConfusion (show false = true from h), fun _ _ _ _ => rfl⟩
          refine Or.inr (iter_E ?_)
          unfold b_X12_readsStatement_49
          rw [if_neg nw, if_neg ni]
          refine bind_eq (isO183 _) (bind_eq t ?_)
          rw [if_neg (by first | exact n1J | decide)]
          refine bind_eq (isO183 _) (bind_eq k ?_)
          rw [if_pos (by rfl)]
      · rw [if_pos ⟨i0, c32⟩]
        rw [if_neg c32] at t
        refine ⟨E, ?_, fun h => Bool.noConfusion (show false = true from h), fun _ _ _ _ => rfl⟩
        refine Or.inl (iter_E ?_)
        unfold b_X12_readsStatement_49
        rw [if_neg nw, if_neg ni]
        refine bind_eq (isO183 _) (bind_eq t ?_)
        rw [if_pos (by rfl)]
theorem m_stmt {E : Mem} {s : Int} (M : MD E 191 o tx n) {p : Int} (p0 : 0 ≤ p) (p1 : p ≤ n) : ∃ E', f_X12_readsStatement (mkH (ms E p s)) 183 = some (J (B ((stS (chS tx n) p (E 194)).2.1 = true)), mkH (ms E' (stS (chS tx n) p (E 194)).1 s)) ∧ ((stS (chS tx n) p (E 194)).2.1 = true → E' 194 = (stS (chS tx n) p (E 194)).2.2) ∧ MT E' E := by
  have q := m_sign M (s := s) p0 p1
  obtain ⟨g0, g1, g2⟩ := M.sg p0
  have jc : ∀ x : Int, 0 ≤ x → x ≤ 127 → ((J (sgn tx n p) = J x) ↔ chS tx n p = x) := fun x x0 x1 => by
    rw [J_eq (by omega) (by omega) (by omega) (by omega)]
    exact g2 x x0
  have tail : chS tx n p = 103 ∨ chS tx n p = 109 ∨ chS tx n p = 100 → ∃ E', ((iter (b_X12_readsStatement_49 183 (J (wnt (chS tx n p) : Int))) FU (J 0, mkH (ms E (p + 1) s))).bind fun e8 => (match e8 with
      | .inl e9 => (isO e9 183 11).bind fun _ => (f_X12_takes e9 183 (J 59)).bind fun r11 => (bz r11.1).bind fun _ => some (r11.1, r11.2)
      | .inr e15 => (match e15 with
        | .inl e13 => some ((J 0), e13)
        | .inr e14 => some ((J 0), e14)))) = some (J (B ((stS (chS tx n) p (E 194)).2.1 = true)), mkH (ms E' (stS (chS tx n) p (E 194)).1 s)) ∧ ((stS (chS tx n) p (E 194)).2.1 = true → E' 194 = (stS (chS tx n) p (E 194)).2.2) ∧ MT E' E := by
    intro hl
    have hlt := ch_lt (tx := tx) (n := n) (p := p) (by omega)
    have hw : wnt (chS tx n p) ≤ 3 := by unfold wnt; split <;> omega
    obtain ⟨E', h1, h2, h3⟩ := m_items (s := s) hw (wnt (chS tx n p)) 0 FU E (p + 1) (by omega) (by unfold FU; omega) M (by omega) (by omega)
    have h1 : ItM (iter (b_X12_readsStatement_49 183 (J (wnt (chS tx n p) : Int))) FU (J 0, mkH (ms E (p + 1) s))) _ _ := h1
    obtain ⟨o1, o2, -⟩ := its_rng (tx := tx) (n := n) (wnt (chS tx n p)) 0 (p + 1) (E 194) (by omega) (by omega)
    have M3 : MD E' 191 o tx n := MD_fr M h3
    unfold stS
    rw [if_pos hl]
    generalize itsS (chS tx n) (wnt (chS tx n p)) 0 (p + 1) (E 194) = T at *
    unfold ItM at h1
    by_cases c : T.2.1 = true
    · rw [if_pos c] at h1 ⊢
      have t := m_takes M3 (s := s) (p := T.1) (by omega) o2 (x := 59) (by decide) (by decide)
      by_cases c59 : chS tx n T.1 = 59
      · rw [if_pos c59] at t ⊢
        refine ⟨E', bind_eq h1 (bind_eq (isO183 _) (bind_eq t (bind_eq (by rfl) ?_))), fun _ => h2 c, h3⟩
        rw [B_t (by rfl)]
      · rw [if_neg c59] at t ⊢
        refine ⟨E', bind_eq h1 (bind_eq (isO183 _) (bind_eq t (bind_eq (by rfl) ?_))), fun h => Bool.noConfusion (show false = true from h), h3⟩
        rw [B_f (by first | exact nFT | decide)]
    · rw [if_neg c] at h1 ⊢
      rw [B_f (show ¬ ((T.1, false, E 194) : Int × Bool × (Int → Int)).2.1 = true from nFT)]
      refine ⟨E', ?_, fun h => Bool.noConfusion (show false = true from h), h3⟩
      rcases h1 with h1 | h1
      · exact bind_eq h1 rfl
      · exact bind_eq h1 rfl
  by_cases k103 : chS tx n p = 103
  · obtain ⟨E', t1, t2⟩ := tail (by omega)
    refine ⟨E', ?_, t2⟩
    have e : wnt (chS tx n p) = 3 := by rw [k103]; rfl
    rw [e] at t1
    refine bind_eq (isO183 _) (bind_eq q ?_)
    rw [if_pos ((jc 103 (by decide) (by decide)).mpr k103)]
    refine bind_eq (g12 _ _ _) ?_
    rw [J_add]
    refine bind_eq (p12 _ _ _ _) (bind_eq (a := J 3) ?_ (bind_eq rfl t1))
    rw [if_neg (fun h => by have := (jc 109 (by decide) (by decide)).mp h; omega)]
  by_cases k109 : chS tx n p = 109
  · obtain ⟨E', t1, t2⟩ := tail (by omega)
    refine ⟨E', ?_, t2⟩
    have e : wnt (chS tx n p) = 2 := by rw [k109]; rfl
    rw [e] at t1
    refine bind_eq (isO183 _) (bind_eq q ?_)
    rw [if_neg (fun h => k103 ((jc 103 (by decide) (by decide)).mp h)), if_pos ((jc 109 (by decide) (by decide)).mpr k109)]
    refine bind_eq (g12 _ _ _) ?_
    rw [J_add]
    refine bind_eq (p12 _ _ _ _) (bind_eq (a := J 2) ?_ (bind_eq rfl t1))
    rw [if_pos ((jc 109 (by decide) (by decide)).mpr k109)]
  by_cases k100 : chS tx n p = 100
  · obtain ⟨E', t1, t2⟩ := tail (by omega)
    refine ⟨E', ?_, t2⟩
    have e : wnt (chS tx n p) = 3 := by rw [k100]; rfl
    rw [e] at t1
    refine bind_eq (isO183 _) (bind_eq q ?_)
    rw [if_neg (fun h => k103 ((jc 103 (by decide) (by decide)).mp h)), if_neg (fun h => k109 ((jc 109 (by decide) (by decide)).mp h)), if_pos ((jc 100 (by decide) (by decide)).mpr k100)]
    refine bind_eq (g12 _ _ _) ?_
    rw [J_add]
    refine bind_eq (p12 _ _ _ _) (bind_eq (a := J 3) ?_ (bind_eq rfl t1))
    rw [if_neg (fun h => k109 ((jc 109 (by decide) (by decide)).mp h))]
  · have es : stS (chS tx n) p (E 194) = (p, false, E 194) := if_neg (by omega)
    rw [es]
    refine ⟨E, ?_, fun h => Bool.noConfusion (show false = true from h), fun _ _ _ _ => rfl⟩
    refine bind_eq (isO183 _) (bind_eq q ?_)
    rw [if_neg (fun h => k103 ((jc 103 (by decide) (by decide)).mp h)), if_neg (fun h => k109 ((jc 109 (by decide) (by decide)).mp h)), if_neg (fun h => k100 ((jc 100 (by decide) (by decide)).mp h)), B_f (by first | exact nFT | decide)]
theorem m_pass {s : Int} : ∀ (F m : Nat) (E : Mem) (p : Int), n - p < F → F ≤ m → MD E 191 o tx n → 0 ≤ p → p ≤ n → ∃ E', iter (b_X12_text_18 183) m (mkH (ms E p s)) = some (if (txS (chS tx n) n F p).2.1 = true then .inr (mkH (ms E' (txS (chS tx n) n F p).1 s)) else .inl (mkH (ms E' (txS (chS tx n) n F p).1 s))) ∧ MT E' E
  | 0, m, E, p, hF, hm, M, p0, p1 => by omega
  | F + 1, 0, E, p, hF, hm, M, p0, p1 => by omega
  | F + 1, m + 1, E, p, hF, hm, M, p0, p1 => by
    obtain ⟨E', h1, -, h5⟩ := m_stmt (s := s) M p0 p1
    obtain ⟨i1, i2, -⟩ := st_ind (c := chS tx n) (p := p) (E 194) zf
    obtain ⟨g1, g2, g3⟩ := st_rng (tx := tx) (n := n) (p := p) (f := zf) p0 p1
    rw [i1, i2] at h1
    have M' : MD E' 191 o tx n := MD_fr M h5
    have hn := M.2.2.2.2.1
    unfold txS
    generalize stS (chS tx n) p zf = T at *
    have x14 : gI (mkH (ms E' T.1 s)) 183 11 14 = some (J n) := by
      rw [z183_19, ms_nk (by decide) (by decide), M'.2.2.1]
    by_cases c : T.2.1 = true
    · rw [if_pos c]
      rw [B_t c] at h1
      obtain ⟨l1, l2, -⟩ := g3 c
      by_cases c2 : T.1 < n
      · rw [if_pos c2]
        obtain ⟨E2, q1, q2⟩ := m_pass (s := s) F m E' T.1 (by omega) (by omega) M' (by omega) g2
        refine ⟨E2, ?_, q2.t h5⟩
        rw [iter_S (t := mkH (ms E' T.1 s)) ?_]
        · exact q1
        · unfold b_X12_text_18
          refine bind_eq (isO183 _) (bind_eq h1 ?_)
          rw [if_neg (by first | exact n1J | decide)]
          refine bind_eq (g12 _ _ _) (bind_eq x14 ?_)
          rw [if_pos (by rw [J_lt (by omega) (by omega) (by omega) (by omega)]; exact c2)]
      · rw [if_neg c2]
        refine ⟨E', iter_E ?_, h5⟩
        unfold b_X12_text_18
        refine bind_eq (isO183 _) (bind_eq h1 ?_)
        rw [if_neg (by first | exact n1J | decide)]
        refine bind_eq (g12 _ _ _) (bind_eq x14 ?_)
        rw [if_neg (by rw [J_lt (by omega) (by omega) (by omega) (by omega)]; exact c2)]
        rfl
    · rw [if_neg c]
      rw [B_f c] at h1
      refine ⟨E', iter_E ?_, h5⟩
      unfold b_X12_text_18
      refine bind_eq (isO183 _) (bind_eq h1 ?_)
      rw [if_pos (by rfl)]
      rfl
end
