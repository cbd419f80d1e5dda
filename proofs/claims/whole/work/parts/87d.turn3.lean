/-! turning by the reference (183: part 195, above 196, below 197, stands 198) -/
section
variable {d : Mem}
/-- a mesh of the reference, its gears' data -/
theorem mg_of (P : PL d 1 3 4 5 185) {D : Mem} (h : D 185 = d 185) {m s : Int} (m0 : 0 ≤ m) (m1 : m < d 185 1741) (hs : s = 0 ∨ s = 1) : f_X12_meshOf (mkH D) 183 (J m) (J s) = some (J (d 185 (228 + 3 * m + s))) ∧ f_X12_shaft (mkH D) 183 (J (d 185 (228 + 3 * m + s))) = some (J (eS (d 185) m s)) ∧ f_X12_teeth (mkH D) 183 (J (d 185 (228 + 3 * m + s))) = some (J (eT (d 185) m s)) ∧ f_X12_kind (mkH D) 183 (J (d 185 (228 + 3 * m + s))) = some (J (d 185 (19 * d 185 (228 + 3 * m + s)))) ∧ 0 ≤ d 185 (19 * d 185 (228 + 3 * m + s)) ∧ d 185 (19 * d 185 (228 + 3 * m + s)) ≤ 4 := by
  obtain ⟨-, -, -, -, k0, k1, -, -, i0, i1⟩ := ge_of P m0 m1 hs
  obtain ⟨-, -, -, -, -, p6, -⟩ := P
  have e1 := m_meshOf (d := D) (m := m) (k := s) m0 (by omega) (by omega) (by omega)
  have e2 := m_shaft (d := D) (i := d 185 (228 + 3 * m + s)) i0 i1
  have e3 := m_teeth (d := D) (i := d 185 (228 + 3 * m + s)) i0 i1
  have e4 := m_kind (d := D) (i := d 185 (228 + 3 * m + s)) i0 i1
  unfold mm at e1
  rw [h] at e1 e2 e3 e4
  exact ⟨e1, e2, e3, e4, k0, k1⟩
theorem m_follows (P : PL d 1 3 4 5 185) {D : Mem} (h : D 185 = d 185) {m s : Int} (m0 : 0 ≤ m) (m1 : m < d 185 1741) (hs : s = 0 ∨ s = 1) {e : Int × Int × Int} (v4 : 0 < e.2.2) (v5 : e.2.2.natAbs ≤ 99 ^ 8) (v6 : e.2.1.natAbs ≤ 99 ^ 8) (h3 : D 196 (eS (d 185) m s) = e.2.1) (h4 : D 197 (eS (d 185) m s) = e.2.2) : f_X12_follows (mkH D) 183 (J (eS (d 185) m s)) (J (d 185 (228 + 3 * m + s))) (J (d 185 (228 + 3 * m + (1 - s)))) = some (mkH (up (up D 183 22 (nxt (d 185) m s e).2.1) 183 23 (nxt (d 185) m s e).2.2)) := by
  have E := ev_of P
  obtain ⟨-, -, ta, ka, ka0, ka1⟩ := mg_of P h m0 m1 hs
  obtain ⟨-, -, tb, kb, kb0, kb1⟩ := mg_of P h (s := 1 - s) m0 m1 (by omega)
  obtain ⟨sa0, sa1, ta0, ta1⟩ := E m s m0 m1 hs
  obtain ⟨-, -, tb0, tb1⟩ := E m (1 - s) m0 m1 (by omega)
  obtain ⟨q0, q1, q2, q3, q4, q5, q6⟩ := nx_rng E m0 m1 hs v4 v5 v6
  have esg := eG_sd (w := d 185) (m := m) hs
  have hv := v98
  obtain ⟨p, hp⟩ : ∃ p, p = nxP (d 185) m s e.2.1 := ⟨_, rfl⟩
  obtain ⟨q, hq⟩ : ∃ q, q = nxQ (d 185) m s e.2.2 := ⟨_, rfl⟩
  have n1 : (nxt (d 185) m s e).2.1 = p / (Nat.gcd p.natAbs q.natAbs : Int) := by rw [hp, hq]; rfl
  have n2 : (nxt (d 185) m s e).2.2 = q / (Nat.gcd p.natAbs q.natAbs : Int) := by rw [hp, hq]; rfl
  have ep : e.2.1 * eT (d 185) m s * eG (d 185) m = p := hp.symm
  have eq : e.2.2 * eT (d 185) m (1 - s) = q := hq.symm
  rw [n1, n2]
  rw [← hp] at q2
  rw [← hq] at q0 q1
  generalize eT (d 185) m s = Ta at *
  generalize eT (d 185) m (1 - s) = Tb at *
  generalize eS (d 185) m s = Sa at *
  generalize eG (d 185) m = sg at *
  have l3 : aL (mkH D) 196 (J Sa) = some (K e.2.1) := by rw [z196_0 D _ sa0 sa1, h3]
  have l4 : aL (mkH D) 197 (J Sa) = some (K e.2.2) := by rw [z197_0 D _ sa0 sa1, h4]
  have G := m_gcd (a := p) (b := q.natAbs) (by omega) (by omega) (by omega)
  have qn : ((q.natAbs : Nat) : Int) = q := by omega
  rw [qn] at G
  obtain ⟨g, P', Q', g0, eg, fp, fq, -, -, Q0, -⟩ := nx_fac (p := p) q0
  have gq : g ≤ q := by
    have k := Int.mul_le_mul_of_nonneg_left (show (1 : Int) ≤ Q' by omega) (show (0 : Int) ≤ g by omega)
    rw [Int.mul_one] at k
    omega
  rw [← eg] at G ⊢
  have dp : g ∣ p := ⟨P', fp⟩
  have dq : g ∣ q := ⟨Q', fq⟩
  have nz := nzL_K (b := g) (by omega) (by omega) (by omega)
  have ja : (J (d 185 (19 * d 185 (228 + 3 * m + s))) = J 4) ↔ d 185 (19 * d 185 (228 + 3 * m + s)) = 4 := J_eq (by omega) (by omega) (by omega) (by omega)
  have jb : (J (d 185 (19 * d 185 (228 + 3 * m + (1 - s)))) = J 4) ↔ d 185 (19 * d 185 (228 + 3 * m + (1 - s))) = 4 := J_eq (by omega) (by omega) (by omega) (by omega)
  have j3 : (if J (d 185 (19 * d 185 (228 + 3 * m + s))) = (J 4) then
    some (K 1)
  else
    (isO (mkH D) 183 11).bind fun _ =>
    (f_X12_kind (mkH D) 183 (J (d 185 (228 + 3 * m + (1 - s))))).bind fun r5 =>
    (if r5 = (J 4) then
      some (K 1)
    else
      some (K (-1)))) = some (K sg) := by
    by_cases c1 : d 185 (19 * d 185 (228 + 3 * m + s)) = 4
    · rw [if_pos (Or.inl c1)] at esg
      rw [if_pos (ja.mpr c1), esg]
    · rw [if_neg (fun h => c1 (ja.mp h))]
      refine bind_eq (isO183 _) (bind_eq kb ?_)
      by_cases c2 : d 185 (19 * d 185 (228 + 3 * m + (1 - s))) = 4
      · rw [if_pos (Or.inr c2)] at esg
        rw [if_pos (jb.mpr c2), esg]
      · rw [if_neg (fun h => by rcases h with h | h; exact c1 h; exact c2 h)] at esg
        rw [if_neg (fun h => c2 (jb.mp h)), esg]
  unfold f_X12_follows
  refine bind_eq (isO183 _) (bind_eq ka (bind_eq j3 (bind_eq (z183_27 D) (bind_eq l3 (bind_eq (isO183 _) (bind_eq ta ?_))))))
  rw [J_64 (by omega) (by omega), K_mul, K_mul, ep]
  refine bind_eq rfl (bind_eq (z183_28 D) (bind_eq l4 (bind_eq (isO183 _) (bind_eq tb ?_))))
  rw [J_64 (by omega) (by omega), K_mul, eq]
  refine bind_eq rfl (bind_eq G (bind_eq nz ?_))
  rw [K_ddiv dp (by omega) (by omega) g0 (by omega)]
  refine bind_eq (z183_31 D _) (bind_eq nz ?_)
  rw [K_ddiv dq (by omega) (by omega) g0 (by omega)]
  exact bind_eq (z183_33 _ _) rfl
/-- what one directed edge does to the flags -/
def FLG (w : Int → Int) (r m s : Int) (σ : TS) (D D' : Mem) : Prop := (∀ j, j ≠ r → D' 198 j = D 198 j) ∧ (D 198 r = 1 → D' 198 r = 1) ∧ (D' 198 r = 0 ∨ D' 198 r = 1) ∧ (D' 198 r = 1 → D 198 r = 1 ∨ (rtS σ (eS w m s) = r ∧ misD w σ m s = true)) ∧ (drvS w m s σ = σ → rtS σ (eS w m s) = r → misD w σ m s = true → D' 198 r = 1)
theorem m_edge (P : PL d 1 3 4 5 185) {D : Mem} (h : D 185 = d 185) {m s r : Int} (m0 : 0 ≤ m) (m1 : m < d 185 1741) (hs : s = 0 ∨ s = 1) (r0 : 0 ≤ r) (r1 : r < 8) {σ : TS} (V : VAL σ r) (C : ∀ e, σ (eS (d 185) m s) = some e → e.1 ≠ r → σ (eS (d 185) m (1 - s)) ≠ none) (T : TRw D 195 196 197 σ) (h198 : D 198 r = 0 ∨ D 198 r = 1) (mo : Int) : ∃ D' mo', b_X12_goes_46 183 (J r) (J m) (J mo, J s, mkH D) = some (.inl (J mo', J (s + 1), mkH D')) ∧ TRw D' 195 196 197 (drvS (d 185) m s σ) ∧ (drvS (d 185) m s σ = σ → mo' = mo) ∧ (drvS (d 185) m s σ ≠ σ → mo' = 1) ∧ FLG (d 185) r m s σ D D' ∧ (∀ x k, x ≠ 195 → x ≠ 196 → x ≠ 197 → x ≠ 198 → ¬ (x = 183 ∧ k ≠ 10) → D' x k = D x k) := by
  have E := ev_of P
  obtain ⟨oa, sha, -, -, -, -⟩ := mg_of P h m0 m1 hs
  obtain ⟨ob, -, -, -, -, -⟩ := mg_of P h (s := 1 - s) m0 m1 (by omega)
  obtain ⟨sa0, sa1, -⟩ := E m s m0 m1 hs
  obtain ⟨sb0, sb1, -⟩ := E m (1 - s) m0 m1 (by omega)
  obtain ⟨Ta0, Ta⟩ := T _ sa0 sa1
  obtain ⟨Tb0, Tb⟩ := T _ sb0 sb1
  have j1 : J 1 - J s = J (1 - s) := J_sub _ _
  have l1 := z195_0 D _ sa0 sa1
  -- a known one of this root
  have pre : ∀ {Y : Option ((Int32 × Int32 × Hp) ⊕ (Int32 × Hp))}, ((if J (D 195 (eS (d 185) m s)) = J r then
      (isO (mkH D) 183 11).bind fun _ =>
      (f_X12_shaft (mkH D) 183 (J (d 185 (228 + 3 * m + s)))).bind fun r11 =>
      (isO (mkH D) 183 11).bind fun _ =>
      (f_X12_follows (mkH D) 183 r11 (J (d 185 (228 + 3 * m + s))) (J (d 185 (228 + 3 * m + (1 - s))))).bind fun r13 =>
      (isO r13 183 11).bind fun _ =>
      (f_X12_shaft r13 183 (J (d 185 (228 + 3 * m + (1 - s))))).bind fun r15 =>
      (gR r13 183 11 18).bind fun x16 =>
      (aI r13 x16 r15).bind fun x17 =>
      (if 0 ≤ x17 then
        (gR r13 183 11 19).bind fun x18 =>
        (aL r13 x18 r15).bind fun x19 =>
        (gL r13 183 11 22).bind fun x20 =>
        (if (lg_cmp x19 x20) = 0 then
          (gR r13 183 11 20).bind fun x23 =>
          (aL r13 x23 r15).bind fun x24 =>
          (gL r13 183 11 23).bind fun x25 =>
          (if (lg_cmp x24 x25) = 0 then
            some (J mo, r13)
          else
            (gR r13 183 11 21).bind fun x26 =>
            (sZ r13 x26 (J r) (J 1)).bind fun h27 =>
            some (J mo, h27))
        else
          (gR r13 183 11 21).bind fun x21 =>
          (sZ r13 x21 (J r) (J 1)).bind fun h22 =>
          some (J mo, h22))
      else
        (gR r13 183 11 18).bind fun x30 =>
        (sI r13 x30 r15 (J r)).bind fun h31 =>
        (gR h31 183 11 19).bind fun x32 =>
        (gL h31 183 11 22).bind fun x33 =>
        (sL h31 x32 r15 x33).bind fun h34 =>
        (gR h34 183 11 20).bind fun x35 =>
        (gL h34 183 11 23).bind fun x36 =>
        (sL h34 x35 r15 x36).bind fun h37 =>
        (some (J 1)).bind fun x38 =>
        some (x38, h37))
    else
      some (J mo, mkH D)).bind fun (j9 : Int32 × Hp) =>
    (some (J s + (J 1))).bind fun x41 =>
    some (.inl (j9.1, x41, j9.2))) = Y → b_X12_goes_46 183 (J r) (J m) (J mo, J s, mkH D) = Y := by
    intro Y hY
    unfold b_X12_goes_46
    rw [if_neg (by rw [J_le (by omega) (by omega) (by omega) (by omega)]; omega)]
    refine bind_eq (isO183 _) (bind_eq oa (bind_eq (isO183 _) ?_))
    rw [j1]
    exact bind_eq ob (bind_eq (z183_26 D) (bind_eq (isO183 _) (bind_eq sha (bind_eq l1 hY))))
  have skip : drvS (d 185) m s σ = σ → ¬ rtS σ (eS (d 185) m s) = r → J (D 195 (eS (d 185) m s)) ≠ J r → ∃ D' mo', b_X12_goes_46 183 (J r) (J m) (J mo, J s, mkH D) = some (.inl (J mo', J (s + 1), mkH D')) ∧ TRw D' 195 196 197 (drvS (d 185) m s σ) ∧ (drvS (d 185) m s σ = σ → mo' = mo) ∧ (drvS (d 185) m s σ ≠ σ → mo' = 1) ∧ FLG (d 185) r m s σ D D' ∧ (∀ x k, x ≠ 195 → x ≠ 196 → x ≠ 197 → x ≠ 198 → ¬ (x = 183 ∧ k ≠ 10) → D' x k = D x k) := fun hd hr hj => by
    refine ⟨D, mo, pre ?_, by rw [hd]; exact T, fun _ => rfl, fun c => absurd hd c, ⟨fun _ _ => rfl, fun c => c, h198, fun c => Or.inl c, fun _ c _ => absurd c hr⟩, fun _ _ _ _ _ _ _ => rfl⟩
    rw [if_neg hj]
    refine bind_eq (a := (J mo, mkH D)) rfl (bind_eq rfl ?_)
    rw [J_add]
  cases ha : σ (eS (d 185) m s) with
  | none =>
    refine skip ?_ ?_ ?_
    · unfold drvS
      rw [ha]
    · unfold rtS
      rw [ha]
      show ¬ (-1 : Int) = r
      omega
    · rw [Ta0 ha]
      exact fun c => by rw [J_eq (by omega) (by omega) (by omega) (by omega)] at c; omega
  | some e =>
    obtain ⟨v1, v2, v4, v5, v6⟩ := val_b V sa0 sa1 ha
    obtain ⟨t1, t2, t3⟩ := Ta e ha
    by_cases er : e.1 = r
    · have F := m_follows P h m0 m1 hs v4 v5 v6 t2 t3
      obtain ⟨-, -, -, n1, n2, n3, -⟩ := nx_rng E m0 m1 hs v4 v5 v6
      have hv := v98
      obtain ⟨D1, hD1⟩ : ∃ D1, D1 = up (up D 183 22 (nxt (d 185) m s e).2.1) 183 23 (nxt (d 185) m s e).2.2 := ⟨_, rfl⟩
      rw [← hD1] at F
      have x1 : ∀ x, x ≠ 183 → D1 x = D x := fun x hx => by rw [hD1, up_row hx, up_row hx]
      have x183 : ∀ k, k ≠ 22 → k ≠ 23 → D1 183 k = D 183 k := fun k a b => by rw [hD1, up_nk b, up_nk a]
      have k22 : D1 183 22 = (nxt (d 185) m s e).2.1 := by rw [hD1, up_nk (by decide), up_same]
      have k23 : D1 183 23 = (nxt (d 185) m s e).2.2 := by rw [hD1, up_same]
      obtain ⟨-, shb, -, -, -, -⟩ := mg_of P (D := D1) (by rw [x1 185 (by decide), h]) (s := 1 - s) m0 m1 (by omega)
      have l2 : aI (mkH D1) 195 (J (eS (d 185) m (1 - s))) = some (J (D 195 (eS (d 185) m (1 - s)))) := by rw [z195_0 D1 _ sb0 sb1, x1 195 (by decide)]
      have jr : J (D 195 (eS (d 185) m s)) = J r := by rw [t1, er]
      have rt : rtS σ (eS (d 185) m s) = r := by
        unfold rtS
        rw [ha]
        exact er
      cases hb : σ (eS (d 185) m (1 - s)) with
      | none =>
        have hd : drvS (d 185) m s σ = upT σ (eS (d 185) m (1 - s)) (nxt (d 185) m s e) := by
          unfold drvS
          rw [ha, hb]
        have hne : drvS (d 185) m s σ ≠ σ := by
          rw [hd]
          exact up_ne hb
        obtain ⟨D2, hD2⟩ : ∃ D2, D2 = up D1 195 (eS (d 185) m (1 - s)) r := ⟨_, rfl⟩
        obtain ⟨D3, hD3⟩ : ∃ D3, D3 = up D2 196 (eS (d 185) m (1 - s)) (nxt (d 185) m s e).2.1 := ⟨_, rfl⟩
        obtain ⟨D4, hD4⟩ : ∃ D4, D4 = up D3 197 (eS (d 185) m (1 - s)) (nxt (d 185) m s e).2.2 := ⟨_, rfl⟩
        have y198 : D4 198 = D 198 := by rw [hD4, up_row (by decide), hD3, up_row (by decide), hD2, up_row (by decide), x1 198 (by decide)]
        have nomis : misD (d 185) σ m s = false := by
          unfold misD
          rw [ha, hb]
        refine ⟨D4, 1, pre ?_, ?_, fun c => absurd c hne, fun _ => rfl, ⟨fun j _ => by rw [y198], fun c => by rw [y198]; exact c, by rw [y198]; exact h198, fun c => Or.inl (by rw [y198] at c; exact c), fun c => absurd c hne⟩, fun x k a b c e' f => ?_⟩
        · rw [if_pos jr]
          refine bind_eq (a := (J 1, mkH D4)) ?_ (bind_eq rfl (by rw [J_add]))
          refine bind_eq (isO183 _) (bind_eq sha (bind_eq (isO183 _) (bind_eq F (bind_eq (isO183 _) (bind_eq shb (bind_eq (z183_26 D1) (bind_eq l2 ?_)))))))
          rw [Tb0 hb, if_neg (by decide)]
          refine bind_eq (z183_26 D1) (bind_eq (z195_1 D1 _ _ sb0 sb1) ?_)
          rw [← hD2]
          refine bind_eq (z183_27 D2) (bind_eq (z183_30 D2) ?_)
          rw [hD2, up_na (by decide), k22, ← hD2]
          refine bind_eq (z196_1 D2 _ _ sb0 sb1) ?_
          rw [← hD3]
          refine bind_eq (z183_28 D3) (bind_eq (z183_32 D3) ?_)
          rw [hD3, up_na (by decide), hD2, up_na (by decide), k23, ← hD2, ← hD3]
          refine bind_eq (z197_1 D3 _ _ sb0 sb1) ?_
          rw [← hD4]
          rfl
        · rw [hd]
          have e1 : (nxt (d 185) m s e).1 = r := er
          refine TRw_up (D := D) ?_ ?_ ?_ T
          · rw [hD4, up_row (by decide), hD3, up_row (by decide), hD2, e1]
            funext k
            unfold up
            split
            · rfl
            · rw [x1 195 (by decide)]
          · rw [hD4, up_row (by decide), hD3]
            funext k
            unfold up
            split
            · rfl
            · rw [hD2, up_na (by decide), x1 196 (by decide)]
          · rw [hD4]
            funext k
            unfold up
            split
            · rfl
            · rw [hD3, up_na (by decide), hD2, up_na (by decide), x1 197 (by decide)]
        · rw [hD4, up_na c, hD3, up_na b, hD2, up_na a]
          by_cases x183' : x = 183
          · rw [x183', x183 k (by omega) (by omega)]
          · rw [x1 x x183']
      | some e' =>
        obtain ⟨u1, u2, u4, u5, u6⟩ := val_b V sb0 sb1 hb
        obtain ⟨w1, w2, w3⟩ := Tb e' hb
        have hd : drvS (d 185) m s σ = σ := by
          unfold drvS
          rw [ha, hb]
        have em : misD (d 185) σ m s = !(decide (e'.2.1 = (nxt (d 185) m s e).2.1 ∧ e'.2.2 = (nxt (d 185) m s e).2.2)) := by
          unfold misD
          rw [ha, hb]
        have l5 : aL (mkH D1) 196 (J (eS (d 185) m (1 - s))) = some (K e'.2.1) := by rw [z196_0 D1 _ sb0 sb1, x1 196 (by decide), w2]
        have l6 : aL (mkH D1) 197 (J (eS (d 185) m (1 - s))) = some (K e'.2.2) := by rw [z197_0 D1 _ sb0 sb1, x1 197 (by decide), w3]
        have k1 : lg_cmp (K e'.2.1) (K (nxt (d 185) m s e).2.1) = 0 ↔ e'.2.1 = (nxt (d 185) m s e).2.1 := by
          have := lg_eq (K e'.2.1) (K (nxt (d 185) m s e).2.1)
          rw [K_eq (by omega) (by omega) (by omega) (by omega)] at this
          exact this
        have k2 : lg_cmp (K e'.2.2) (K (nxt (d 185) m s e).2.2) = 0 ↔ e'.2.2 = (nxt (d 185) m s e).2.2 := by
          have := lg_eq (K e'.2.2) (K (nxt (d 185) m s e).2.2)
          rw [K_eq (by omega) (by omega) (by omega) (by omega)] at this
          exact this
        have fin : ∀ D', (D' = D1 ∧ misD (d 185) σ m s = false ∨ D' = up D1 198 r 1 ∧ misD (d 185) σ m s = true) → TRw D' 195 196 197 (drvS (d 185) m s σ) ∧ (drvS (d 185) m s σ = σ → mo = mo) ∧ (drvS (d 185) m s σ ≠ σ → mo = 1) ∧ FLG (d 185) r m s σ D D' ∧ (∀ x k, x ≠ 195 → x ≠ 196 → x ≠ 197 → x ≠ 198 → ¬ (x = 183 ∧ k ≠ 10) → D' x k = D x k) := fun D' hD' => by
          have rows : ∀ x, x ≠ 198 → D' x = D1 x := fun x hx => by
            rcases hD' with ⟨q, -⟩ | ⟨q, -⟩
            · rw [q]
            · rw [q, up_row hx]
          refine ⟨by rw [hd]; exact TRw_row ((rows _ (by decide)).trans (x1 _ (by decide))) ((rows _ (by decide)).trans (x1 _ (by decide))) ((rows _ (by decide)).trans (x1 _ (by decide))) T, fun _ => rfl, fun c => absurd hd c, ?_, fun x k a b c e'' f => ?_⟩
          · rcases hD' with ⟨q, q2⟩ | ⟨q, q2⟩
            · have y : D' 198 = D 198 := by rw [q, x1 198 (by decide)]
              exact ⟨fun j _ => by rw [y], fun c => by rw [y]; exact c, by rw [y]; exact h198, fun c => Or.inl (by rw [y] at c; exact c), fun _ _ c => by rw [q2] at c; exact Bool.noConfusion c⟩
            · have y : D' 198 r = 1 := by rw [q, up_same]
              exact ⟨fun j hj => by rw [q, up_nk hj, x1 198 (by decide)], fun _ => y, Or.inr y, fun _ => Or.inr ⟨rt, q2⟩, fun _ _ _ => y⟩
          · rw [rows x e'']
            by_cases x183' : x = 183
            · rw [x183', x183 k (by omega) (by omega)]
            · rw [x1 x x183']
        have go : ∀ {D'}, ((gR (mkH D1) 183 11 19).bind fun x18 =>
        (aL (mkH D1) x18 (J (eS (d 185) m (1 - s)))).bind fun x19 =>
        (gL (mkH D1) 183 11 22).bind fun x20 =>
        (if (lg_cmp x19 x20) = 0 then
          (gR (mkH D1) 183 11 20).bind fun x23 =>
          (aL (mkH D1) x23 (J (eS (d 185) m (1 - s)))).bind fun x24 =>
          (gL (mkH D1) 183 11 23).bind fun x25 =>
          (if (lg_cmp x24 x25) = 0 then
            some (J mo, mkH D1)
          else
            (gR (mkH D1) 183 11 21).bind fun x26 =>
            (sZ (mkH D1) x26 (J r) (J 1)).bind fun h27 =>
            some (J mo, h27))
        else
          (gR (mkH D1) 183 11 21).bind fun x21 =>
          (sZ (mkH D1) x21 (J r) (J 1)).bind fun h22 =>
          some (J mo, h22))) = some (J mo, mkH D') → b_X12_goes_46 183 (J r) (J m) (J mo, J s, mkH D) = some (.inl (J mo, J (s + 1), mkH D')) := by
          intro D' hY
          refine pre ?_
          rw [if_pos jr]
          refine bind_eq (a := (J mo, mkH D')) ?_ (bind_eq rfl (by rw [J_add]))
          refine bind_eq (isO183 _) (bind_eq sha (bind_eq (isO183 _) (bind_eq F (bind_eq (isO183 _) (bind_eq shb (bind_eq (z183_26 D1) (bind_eq l2 ?_)))))))
          rw [w1, if_pos (by rw [J_zero, J_le (by omega) (by omega) (by omega) (by omega)]; omega)]
          exact hY
        by_cases c1 : e'.2.1 = (nxt (d 185) m s e).2.1
        · by_cases c2 : e'.2.2 = (nxt (d 185) m s e).2.2
          · refine ⟨D1, mo, go ?_, fin D1 (Or.inl ⟨rfl, by rw [em]; simp [c1, c2]⟩)⟩
            refine bind_eq (z183_27 D1) (bind_eq l5 (bind_eq (z183_30 D1) ?_))
            rw [k22, if_pos (k1.mpr c1)]
            refine bind_eq (z183_28 D1) (bind_eq l6 (bind_eq (z183_32 D1) ?_))
            rw [k23, if_pos (k2.mpr c2)]
          · refine ⟨up D1 198 r 1, mo, go ?_, fin _ (Or.inr ⟨rfl, by rw [em]; simp [c2]⟩)⟩
            refine bind_eq (z183_27 D1) (bind_eq l5 (bind_eq (z183_30 D1) ?_))
            rw [k22, if_pos (k1.mpr c1)]
            refine bind_eq (z183_28 D1) (bind_eq l6 (bind_eq (z183_32 D1) ?_))
            rw [k23, if_neg (fun c => c2 (k2.mp c))]
            exact bind_eq (z183_29 D1) (bind_eq (z198_2 D1 _ r0 r1) rfl)
        · refine ⟨up D1 198 r 1, mo, go ?_, fin _ (Or.inr ⟨rfl, by rw [em]; simp [c1]⟩)⟩
          refine bind_eq (z183_27 D1) (bind_eq l5 (bind_eq (z183_30 D1) ?_))
          rw [k22, if_neg (fun c => c1 (k1.mp c))]
          exact bind_eq (z183_29 D1) (bind_eq (z198_2 D1 _ r0 r1) rfl)
    · refine skip ?_ ?_ ?_
      · unfold drvS
        rw [ha]
        cases hb : σ (eS (d 185) m (1 - s)) with
        | none => exact absurd hb (C e ha er)
        | some e' => rfl
      · unfold rtS
        rw [ha]
        exact er
      · rw [t1]
        exact fun c => by
          rw [J_eq (by omega) (by omega) (by omega) (by omega)] at c
          exact er c
end
