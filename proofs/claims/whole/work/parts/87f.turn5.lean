/-! locked, speed, count -/
section
variable {d : Mem}
theorem turn_both (I : INV d) : ∃ (d1 d2 : Mem) (R U V S : Int → Int), f_X10_solve (mkH d) 131 1 = some (mkH d1) ∧ f_X12_turns (mkH d1) 183 = some (mkH d2) ∧ INV d2 ∧ ∀ j, 0 ≤ j → j < 8 → d1 132 j = R j ∧ d1 133 j = U j ∧ d1 134 j = V j ∧ d1 135 j = S j ∧ d2 195 j = R j ∧ d2 196 j = U j ∧ d2 197 j = V j ∧ d2 198 j = S j ∧ 0 ≤ R j ∧ R j < 8 ∧ (S j = 0 ∨ S j = 1) := by
  have P := I.1
  obtain ⟨p1, p2, p3, p4, p5, p6, -⟩ := id P
  obtain ⟨M, hM⟩ : ∃ M : Nat, d 185 1741 = M := ⟨(d 185 1741).toNat, by omega⟩
  obtain ⟨d1, q1, T1, s1, f1⟩ := c_solve P hM
  have P1 := PL_fr f1 P
  have e1 : d1 185 = d 185 := f1 185 (by omega)
  obtain ⟨d2, q2, T2, s2, f2⟩ := m_turns P1 (M := M) (by rw [e1]; exact hM)
  rw [e1] at T2 s2
  have E : EV (d 185) M := by
    have := ev_of P
    rw [hM] at this
    exact this
  have O := sl_ok E 8 (by omega)
  have kn := sl_known (w := d 185) (M := M) 8
  generalize slS (d 185) M 8 = σ at *
  refine ⟨d1, d2, d1 132, d1 133, d1 134, d1 135, q1, q2, INV_fr I (fun x k s => ?_), fun j j0 j1 => ?_⟩
  · rw [f2 x k (fun e => s (by unfold Sc; omega)) (fun e => s (by unfold Sc; omega)) (fun e => s (by unfold Sc; omega)) (fun e => s (by unfold Sc; omega)) (fun e => s (by unfold Sc; omega))]
    exact congrFun (f1 x (by
      by_cases h : x < 131 ∨ 135 < x
      · exact h
      · exact absurd (by unfold Sc; omega) s)) k
  · cases h : σ j with
    | none => exact absurd h (kn j j0 j1)
    | some e =>
      obtain ⟨a1, a2, a3⟩ := (T1 j j0 j1).2 e h
      obtain ⟨b1, b2, b3⟩ := (T2 j j0 j1).2 e h
      obtain ⟨v1, v2, -⟩ := val_b O.1 j0 j1 h
      refine ⟨rfl, rfl, rfl, rfl, by rw [a1, b1], by rw [a2, b2], by rw [a3, b3], by rw [s1 j j0 j1, s2 j j0 j1], by omega, by omega, ?_⟩
      rw [s1 j j0 j1]
      split
      · exact Or.inr rfl
      · exact Or.inl rfl
theorem bz01 {v : Int} (h : v = 0 ∨ v = 1) : bz (J v) = some () := by
  rcases h with rfl | rfl <;> rfl
theorem j01 {v : Int} (h : v = 0 ∨ v = 1) : (if (J v : Int32) = 0 then some (J 0) else some (J 1)) = some (J v) := by
  rcases h with rfl | rfl <;> rfl
theorem ag_locked (I : INV d) : ∃ r d1 d2, f_X11_locked (mkH d) 0 = some (r, mkH d1) ∧ f_X12_locked (mkH d1) 183 = some (r, mkH d2) ∧ INV d2 := by
  obtain ⟨d1, d2, R, U, V, S, q1, q2, I2, A⟩ := turn_both I
  obtain ⟨-, -, -, s1, -, -, -, s2, -, -, s01⟩ := A 0 (by decide) (by decide)
  refine ⟨J (S 0), d1, d2, ?_, ?_, I2⟩
  · unfold f_X11_locked
    refine bind_eq (z0_13 d) (bind_eq (z0_1 d) (bind_eq (z131_0 d) (bind_eq q1 (bind_eq (z0_13 d1) (bind_eq (z131_0 d1) (bind_eq (a := J (S 0)) ?_ (bind_eq (j01 s01) rfl)))))))
    refine bind_eq (z131_4 d1) (bind_eq (z135_0 d1 0 (by decide) (by decide)) ?_)
    rw [s1]
    exact bind_eq (bz01 s01) rfl
  · unfold f_X12_locked
    refine bind_eq (isO183 _) (bind_eq q2 (bind_eq (z183_29 d2) (bind_eq (z198_0 d2 0 (by decide) (by decide)) ?_)))
    rw [s2]
    exact bind_eq (j01 s01) rfl
theorem ag_speed (I : INV d) (x y : Int32) : ∃ r d1 d2, f_X11_speed (mkH d) 0 x y = some (r, mkH d1) ∧ f_X12_speed (mkH d1) 183 x y = some (r, mkH d2) ∧ INV d2 := by
  obtain ⟨k, z1, z2, rfl⟩ := J_of x
  obtain ⟨p, v1, v2, rfl⟩ := J_of y
  have e1 := w_isWithin z1 z2 (l := 0) (u := 7) (by decide) (by decide) (by decide) (by decide)
  have e2 := w_isWithin v1 v2 (l := 0) (u := 1) (by decide) (by decide) (by decide) (by decide)
  have e3 : f_X12_isIn (J k).toInt64 (K 0) (K 7) = some (J (B (0 ≤ k ∧ k ≤ 7))) := by simp (disch := first | omega | assumption | decide) only [SN0, SN1, SN2, SN3, SN4, SN5, SN6, SN7, SN8, SN9, SN10, SN11, SN12, SN13, SN14, SN15, SN16, SN17, SN18, SJ0, SJ1, SJ2, SJ3, SJ4, SJ5, bindS, if_pos, if_neg, w_isWithin, w_isIn, JB_0, JB_1, bz_B, ite10, ite01, Int.natCast_add, csN0, csN1, csN16, Int.toNat_natCast, ite_not, not_true_eq_false, not_false_eq_true]
  have e4 : f_X12_isIn (J p).toInt64 (K 0) (K 1) = some (J (B (0 ≤ p ∧ p ≤ 1))) := by simp (disch := first | omega | assumption | decide) only [SN0, SN1, SN2, SN3, SN4, SN5, SN6, SN7, SN8, SN9, SN10, SN11, SN12, SN13, SN14, SN15, SN16, SN17, SN18, SJ0, SJ1, SJ2, SJ3, SJ4, SJ5, bindS, if_pos, if_neg, w_isWithin, w_isIn, JB_0, JB_1, bz_B, ite10, ite01, Int.natCast_add, csN0, csN1, csN16, Int.toNat_natCast, ite_not, not_true_eq_false, not_false_eq_true]
  by_cases c : 0 ≤ k ∧ k ≤ 7
  · rw [B_t c] at e1 e3
    by_cases c' : 0 ≤ p ∧ p ≤ 1
    · rw [B_t c'] at e2 e4
      obtain ⟨k0, k1⟩ := c
      have p01 : p = 0 ∨ p = 1 := by omega
      obtain ⟨d1, d2, R, U, V, S, q1, q2, I2, A⟩ := turn_both I
      obtain ⟨-, -, -, s1, -, -, -, s2, -, -, s01⟩ := A 0 (by decide) (by decide)
      obtain ⟨a1, a2, a3, -, b1, b2, b3, -, r0, r1, -⟩ := A k k0 (by omega)
      obtain ⟨-, -, -, t1, -, -, -, t2, -, -, t01⟩ := A (R k) r0 r1
      have lk : f_X10_isLocked (mkH d1) 131 = some (J (S 0)) := by
        refine bind_eq (z131_4 d1) (bind_eq (z135_0 d1 0 (by decide) (by decide)) ?_)
        rw [s1]
        exact bind_eq (bz01 s01) rfl
      have g1 : aI (mkH d1) 132 (J k) = some (J (R k)) := by rw [z132_0 d1 _ k0 (by omega), a1]
      have g2 : aL (mkH d1) 133 (J k) = some (K (U k)) := by rw [z133_0 d1 _ k0 (by omega), a2]
      have g3 : aL (mkH d1) 134 (J k) = some (K (V k)) := by rw [z134_0 d1 _ k0 (by omega), a3]
      have g4 : aZ (mkH d1) 135 (J (R k)) = some (J (S (R k))) := by rw [z135_0 d1 _ r0 r1, t1]
      have h1 : aI (mkH d2) 195 (J k) = some (J (R k)) := by rw [z195_0 d2 _ k0 (by omega), b1]
      have h2 : aL (mkH d2) 196 (J k) = some (K (U k)) := by rw [z196_0 d2 _ k0 (by omega), b2]
      have h3 : aL (mkH d2) 197 (J k) = some (K (V k)) := by rw [z197_0 d2 _ k0 (by omega), b3]
      have h4 : aZ (mkH d2) 198 (J (R k)) = some (J (S (R k))) := by rw [z198_0 d2 _ r0 r1, t2]
      have h5 : aZ (mkH d2) 198 (J 0) = some (J (S 0)) := by rw [z198_0 d2 _ (by decide) (by decide), s2]
      have preC : ∀ {Y : Option (Int64 × Hp)}, (if J (S 0) = 0 then
        (gR (mkH d1) 0 10 11).bind fun x10 =>
        (isO (mkH d1) x10 9).bind fun u11 =>
        (f_X10_isTurned (mkH d1) x10 (J k)).bind fun r12 =>
        (if r12 = 0 then
          some ((K (-1000000004)), mkH d1)
        else
          ((if J p = 0 then
            (gR (mkH d1) 0 10 11).bind fun x17 =>
            (isO (mkH d1) x17 9).bind fun u18 =>
            (f_X10_aboveLine (mkH d1) x17 (J k)).bind fun r19 =>
            some r19
          else
            (gR (mkH d1) 0 10 11).bind fun x14 =>
            (isO (mkH d1) x14 9).bind fun u15 =>
            (f_X10_belowLine (mkH d1) x14 (J k)).bind fun r16 =>
            some r16)).bind fun (j13 : Int64) =>
          some (j13, mkH d1))
      else
        some ((K (-1000000003)), mkH d1)) = Y → f_X11_speed (mkH d) 0 (J k) (J p) = Y := by
        intro Y hY
        unfold f_X11_speed
        refine bind_eq e1 ?_
        rw [if_neg n1J]
        refine bind_eq e2 ?_
        rw [if_neg n1J]
        exact bind_eq (z0_13 d) (bind_eq (z0_1 d) (bind_eq (z131_0 d) (bind_eq q1 (bind_eq (z0_13 d1) (bind_eq (z131_0 d1) (bind_eq lk hY))))))
      have preM : ∀ {Y : Option (Int64 × Hp)}, (if J (S 0) = 0 then
        (gR (mkH d2) 183 11 18).bind fun x7 =>
        (aI (mkH d2) x7 (J k)).bind fun x8 =>
        (if x8 = 0 then
          (gR (mkH d2) 183 11 18).bind fun x9 =>
          (aI (mkH d2) x9 (J k)).bind fun x10 =>
          (if x10 = 0 then
            ((if J p = 0 then
              (gR (mkH d2) 183 11 19).bind fun x14 =>
              (aL (mkH d2) x14 (J k)).bind fun x15 =>
              some x15
            else
              (gR (mkH d2) 183 11 20).bind fun x12 =>
              (aL (mkH d2) x12 (J k)).bind fun x13 =>
              some x13)).bind fun (j11 : Int64) =>
            some (j11, mkH d2)
          else
            some (((J p).toInt64), mkH d2))
        else
          (gR (mkH d2) 183 11 21).bind fun x18 =>
          (gR (mkH d2) 183 11 18).bind fun x19 =>
          (aI (mkH d2) x19 (J k)).bind fun x20 =>
          (aZ (mkH d2) x18 x20).bind fun x21 =>
          (if x21 = 0 then
            some ((K (-1000000004)), mkH d2)
          else
            (gR (mkH d2) 183 11 18).bind fun x22 =>
            (aI (mkH d2) x22 (J k)).bind fun x23 =>
            (if x23 = 0 then
              ((if J p = 0 then
                (gR (mkH d2) 183 11 19).bind fun x27 =>
                (aL (mkH d2) x27 (J k)).bind fun x28 =>
                some x28
              else
                (gR (mkH d2) 183 11 20).bind fun x25 =>
                (aL (mkH d2) x25 (J k)).bind fun x26 =>
                some x26)).bind fun (j24 : Int64) =>
              some (j24, mkH d2)
            else
              some (((J p).toInt64), mkH d2))))
      else
        some ((K (-1000000003)), mkH d2)) = Y → f_X12_speed (mkH d1) 183 (J k) (J p) = Y := by
        intro Y hY
        unfold f_X12_speed
        refine bind_eq e3 ?_
        rw [if_neg n1J]
        refine bind_eq e4 ?_
        rw [if_neg n1J]
        exact bind_eq (isO183 _) (bind_eq q2 (bind_eq (z183_29 d2) (bind_eq h5 hY)))
      rcases s01 with c0 | c0
      · have y0 : J (S 0) = 0 := by rw [c0]; rfl
        by_cases cr : R k = 0
        · have yr : J (R k) = 0 := by rw [cr]; rfl
          have ys : J (S (R k)) = 0 := by rw [cr, c0]; rfl
          have tn : f_X10_isTurned (mkH d1) 131 (J k) = some (J 1) := by
            refine bind_eq (z131_1 d1) (bind_eq g1 (bind_eq (a := J 1) ?_ rfl))
            rw [if_pos yr]
          have ab : f_X10_aboveLine (mkH d1) 131 (J k) = some (K (U k)) := by
            refine bind_eq (z131_4 d1) (bind_eq (z131_1 d1) (bind_eq g1 (bind_eq g4 (bind_eq (a := K (U k)) ?_ rfl))))
            rw [if_pos ys]
            exact bind_eq (z131_2 d1) (bind_eq g2 rfl)
          have be : f_X10_belowLine (mkH d1) 131 (J k) = some (K (V k)) := by
            refine bind_eq (z131_4 d1) (bind_eq (z131_1 d1) (bind_eq g1 (bind_eq g4 (bind_eq (a := K (V k)) ?_ rfl))))
            rw [if_pos ys]
            exact bind_eq (z131_3 d1) (bind_eq g3 rfl)
          rcases p01 with rfl | rfl
          · refine ⟨K (U k), d1, d2, preC ?_, preM ?_, I2⟩
            · rw [if_pos y0]
              refine bind_eq (z0_13 d1) (bind_eq (z131_0 d1) (bind_eq tn ?_))
              rw [if_neg n1J]
              refine bind_eq (a := K (U k)) ?_ rfl
              rw [if_pos (by rfl)]
              exact bind_eq (z0_13 d1) (bind_eq (z131_0 d1) (bind_eq ab rfl))
            · rw [if_pos y0]
              refine bind_eq (z183_26 d2) (bind_eq h1 ?_)
              rw [if_pos yr]
              refine bind_eq (z183_26 d2) (bind_eq h1 ?_)
              rw [if_pos yr]
              refine bind_eq (a := K (U k)) ?_ rfl
              rw [if_pos (by rfl)]
              exact bind_eq (z183_27 d2) (bind_eq h2 rfl)
          · refine ⟨K (V k), d1, d2, preC ?_, preM ?_, I2⟩
            · rw [if_pos y0]
              refine bind_eq (z0_13 d1) (bind_eq (z131_0 d1) (bind_eq tn ?_))
              rw [if_neg n1J]
              refine bind_eq (a := K (V k)) ?_ rfl
              rw [if_neg n1J]
              exact bind_eq (z0_13 d1) (bind_eq (z131_0 d1) (bind_eq be rfl))
            · rw [if_pos y0]
              refine bind_eq (z183_26 d2) (bind_eq h1 ?_)
              rw [if_pos yr]
              refine bind_eq (z183_26 d2) (bind_eq h1 ?_)
              rw [if_pos yr]
              refine bind_eq (a := K (V k)) ?_ rfl
              rw [if_neg n1J]
              exact bind_eq (z183_28 d2) (bind_eq h3 rfl)
        · have yr : ¬ (J (R k) = 0) := by
            rw [J_zero, J_eq (by omega) (by omega) (by omega) (by omega)]
            exact cr
          rcases t01 with cs | cs
          · have ys : J (S (R k)) = 0 := by rw [cs]; rfl
            refine ⟨K (-1000000004), d1, d2, preC ?_, preM ?_, I2⟩
            · rw [if_pos y0]
              refine bind_eq (z0_13 d1) (bind_eq (z131_0 d1) (bind_eq (a := J 0) ?_ (by rw [if_pos (by rfl)])))
              refine bind_eq (z131_1 d1) (bind_eq g1 (bind_eq (a := J 0) ?_ rfl))
              rw [if_neg yr]
              refine bind_eq (z131_4 d1) (bind_eq (z131_1 d1) (bind_eq g1 (bind_eq g4 ?_)))
              rw [if_pos ys]
            · rw [if_pos y0]
              refine bind_eq (z183_26 d2) (bind_eq h1 ?_)
              rw [if_neg yr]
              refine bind_eq (z183_29 d2) (bind_eq (z183_26 d2) (bind_eq h1 (bind_eq h4 ?_)))
              rw [if_pos ys]
          · have ys : ¬ (J (S (R k)) = 0) := by rw [cs]; exact n1J
            have tn : f_X10_isTurned (mkH d1) 131 (J k) = some (J 1) := by
              refine bind_eq (z131_1 d1) (bind_eq g1 (bind_eq (a := J 1) ?_ rfl))
              rw [if_neg yr]
              refine bind_eq (z131_4 d1) (bind_eq (z131_1 d1) (bind_eq g1 (bind_eq g4 ?_)))
              rw [if_neg ys]
            have ab : f_X10_aboveLine (mkH d1) 131 (J k) = some (K 0) := by
              refine bind_eq (z131_4 d1) (bind_eq (z131_1 d1) (bind_eq g1 (bind_eq g4 (bind_eq (a := K 0) ?_ rfl))))
              rw [if_neg ys]
            have be : f_X10_belowLine (mkH d1) 131 (J k) = some (K 1) := by
              refine bind_eq (z131_4 d1) (bind_eq (z131_1 d1) (bind_eq g1 (bind_eq g4 (bind_eq (a := K 1) ?_ rfl))))
              rw [if_neg ys]
            refine ⟨K p, d1, d2, preC ?_, preM ?_, I2⟩
            · rw [if_pos y0]
              refine bind_eq (z0_13 d1) (bind_eq (z131_0 d1) (bind_eq tn ?_))
              rw [if_neg n1J]
              refine bind_eq (a := K p) ?_ rfl
              rcases p01 with rfl | rfl
              · rw [if_pos (by rfl)]
                exact bind_eq (z0_13 d1) (bind_eq (z131_0 d1) (bind_eq ab rfl))
              · rw [if_neg n1J]
                exact bind_eq (z0_13 d1) (bind_eq (z131_0 d1) (bind_eq be rfl))
            · rw [if_pos y0]
              refine bind_eq (z183_26 d2) (bind_eq h1 ?_)
              rw [if_neg yr]
              refine bind_eq (z183_29 d2) (bind_eq (z183_26 d2) (bind_eq h1 (bind_eq h4 ?_)))
              rw [if_neg ys]
              refine bind_eq (z183_26 d2) (bind_eq h1 ?_)
              rw [if_neg yr, J_64 (by omega) (by omega)]
      · have y0 : ¬ (J (S 0) = 0) := by rw [c0]; exact n1J
        refine ⟨K (-1000000003), d1, d2, preC ?_, preM ?_, I2⟩
        · rw [if_neg y0]
        · rw [if_neg y0]
    · rw [B_f c'] at e2 e4
      refine ⟨K (-1000000001), d, d, ?_, ?_, I⟩
      · unfold f_X11_speed
        refine bind_eq e1 ?_
        rw [if_neg n1J]
        exact bind_eq e2 rfl
      · unfold f_X12_speed
        refine bind_eq e3 ?_
        rw [if_neg n1J]
        exact bind_eq e4 rfl
  · rw [B_f c] at e1 e3
    exact ⟨K (-1000000001), d, d, bind_eq e1 rfl, bind_eq e3 rfl, I⟩
def teS (d : Mem) : Nat → Int
  | 0 => 0
  | n + 1 => teS d n + d 185 (19 * (n : Int) + 1)
def wiS (d : Mem) : Nat → Int
  | 0 => 0
  | n + 1 => wiS d n + smS (vw d 185 n) 16
/-- how many of the first n shafts are turned -/
def tuS (R S : Int → Int) : Nat → Int
  | 0 => 0
  | n + 1 => tuS R S n + (if R n = 0 then 1 else S (R n))
theorem ag_count (I : INV d) (x : Int32) : ∃ r d1 d2, f_X11_count (mkH d) 0 x = some (r, mkH d1) ∧ f_X12_count (mkH d1) 183 x = some (r, mkH d2) ∧ INV d2 := by
  obtain ⟨k, z1, z2, rfl⟩ := J_of x
  obtain ⟨p1, p2, p3, p4, p5, p6, p7, p8⟩ := id I.1
  obtain ⟨l1, l2, l3, -⟩ := id I.2.1
  obtain ⟨r1, r2, r3, -⟩ := id I.2.2.1
  obtain ⟨N, hN⟩ : ∃ N : Nat, d 185 1740 = N := ⟨(d 185 1740).toNat, by omega⟩
  have jk : ∀ a : Int, -1 ≤ a → a ≤ 6 → ((J k = J a) ↔ k = a) := fun a a0 a1 => J_eq z1 z2 (by omega) (by omega)
  have qa : ∀ i : Int, 0 ≤ i → i < 12 → aR (mkH d) 2 3 (J i) = some (gA 1 i) := fun i i0 i1 => q_aR (d := d) (a := 2) (i := i) (t := 3) (b := 6) (m := 2) (len := 12) rfl rfl (by decide) (by decide) i0 (by omega)
  unfold f_X11_count f_X12_count
  by_cases k0 : k = 0
  · subst k0
    refine ⟨J (d 185 1740), d, d, ?_, bind_eq rfl ?_, I⟩
    · rw [if_pos rfl]
      refine bind_eq (z0_1 d) (bind_eq (z1_2 d) ?_)
      rw [p1]
    · rw [if_pos rfl]
      exact bind_eq (z183_2 d) (bind_eq (aI185 d (by decide) (by decide)) rfl)
  rw [if_neg (fun h => k0 ((jk 0 (by decide) (by decide)).mp h))]
  by_cases k1 : k = 1
  · subst k1
    refine ⟨J (d 185 1741), d, d, ?_, bind_eq rfl ?_, I⟩
    · rw [if_pos rfl]
      refine bind_eq (z0_1 d) (bind_eq (z1_7 d) ?_)
      rw [p2]
    · rw [if_neg (by decide), if_pos rfl]
      exact bind_eq (z183_2 d) (bind_eq (aI185 d (by decide) (by decide)) rfl)
  rw [if_neg (fun h => k1 ((jk 1 (by decide) (by decide)).mp h))]
  by_cases k2 : k = 2
  · subst k2
    refine ⟨J (d 185 1742), d, d, ?_, bind_eq rfl ?_, I⟩
    · rw [if_pos rfl]
      refine bind_eq (z0_4 d) (bind_eq (q_gI rfl rfl) ?_)
      rw [show ((2 : Nat) : Int) = 2 from rfl, r1]
    · rw [if_neg (by decide), if_neg (by decide), if_pos rfl]
      exact bind_eq (z183_2 d) (bind_eq (aI185 d (by decide) (by decide)) rfl)
  rw [if_neg (fun h => k2 ((jk 2 (by decide) (by decide)).mp h))]
  by_cases k3 : k = 3
  · subst k3
    refine ⟨J (d 185 1743), d, d, ?_, bind_eq rfl ?_, I⟩
    · rw [if_pos rfl]
      refine bind_eq (z0_3 d) (bind_eq (q_gI rfl rfl) ?_)
      rw [show ((2 : Nat) : Int) = 2 from rfl, l1]
    · rw [if_neg (by decide), if_neg (by decide), if_neg (by decide), if_pos rfl]
      exact bind_eq (z183_2 d) (bind_eq (aI185 d (by decide) (by decide)) rfl)
  rw [if_neg (fun h => k3 ((jk 3 (by decide) (by decide)).mp h))]
  by_cases k4 : k = 4
  · subst k4
    have L1 : iter (b_X3_allTeeth_4 (mkH d) 1) FU (J 0, J 0) = some (J (teS d N)) := by
      refine iter_at (fun i => (J (teS d i), J (i : Int))) N rfl (by omega) (fun i hi => ?_) ?_
      · have G := isG_1 (i := i) (by omega) (by omega)
        unfold b_X3_allTeeth_4
        refine bind_eq (z1_2 d) ?_
        rw [p1, hN, if_neg (by rw [J_le (by omega) (by omega) (by omega) (by omega)]; omega)]
        refine bind_eq (z1_1 d) (bind_eq (qa i (by omega) (by omega)) (bind_eq (SG3 d _ G) ?_))
        rw [(p7 i (by omega) (by omega)).2.2.1]
        refine bind_eq rfl (bind_eq rfl ?_)
        rw [J_add, J_add]
        rfl
      · unfold b_X3_allTeeth_4
        refine bind_eq (z1_2 d) ?_
        rw [p1, hN, if_pos (by rw [J_le (by omega) (by omega) (by omega) (by omega)]; omega)]
    have L2 : iter (b_X12_count_82 (mkH d) 183 (J 4)) FU (J 0, J 0) = some (J (teS d N)) := by
      refine iter_at (fun i => (J (teS d i), J (i : Int))) N rfl (by omega) (fun i hi => ?_) ?_
      · unfold b_X12_count_82
        refine bind_eq (z183_2 d) (bind_eq (aI185 d (by decide) (by decide)) ?_)
        rw [hN, if_neg (by rw [J_le (by omega) (by omega) (by omega) (by omega)]; omega), if_pos rfl]
        refine bind_eq (a := J (d 185 (19 * (i : Int) + 1))) (bind_eq (isO183 _) (bind_eq (m_teeth (d := d) (i := i) (by omega) (by omega)) rfl)) ?_
        refine bind_eq rfl (bind_eq rfl (bind_eq (a := J (teS d i + d 185 (19 * (i : Int) + 1))) ?_ (bind_eq rfl ?_)))
        · rw [J_add]
          exact iter_E (n := 999999999) (by
            unfold b_X12_count_114
            rw [if_neg (by exact (show ¬ J 16 ≤ J 0 by decide)), if_neg (by decide)])
        · rw [J_add]
          rfl
      · unfold b_X12_count_82
        refine bind_eq (z183_2 d) (bind_eq (aI185 d (by decide) (by decide)) ?_)
        rw [hN, if_pos (by rw [J_le (by omega) (by omega) (by omega) (by omega)]; omega)]
    refine ⟨J (teS d N), d, d, ?_, bind_eq rfl ?_, I⟩
    · rw [if_pos rfl]
      exact bind_eq (z0_1 d) (bind_eq (z1_0 d) (bind_eq (a := J (teS d N)) (bind_eq rfl (bind_eq rfl (bind_eq L1 rfl))) rfl))
    · rw [if_neg (by decide), if_neg (by decide), if_neg (by decide), if_neg (by decide), if_pos (Or.inl rfl)]
      exact bind_eq rfl (bind_eq L2 rfl)
  rw [if_neg (fun h => k4 ((jk 4 (by decide) (by decide)).mp h))]
  by_cases k5 : k = 5
  · subst k5
    have L1 : iter (b_X3_allWidths_4 (mkH d) 1) FU (J 0, J 0) = some (J (wiS d N)) := by
      refine iter_at (fun i => (J (wiS d i), J (i : Int))) N rfl (by omega) (fun i hi => ?_) ?_
      · have G := isG_1 (i := i) (by omega) (by omega)
        have s := c_sumOfWidths (d := d) G
        rw [(p7 i (by omega) (by omega)).2.2.2.2.1] at s
        unfold b_X3_allWidths_4
        refine bind_eq (z1_2 d) ?_
        rw [p1, hN, if_neg (by rw [J_le (by omega) (by omega) (by omega) (by omega)]; omega)]
        refine bind_eq (z1_1 d) (bind_eq (qa i (by omega) (by omega)) (bind_eq (q_isO G.1) (bind_eq s (bind_eq rfl (bind_eq rfl ?_)))))
        rw [J_add, J_add]
        rfl
      · unfold b_X3_allWidths_4
        refine bind_eq (z1_2 d) ?_
        rw [p1, hN, if_pos (by rw [J_le (by omega) (by omega) (by omega) (by omega)]; omega)]
    have L2 : iter (b_X12_count_82 (mkH d) 183 (J 5)) FU (J 0, J 0) = some (J (wiS d N)) := by
      refine iter_at (fun i => (J (wiS d i), J (i : Int))) N rfl (by omega) (fun i hi => ?_) ?_
      · unfold b_X12_count_82
        refine bind_eq (z183_2 d) (bind_eq (aI185 d (by decide) (by decide)) ?_)
        rw [hN, if_neg (by rw [J_le (by omega) (by omega) (by omega) (by omega)]; omega), if_neg (by decide)]
        refine bind_eq rfl (bind_eq rfl (bind_eq rfl (bind_eq (a := J (wiS d (i + 1))) ?_ (bind_eq rfl ?_))))
        · refine iter_at (fun y => (J (wiS d i + smS (vw d 185 i) y), J (y : Int))) 16 ?_ (by decide) (fun y hy => ?_) ?_
          · rw [J_add]
            rfl
          · unfold b_X12_count_114
            rw [if_neg (by rw [J_le (by omega) (by omega) (by omega) (by omega)]; omega), if_pos rfl]
            refine bind_eq (isO183 _) (bind_eq (m_widthOf (d := d) (i := i) (y := y) (by omega) (by omega) (by omega) (by omega)) (bind_eq rfl (bind_eq rfl ?_)))
            rw [J_add, J_add, Int.add_assoc]
            rfl
          · unfold b_X12_count_114
            rw [if_pos (by rw [J_le (by omega) (by omega) (by omega) (by omega)]; omega)]
            rfl
        · rw [J_add]
          rfl
      · unfold b_X12_count_82
        refine bind_eq (z183_2 d) (bind_eq (aI185 d (by decide) (by decide)) ?_)
        rw [hN, if_pos (by rw [J_le (by omega) (by omega) (by omega) (by omega)]; omega)]
    refine ⟨J (wiS d N), d, d, ?_, bind_eq rfl ?_, I⟩
    · rw [if_pos rfl]
      exact bind_eq (z0_1 d) (bind_eq (z1_0 d) (bind_eq (a := J (wiS d N)) (bind_eq rfl (bind_eq rfl (bind_eq L1 rfl))) rfl))
    · rw [if_neg (by decide), if_neg (by decide), if_neg (by decide), if_neg (by decide), if_pos (Or.inr rfl)]
      exact bind_eq rfl (bind_eq L2 rfl)
  rw [if_neg (fun h => k5 ((jk 5 (by decide) (by decide)).mp h))]
  by_cases k6 : k = 6
  · subst k6
    obtain ⟨d1, d2, R, U, V, S, q1, q2, I2, A⟩ := turn_both I
    obtain ⟨-, -, -, s1, -, -, -, s2, -, -, s01⟩ := A 0 (by decide) (by decide)
    have lk : f_X10_isLocked (mkH d1) 131 = some (J (S 0)) := by
      refine bind_eq (z131_4 d1) (bind_eq (z135_0 d1 0 (by decide) (by decide)) ?_)
      rw [s1]
      exact bind_eq (bz01 s01) rfl
    have h5 : aZ (mkH d2) 198 (J 0) = some (J (S 0)) := by rw [z198_0 d2 _ (by decide) (by decide), s2]
    have L : ∃ v, iter (b_X10_countTurned_4 (mkH d1) 131) FU (J 0, J 0) = some (J v) ∧ iter (b_X12_count_156 (mkH d2) 183) FU (J 0, J 0) = some (J v) := by
      rcases s01 with c0 | c0
      · have y0 : J (S 0) = 0 := by rw [c0]; rfl
        obtain ⟨N8, hN8⟩ : ∃ N8 : Nat, N8 = 8 := ⟨_, rfl⟩
        have tv : ∀ i : Nat, i < N8 → ∃ v, (if R i = 0 then 1 else S (R i)) = v ∧ (v = 0 ∨ v = 1) ∧ f_X10_isTurned (mkH d1) 131 (J (i : Int)) = some (J v) ∧ ((if J (R i) = 0 then
        some (J 1)
      else
        (gR (mkH d2) 183 11 21).bind fun x6 =>
        (gR (mkH d2) 183 11 18).bind fun x7 =>
        (aI (mkH d2) x7 (J (i : Int))).bind fun x8 =>
        (aZ (mkH d2) x6 x8).bind fun x9 =>
        (if x9 = 0 then
          some (J 0)
        else
          some (J 1)))) = some (J v) := fun i hi => by
          obtain ⟨a1, -, -, -, b1, -, -, -, r0, r1, -⟩ := A i (by omega) (by omega)
          obtain ⟨-, -, -, t1, -, -, -, t2, -, -, t01⟩ := A (R i) r0 r1
          have g1 : aI (mkH d1) 132 (J (i : Int)) = some (J (R i)) := by rw [z132_0 d1 _ (by omega) (by omega), a1]
          have g4 : aZ (mkH d1) 135 (J (R i)) = some (J (S (R i))) := by rw [z135_0 d1 _ r0 r1, t1]
          have h1 : aI (mkH d2) 195 (J (i : Int)) = some (J (R i)) := by rw [z195_0 d2 _ (by omega) (by omega), b1]
          have h4 : aZ (mkH d2) 198 (J (R i)) = some (J (S (R i))) := by rw [z198_0 d2 _ r0 r1, t2]
          by_cases cr : R i = 0
          · have yr : J (R i) = 0 := by rw [cr]; rfl
            refine ⟨1, if_pos cr, Or.inr rfl, ?_, by rw [if_pos yr]⟩
            refine bind_eq (z131_1 d1) (bind_eq g1 (bind_eq (a := J 1) ?_ rfl))
            rw [if_pos yr]
          · have yr : ¬ (J (R i) = 0) := by
              rw [J_zero, J_eq (by omega) (by omega) (by omega) (by omega)]
              exact cr
            refine ⟨S (R i), if_neg cr, t01, ?_, ?_⟩
            · refine bind_eq (z131_1 d1) (bind_eq g1 (bind_eq (a := J (S (R i))) ?_ (bind_eq (bz01 t01) rfl)))
              rw [if_neg yr]
              refine bind_eq (z131_4 d1) (bind_eq (z131_1 d1) (bind_eq g1 (bind_eq g4 ?_)))
              exact j01 t01
            · rw [if_neg yr]
              refine bind_eq (z183_29 d2) (bind_eq (z183_26 d2) (bind_eq h1 (bind_eq h4 ?_)))
              exact j01 t01
        refine ⟨tuS R S N8, ?_, ?_⟩
        · refine iter_at (fun i => (J (tuS R S i), J (i : Int))) N8 rfl (by omega) (fun i hi => ?_) ?_
          · obtain ⟨v, e1, e2, e3, -⟩ := tv i hi
            unfold b_X10_countTurned_4
            rw [if_neg (by rw [J_le (by omega) (by omega) (by omega) (by omega)]; omega)]
            refine bind_eq (z131_0 d1) (bind_eq lk ?_)
            rw [if_pos y0]
            refine bind_eq (z131_0 d1) (bind_eq e3 (bind_eq (j01 e2) (bind_eq rfl (bind_eq rfl ?_))))
            rw [J_add, J_add, ← e1]
            rfl
          · unfold b_X10_countTurned_4
            rw [if_pos (by rw [J_le (by omega) (by omega) (by omega) (by omega)]; omega)]
        · refine iter_at (fun i => (J (tuS R S i), J (i : Int))) N8 rfl (by omega) (fun i hi => ?_) ?_
          · obtain ⟨v, e1, e2, -, e4⟩ := tv i hi
            obtain ⟨-, -, -, -, b1, -⟩ := A i (by omega) (by omega)
            have h1 : aI (mkH d2) 195 (J (i : Int)) = some (J (R i)) := by rw [z195_0 d2 _ (by omega) (by omega), b1]
            unfold b_X12_count_156
            rw [if_neg (by rw [J_le (by omega) (by omega) (by omega) (by omega)]; omega)]
            refine bind_eq (z183_29 d2) (bind_eq h5 ?_)
            rw [if_pos y0]
            refine bind_eq (z183_26 d2) (bind_eq h1 (bind_eq e4 (bind_eq rfl (bind_eq rfl ?_))))
            rw [J_add, J_add, ← e1]
            rfl
          · unfold b_X12_count_156
            rw [if_pos (by rw [J_le (by omega) (by omega) (by omega) (by omega)]; omega)]
      · have y0 : ¬ (J (S 0) = 0) := by rw [c0]; exact n1J
        refine ⟨0, iter_E (n := 999999999) ?_, iter_E (n := 999999999) ?_⟩
        · unfold b_X10_countTurned_4
          rw [if_neg (by exact (show ¬ J 8 ≤ J 0 by decide))]
          refine bind_eq (z131_0 d1) (bind_eq lk ?_)
          rw [if_neg y0]
        · unfold b_X12_count_156
          rw [if_neg (by exact (show ¬ J 8 ≤ J 0 by decide))]
          refine bind_eq (z183_29 d2) (bind_eq h5 ?_)
          rw [if_neg y0]
    obtain ⟨v, L1, L2⟩ := L
    refine ⟨J v, d1, d2, ?_, bind_eq rfl ?_, I2⟩
    · rw [if_pos rfl]
      exact bind_eq (z0_13 d) (bind_eq (z0_1 d) (bind_eq (z131_0 d) (bind_eq q1 (bind_eq (z0_13 d1) (bind_eq (z131_0 d1) (bind_eq (a := J v) (bind_eq rfl (bind_eq rfl (bind_eq L1 rfl))) rfl))))))
    · rw [if_neg (by decide), if_neg (by decide), if_neg (by decide), if_neg (by decide), if_neg (by decide), if_pos rfl]
      exact bind_eq (isO183 _) (bind_eq q2 (bind_eq rfl (bind_eq L2 rfl)))
  rw [if_neg (fun h => k6 ((jk 6 (by decide) (by decide)).mp h))]
  refine ⟨J (-1), d, d, rfl, bind_eq rfl ?_, I⟩
  rw [if_neg (fun h => k0 ((jk 0 (by decide) (by decide)).mp h)), if_neg (fun h => k1 ((jk 1 (by decide) (by decide)).mp h)), if_neg (fun h => k2 ((jk 2 (by decide) (by decide)).mp h)), if_neg (fun h => k3 ((jk 3 (by decide) (by decide)).mp h)), if_neg (fun h => by
    rcases h with h | h
    · exact k4 ((jk 4 (by decide) (by decide)).mp h)
    · exact k5 ((jk 5 (by decide) (by decide)).mp h)), if_neg (fun h => k6 ((jk 6 (by decide) (by decide)).mp h))]
end
