/-! ear agrees -/
theorem mkB_cong {P Q : Nat → Bool} : ∀ n : Nat, (∀ t, t < n → P t = Q t) → mkB P n = mkB Q n
  | 0, _ => rfl
  | n + 1, h => by
    unfold mkB
    rw [mkB_cong n (fun t ht => h t (by omega)), h n (by omega)]
theorem sh0 (y : Int64) : (K 0 <<< y) = K 0 := Int64.toBitVec_inj.mp (by
  show (0#64) <<< (y.toBitVec.smod 64) = 0#64
  show (0#64) <<< (y.toBitVec.smod 64).toNat = 0#64
  exact BitVec.zero_shiftLeft _)
theorem or_K0 (x : Int64) : x ||| K 0 = x := tb_ext (fun t _ => by rw [tb_or, tb_K0, Bool.or_false])
theorem ts_zero {N : Nat} {te : Nat → Nat} {H : Int64} {t : Nat} : ∀ r i : Nat, i + r ≤ t → tsW N te H (t + 1) r i = 0 := by
  have w : ∀ g h : Nat, g < t → h < t → wtS (t + 1) g h = 0 := fun g h hg hh => by
    unfold wtS
    rw [if_neg (by omega), if_neg (by omega)]
  have ps : ∀ r i j : Nat, i < t → j + r ≤ t → psW N te H (t + 1) i r j = 0 := by
    intro r
    induction r with
    | zero => intro i j _ _; rfl
    | succ r ih =>
      intro i j hi hj
      show c2S N te H i j * wtS (t + 1) i j + psW N te H (t + 1) i r (j + 1) = 0
      rw [w i j hi (by omega), ih i (j + 1) hi (by omega), Nat.mul_zero]
  intro r
  induction r with
  | zero => intro i _; rfl
  | succ r ih =>
    intro i hi
    show c1S N te H i * wtS (t + 1) i i + psW N te H (t + 1) i r (i + 1) + tsW N te H (t + 1) r (i + 1) = 0
    rw [w i i (by omega) (by omega), ps r i (i + 1) (by omega) (by omega), ih (i + 1) (by omega), Nat.mul_zero]
section
variable {d : Mem}
def eaS (d : Mem) (i : Int) : Int := if d 188 i = 0 then -11 else if d 188 i = 2 ∧ d 189 i = 0 then (if d 190 i ≤ 60 ∧ allS d i 1 (d 190 i).toNat = none then 0 else -13) else -12
theorem c_earR {i : Int} (S : SH d i) (h0 : 0 ≤ i) (h1 : i < 8) : f_X8_earRefusal (mkH d) (sA i) = some (J (eaS d i)) := by
  obtain ⟨s1, s2, s3, s4, s5, s6, s7, s8, s9, s10, s11⟩ := id S
  have hS := isS_A h0 h1
  have q := c_bytesR (d := d) hS (by omega) (by omega) (by omega) (by omega)
  rw [s1, s2] at q
  unfold eaS f_X8_earRefusal
  refine bind_eq (SS0 d _ hS) ?_
  by_cases k0 : d 188 i = 0
  · rw [if_pos k0] at q ⊢
    exact bind_eq q rfl
  · rw [if_neg k0] at q ⊢
    by_cases k2 : d 188 i = 2 ∧ d 189 i = 0
    · rw [if_pos k2] at q ⊢
      refine bind_eq q ?_
      rw [if_pos (by rfl)]
      refine bind_eq (SS4 d _ hS) ?_
      rw [s3]
      by_cases c : d 190 i ≤ 60
      · rw [if_neg (by rw [J_lt (by omega) (by omega) (by omega) (by omega)]; omega)]
        have a := c_areAll S h0 h1 (N := (d 190 i).toNat) (by omega) (g := 1) (by decide) (by decide)
        refine bind_eq (bind_eq (SS0 d _ hS) (bind_eq a ?_)) rfl
        by_cases c2 : allS d i 1 (d 190 i).toNat = none
        · rw [B_t c2, if_neg n1J, if_pos ⟨c, c2⟩]
        · rw [B_f c2, if_pos (by rfl), if_neg (fun h => c2 h.2)]
      · rw [if_pos (by rw [J_lt (by omega) (by omega) (by omega) (by omega)]; omega), if_neg (fun h => c h.1)]
        rfl
    · rw [if_neg k2] at q ⊢
      exact bind_eq q rfl
/-- what the reference hears -/
theorem m_hear {D : Mem} {i : Int} (i0 : 0 ≤ i) (i1 : i < 8) {N : Nat} (hN : N ≤ 60) (h190 : D 190 i = N) (hr : ∀ k : Int, 0 ≤ k → k < 120 → -2147483648 ≤ D 191 (120 * i + k) ∧ D 191 (120 * i + k) < 2147483648) (a2 : Int32) : iter (b_X12_ear_54 (mkH D) 183 (J i) a2) FU (K 0, J 0) = some (match allS D i 1 N with
    | some _ => .inr ()
    | none => .inl (hdL (fun k => D 191 (120 * i + k)) N)) := by
  have a190 : aI (mkH D) 190 (J i) = some (J (N : Int)) := by rw [q_aI (len := 8) rfl (by decide) i0 (by omega), h190]
  have a191 : ∀ t : Nat, t < N → aI (mkH D) 191 (J (120 * i + t)) = some (J (D 191 (120 * i + t))) := fun t ht => q_aI (len := 960) rfl (by decide) (by omega) (by omega)
  have L := iter_srch (b := b_X12_ear_54 (mkH D) 183 (J i) a2) (fun t => (mkB (fun t => decide (D 191 (120 * i + t) = 1)) t, J (t : Int))) (fun k => !decide (0 ≤ D 191 (120 * i + k) ∧ D 191 (120 * i + k) ≤ 1)) N (s0 := (K 0, J 0)) (e0 := .inl (mkB (fun t => decide (D 191 (120 * i + t) = 1)) N)) (fun _ => .inr ()) rfl (by omega) (fun t ht hc => ?_) (fun t ht hc => ?_) ?_
  · exact L
  · have hc : decide (0 ≤ D 191 (120 * i + t) ∧ D 191 (120 * i + t) ≤ 1) = true := by
      cases q : decide (0 ≤ D 191 (120 * i + t) ∧ D 191 (120 * i + t) ≤ 1)
      · rw [q] at hc
        exact Bool.noConfusion hc
      · rfl
    have hc := of_decide_eq_true hc
    unfold b_X12_ear_54
    refine bind_eq (z183_7 D) (bind_eq a190 ?_)
    rw [if_neg (by rw [J_le (by omega) (by omega) (by omega) (by omega)]; omega)]
    refine bind_eq (z183_8 D) ?_
    rw [J_mul, J_add]
    refine bind_eq (a191 t ht) ?_
    have e : mkB (fun t => decide (D 191 (120 * i + t) = 1)) (t + 1) = if decide (D 191 (120 * i + t) = 1) = true then mkB (fun t => decide (D 191 (120 * i + t) = 1)) t ||| (K 1 <<< ((J (t : Int)).toInt64 &&& 63)) else mkB (fun t => decide (D 191 (120 * i + t) = 1)) t := rfl
    have hc2 : D 191 (120 * i + t) = 0 ∨ D 191 (120 * i + t) = 1 := by omega
    rw [e]
    rcases hc2 with v | v
    · rw [v, if_pos (by rfl), if_neg (by decide)]
      have z : (J 0).toInt64 = K 0 := J_64 (by decide) (by decide)
      refine bind_eq rfl (bind_eq rfl ?_)
      rw [z, sh0, or_K0, J_add]
      rfl
    · rw [v, if_neg n1J, if_pos rfl, if_pos (by decide)]
      have z : (J 1).toInt64 = K 1 := J_64 (by decide) (by decide)
      refine bind_eq rfl (bind_eq rfl ?_)
      rw [z, J_add]
      rfl
  · have hc : ¬ (0 ≤ D 191 (120 * i + t) ∧ D 191 (120 * i + t) ≤ 1) := fun h => by
      rw [decide_eq_true h] at hc
      exact Bool.noConfusion hc
    have r := hr t (by omega) (by omega)
    unfold b_X12_ear_54
    refine bind_eq (z183_7 D) (bind_eq a190 ?_)
    rw [if_neg (by rw [J_le (by omega) (by omega) (by omega) (by omega)]; omega)]
    refine bind_eq (z183_8 D) ?_
    rw [J_mul, J_add]
    refine bind_eq (a191 t ht) ?_
    rw [if_neg (by rw [J_zero, J_eq (by omega) (by omega) (by omega) (by omega)]; omega), if_neg (by rw [J_eq (by omega) (by omega) (by omega) (by omega)]; omega)]
  · unfold b_X12_ear_54
    refine bind_eq (z183_7 D) (bind_eq a190 ?_)
    rw [if_pos (by rw [J_le (by omega) (by omega) (by omega) (by omega)]; omega)]
theorem allS_cong {D : Mem} {i g : Int} {n : Nat} (h : ∀ k : Nat, k < n → D 191 (120 * i + k) = d 191 (120 * i + k)) : allS D i g n = allS d i g n := srch_cong (fun k hk => by rw [h k hk])
theorem ag_ear (I : INV d) (x y : Int32) : ∃ r d1 d2, f_X11_ear (mkH d) 0 x y = some (r, mkH d1) ∧ f_X12_ear (mkH d1) 183 x y = some (r, mkH d2) ∧ INV d2 := by
  obtain ⟨i, z1, z2, rfl⟩ := J_of x
  obtain ⟨u, v1, v2, rfl⟩ := J_of y
  have e1 := c_isShelf z1 z2
  have e2 := m_isShelf z1 z2
  have e3 := w_isWithin v1 v2 (l := 0) (u := 2) (by decide) (by decide) (by decide) (by decide)
  have e4 : f_X12_isIn (J u).toInt64 (K 0) (K 2) = some (J (B (0 ≤ u ∧ u ≤ 2))) := by simp (disch := first | omega | assumption | decide) only [SN0, SN1, SN2, SN3, SN4, SN5, SN6, SN7, SN8, SN9, SN10, SN11, SN12, SN13, SN14, SN15, SN16, SN17, SN18, SJ0, SJ1, SJ2, SJ3, SJ4, SJ5, bindS, if_pos, if_neg, w_isWithin, w_isIn, JB_0, JB_1, bz_B, ite10, ite01, Int.natCast_add, csN0, csN1, csN16, Int.toNat_natCast, ite_not, not_true_eq_false, not_false_eq_true]
  by_cases c : 0 ≤ i ∧ i ≤ 7
  · rw [B_t c] at e1 e2
    by_cases cu : 0 ≤ u ∧ u ≤ 2
    · rw [B_t cu] at e3 e4
      obtain ⟨c1, c2⟩ := c
      have c3 : i < 8 := by omega
      have hS := isS_A c1 c3
      have sl := sA_le c1 c3
      have SS := I.2.2.2.2.1 i c1 c3
      obtain ⟨s1, s2, s3, s4, s5, s6, s7, s8, s9, s10, s11⟩ := id SS
      have g := c_earR SS c1 c3
      have w := m_wrongRow (d := d) c1 c3 s4 s5 s6 s7 (f := 0) (by decide) (by decide)
      have aS := z124_0 d i c1 c3
      have P := I.1
      obtain ⟨p1, p2, p3, p4, p5, p6, p7, p8⟩ := id P
      have bad : ∀ v : Int, v ≠ 0 → -100 ≤ v → v ≤ 0 → f_X8_earRefusal (mkH d) (sA i) = some (J v) → f_X12_ear (mkH d) 183 (J i) (J u) = some (J v, mkH d) → ∃ r d1 d2, f_X11_ear (mkH d) 0 (J i) (J u) = some (r, mkH d1) ∧ f_X12_ear (mkH d1) 183 (J i) (J u) = some (r, mkH d2) ∧ INV d2 := fun v v0 v1 v2 h1 h2 => by
        refine ⟨J v, d, d, ?_, h2, I⟩
        unfold f_X11_ear
        refine bind_eq e1 ?_
        rw [if_neg n1J]
        refine bind_eq e3 ?_
        rw [if_neg n1J]
        refine bind_eq (z0_10 d) (bind_eq aS (bind_eq (SS0 d _ hS) (bind_eq h1 ?_)))
        rw [if_neg (by rw [J_zero, J_eq (by omega) (by omega) (by omega) (by omega)]; exact v0)]
      have preM : ∀ {D : Mem} {Y : Option (Int32 × Hp)}, (f_X12_wrongRow (mkH D) 183 (J i) (J 0)).bind (fun r4 =>
      (if r4 = 0 then
        (gR (mkH D) 183 11 6).bind fun x5 =>
        (aI (mkH D) x5 (J i)).bind fun x6 =>
        (if x6 ≤ (J 60) then
          (some (K 0)).bind fun x7 =>
          (some (J 0)).bind fun x8 =>
          (iter (b_X12_ear_54 (mkH D) 183 (J i) (J u)) FU (x7, x8)).bind fun e9 =>
          (match e9 with
          | .inl e10 =>
            (some (J 0)).bind fun x11 =>
            (some (J 0)).bind fun x12 =>
            (iter (b_X12_ear_116 183 (J i) (J u) e10) FU (x11, x12, mkH D)).bind fun e13 =>
            ((if (lg_cmp e10 (K 0)) = 0 then
              some (J 1)
            else
              some (J 0))).bind fun (j14 : Int32) =>
            ((if (lg_cmp e10 (K 0)) = 0 then
              some (J 0)
            else
              some (J (-1)))).bind fun (j16 : Int32) =>
            (some (J 0)).bind fun x18 =>
            (some (J 0)).bind fun x19 =>
            (iter (b_X12_ear_268 e13.2 183 (J u) e10 e13.1) FU (j14, j16, x18, x19)).bind fun e20 =>
            ((if J u = 0 then
              some e20.1
            else
              (if J u = (J 1) then
                (if e20.1 = 0 then
                  some (J 0)
                else
                  some e20.2.1)
              else
                some e20.2.2))).bind fun (j21 : Int32) =>
            some (j21, e13.2)
          | .inr e25 =>
            some ((J (-13)), mkH D))
        else
          some ((J (-13)), mkH D))
      else
        some (r4, mkH D))) = Y → f_X12_ear (mkH D) 183 (J i) (J u) = Y := by
        intro D Y hY
        unfold f_X12_ear
        refine bind_eq e2 ?_
        rw [if_neg n1J]
        refine bind_eq e4 ?_
        rw [if_neg n1J]
        exact bind_eq (isO183 _) hY
      unfold eaS at g
      unfold wrS2 at w
      by_cases k0 : d 188 i = 0
      · rw [if_pos k0] at g w
        refine bad _ (by decide) (by decide) (by decide) g (preM (bind_eq w ?_))
        rw [if_neg (by decide)]
      · rw [if_neg k0] at g w
        by_cases k2 : d 188 i = 2
        · rw [if_pos k2, if_neg (by decide)] at w
          by_cases k3 : d 189 i = 0
          · rw [if_pos k3] at w
            rw [if_pos ⟨k2, k3⟩] at g
            obtain ⟨N, hN⟩ : ∃ N : Nat, d 190 i = N := ⟨(d 190 i).toNat, by omega⟩
            have hNt : (d 190 i).toNat = N := by omega
            rw [hNt] at g
            have a190 : ∀ D : Mem, D 190 = d 190 → aI (mkH D) 190 (J i) = some (J (N : Int)) := fun D h => by rw [q_aI (len := 8) rfl (by decide) c1 (by omega), h, hN]
            by_cases cn : d 190 i ≤ 60
            · have n60 : N ≤ 60 := by omega
              have le60 : J (N : Int) ≤ J 60 := by rw [J_le (by omega) (by omega) (by omega) (by omega)]; omega
              by_cases ca : allS d i 1 N = none
              · rw [if_pos ⟨cn, ca⟩] at g
                obtain ⟨G, hG⟩ : ∃ G : Nat, d 185 1740 = G := ⟨(d 185 1740).toNat, by omega⟩
                have el : ∀ t : Int, 0 ≤ t → t < N → d 191 (120 * i + t) = 0 ∨ d 191 (120 * i + t) = 1 := fun t t0 t1 => by
                  have q := srch_none ca t.toNat (by omega)
                  have q : decide (0 ≤ d 191 (120 * i + (t.toNat : Int)) ∧ d 191 (120 * i + (t.toNat : Int)) ≤ 1) = true := by
                    cases h : decide (0 ≤ d 191 (120 * i + (t.toNat : Int)) ∧ d 191 (120 * i + (t.toNat : Int)) ≤ 1)
                    · rw [h] at q
                      exact Bool.noConfusion q
                    · rfl
                  have q := of_decide_eq_true q
                  rw [show ((t.toNat : Nat) : Int) = t by omega] at q
                  omega
                obtain ⟨D, q1, n1, W, fD⟩ := c_listen (N := N) P hG (e := sA i + 3) hS.2 (by omega) n60 (fun t t0 t1 => by rw [(s10 t t0 (by omega)).1]; exact el t t0 t1)
                have eH : hdL (d (sA i + 3)) N = hdL (fun k => d 191 (120 * i + k)) N := mkB_cong N (fun t ht => by
                  show decide (d (sA i + 3) (t : Int) = 1) = decide (d 191 (120 * i + (t : Int)) = 1)
                  rw [(s10 t (by omega) (by omega)).1])
                rw [eH] at W
                have mh := m_hear (D := D) (i := i) c1 c3 n60 (by rw [fD 190 (by omega)]; exact hN) (fun k k0 k1 => by rw [fD 191 (by omega)]; exact ⟨(s10 k k0 k1).2.1, (s10 k k0 k1).2.2.1⟩) (J u)
                rw [allS_cong (d := d) (fun k _ => by rw [fD 191 (by omega)]), ca, fD 191 (by omega)] at mh
                have mh : iter (b_X12_ear_54 (mkH D) 183 (J i) (J u)) FU (K 0, J 0) = some (.inl (hdL (fun k => d 191 (120 * i + k)) N)) := mh
                have tr := teF_rng P
                have teg : ∀ g : Nat, g < G → D 185 (19 * (g : Int) + 1) = teF d g := fun g hg => by
                  rw [fD 185 (by omega)]
                  unfold teF
                  have := (p7 g (by omega) (by omega)).2.2.2.2.2.2.2.1
                  rw [if_pos (by omega)]
                  omega
                generalize hdL (fun k => d 191 (120 * i + k)) N = H at *
                obtain ⟨E, m1, R, fE⟩ := m_faults (d := D) (te := teF d) (H := H) (G := G) (by rw [fD 185 (by omega)]; exact hG) (by omega) n60 c1 c3 (by rw [fD 190 (by omega)]; exact hN) tr teg (J u)
                have len := flA_len (N := N) (te := teF d) (H := H) (fun g => (tr g).2) G
                have j14 : (if lg_cmp H (K 0) = 0 then some (J 1) else some (J 0)) = some (J (if H = K 0 then 1 else 0)) := by
                  by_cases q : H = K 0
                  · rw [if_pos ((lg0 _ _).mpr q), if_pos q]
                  · rw [if_neg (fun h => q ((lg0 _ _).mp h)), if_neg q]
                have j16 : (if lg_cmp H (K 0) = 0 then some (J 0) else some (J (-1))) = some (J (if H = K 0 then 0 else -1)) := by
                  by_cases q : H = K 0
                  · rw [if_pos ((lg0 _ _).mpr q), if_pos q]
                  · rw [if_neg (fun h => q ((lg0 _ _).mp h)), if_neg q]
                obtain ⟨s1', bl, mb, m2, ⟨M1, M2, M3, M4⟩⟩ := m_sets (H := H) R (by omega) (fun x hx => by have := flA_mem (N := N) (te := teF d) (H := H) (G := G) G x hx; omega) (J u) (s0 := J (if H = K 0 then 1 else 0)) (b0 := J (if H = K 0 then 0 else -1)) (m0 := J 0) ⟨by
                  show J _ = J (_ + ((0 : Nat) : Int))
                  rw [csN0, Int.add_zero], fun t ht => by
                  by_cases q : H = K 0
                  · rw [if_pos q, ti_J0, decide_eq_false (fun h => h q)]
                    rfl
                  · rw [if_neg q, ti_Jm ht, decide_eq_true q, decide_eq_true rfl]
                    rfl, fun t _ => by
                  rw [ti_J0]
                  rfl, fun t => Nat.le_refl 0⟩
                have ew : ∀ k, ouW N (teF d) H k (flA N (teF d) H G) = tsW N (teF d) H k G 0 := fun k => ouW_all k G
                simp only [ew] at M1 M2 M3 M4
                have hw : ∀ k, tsW N (teF d) H k G 0 < 2000000 := fun k => by
                  have q := ts_le (N := N) (te := teF d) (H := H) (B := 99) (fun g => (tr g).2) k G 0
                  have q2 : G * (99 + G * (99 * 99)) ≤ 12 * (99 + 12 * (99 * 99)) := Nat.mul_le_mul (by omega) (by omega)
                  omega
                have zr : ∀ t, G ≤ t → tsW N (teF d) H (t + 1) G 0 = 0 := fun t ht => ts_zero G 0 (by omega)
                have I2 : INV E := INV_fr I (fun x k s => by
                  rw [fE x k (fun e => s (by unfold Sc; omega)) (fun e => s (by unfold Sc; omega))]
                  exact congrFun (fD x (by
                    by_cases h : x < 146 ∨ 150 < x
                    · exact h
                    · exact absurd (by unfold Sc; omega) s)) k)
                have preC : ∀ {Y : Option (Int32 × Hp)}, (if J u = (J 0) then
          (gR (mkH D) 0 10 15).bind fun x13 =>
          (gI (mkH D) x13 1 8).bind fun x14 =>
          some (x14, mkH D)
        else
          (if J u = (J 1) then
            (gR (mkH D) 0 10 15).bind fun x16 =>
            (isO (mkH D) x16 1).bind fun u17 =>
            (f_X1_blamed (mkH D) x16).bind fun r18 =>
            some (r18, mkH D)
          else
            (gR (mkH D) 0 10 15).bind fun x20 =>
            (isO (mkH D) x20 1).bind fun u21 =>
            (f_X1_maybe (mkH D) x20).bind fun r22 =>
            some (r22, mkH D))) = Y → f_X11_ear (mkH d) 0 (J i) (J u) = Y := by
                  intro Y hY
                  unfold f_X11_ear
                  refine bind_eq e1 ?_
                  rw [if_neg n1J]
                  refine bind_eq e3 ?_
                  rw [if_neg n1J]
                  refine bind_eq (z0_10 d) (bind_eq aS (bind_eq (SS0 d _ hS) (bind_eq g ?_)))
                  rw [if_pos (by rfl)]
                  refine bind_eq (z0_17 d) (bind_eq (z0_1 d) (bind_eq (SS5 d _ hS) (bind_eq (SS4 d _ hS) ?_)))
                  rw [s3, hN]
                  exact bind_eq (z146_0 d) (bind_eq q1 hY)
                have wD : f_X12_wrongRow (mkH D) 183 (J i) (J 0) = some (J 0) := by
                  have h := m_wrongRow (d := D) c1 c3 (by rw [fD 188 (by omega)]; exact s4) (by rw [fD 188 (by omega)]; exact s5) (by rw [fD 189 (by omega)]; exact s6) (by rw [fD 189 (by omega)]; exact s7) (f := 0) (by decide) (by decide)
                  unfold wrS2 at h
                  rw [fD 188 (by omega), fD 189 (by omega), if_neg k0, if_pos k2, if_neg (by decide), if_pos k3] at h
                  exact h
                have goM : ∀ {r : Int32}, (if J u = 0 then
              some s1'
            else
              (if J u = (J 1) then
                (if s1' = 0 then
                  some (J 0)
                else
                  some bl)
              else
                some mb)) = some r → f_X12_ear (mkH D) 183 (J i) (J u) = some (r, mkH E) := by
                  intro r hr
                  refine preM (bind_eq wD ?_)
                  rw [if_pos (by rfl)]
                  refine bind_eq (z183_7 D) (bind_eq (a190 D (fD 190 (by omega))) ?_)
                  rw [if_pos le60]
                  exact bind_eq rfl (bind_eq rfl (bind_eq mh (bind_eq rfl (bind_eq rfl (bind_eq m1 (bind_eq j14 (bind_eq j16 (bind_eq rfl (bind_eq rfl (bind_eq m2 (bind_eq hr rfl)))))))))))
                have hb : (if H = K 0 then (1 : Int) else 0) = 0 ∨ (if H = K 0 then (1 : Int) else 0) = 1 := by
                  split
                  · exact Or.inr rfl
                  · exact Or.inl rfl
                have hbk : (if H = K 0 then (1 : Int) else 0) = 1 ↔ H = K 0 := by
                  split
                  · rename_i h
                    exact ⟨fun _ => h, fun _ => rfl⟩
                  · rename_i h
                    exact ⟨fun q => by omega, fun q => absurd q h⟩
                generalize (if H = K 0 then (1 : Int) else 0) = b at *
                have cb := c_blamed (by omega) n1 W (by omega) (by omega) hw
                have cm := c_maybe (by omega) n1 W hw
                have W0 := W.1
                by_cases u0 : u = 0
                · subst u0
                  refine ⟨s1', D, E, preC ?_, goM (by rw [if_pos (by rfl)]), I2⟩
                  rw [if_pos rfl]
                  refine bind_eq (z0_17 D) (bind_eq (z146_13 D) ?_)
                  rw [W0, M1]
                · have nu0 : ¬ (J u = J 0) := by rw [J_eq (by omega) (by omega) (by omega) (by omega)]; exact u0
                  by_cases u1 : u = 1
                  · subst u1
                    refine ⟨mkI (fun i => decide (0 < b + (tsW N (teF d) H 0 G 0 : Int) ∧ (tsW N (teF d) H (i + 1) G 0 : Int) = b + (tsW N (teF d) H 0 G 0 : Int))) G, D, E, preC ?_, goM ?_, I2⟩
                    · rw [if_neg nu0, if_pos rfl]
                      exact bind_eq (z0_17 D) (bind_eq (z146_0 D) (bind_eq cb rfl))
                    · rw [if_neg n1J, if_pos rfl]
                      by_cases cz : s1' = 0
                      · rw [if_pos cz]
                        have hz : b + (tsW N (teF d) H 0 G 0 : Int) = 0 := by
                          have h0 := hw 0
                          rw [M1, J_zero, J_eq (by omega) (by omega) (by omega) (by omega)] at cz
                          exact cz
                        congr 1
                        refine (ti_ext (fun t ht => ?_)).symm
                        rw [ti_mkI _ G (by omega), ti_J0, hz]
                        simp
                      · rw [if_neg cz]
                        have h0 := hw 0
                        have hz : 0 < b + (tsW N (teF d) H 0 G 0 : Int) := by
                          rw [M1, J_zero, J_eq (by omega) (by omega) (by omega) (by omega)] at cz
                          omega
                        congr 1
                        refine ti_ext (fun t ht => ?_)
                        rw [ti_mkI _ G (by omega), M2 t ht, Bool.eq_iff_iff, Bool.and_eq_true, Bool.and_eq_true, decide_eq_true_iff, decide_eq_true_iff, decide_eq_true_iff, decide_eq_true_iff]
                        have m4 := M4 t
                        constructor
                        · rintro ⟨a, a'⟩
                          have b0 : b = 0 := by
                            rcases hb with q | q
                            · exact q
                            · exact absurd (hbk.mp q) a
                          refine ⟨?_, hz, by omega⟩
                          by_cases q : t < G
                          · exact q
                          · rw [zr t (by omega)] at a'
                            omega
                        · rintro ⟨a, a', a''⟩
                          have b0 : b = 0 := by omega
                          refine ⟨fun q => ?_, by omega⟩
                          have := hbk.mpr q
                          omega
                  · have nu1 : ¬ (J u = J 1) := by rw [J_eq (by omega) (by omega) (by omega) (by omega)]; exact u1
                    refine ⟨mkI (fun i => decide (0 < tsW N (teF d) H (i + 1) G 0)) G, D, E, preC ?_, goM ?_, I2⟩
                    · rw [if_neg nu0, if_neg nu1]
                      exact bind_eq (z0_17 D) (bind_eq (z146_0 D) (bind_eq cm rfl))
                    · rw [if_neg (show ¬ (J u = 0) from nu0), if_neg nu1]
                      congr 1
                      refine ti_ext (fun t ht => ?_)
                      rw [ti_mkI _ G (by omega), M3 t ht, Bool.eq_iff_iff, Bool.and_eq_true, decide_eq_true_iff, decide_eq_true_iff]
                      constructor
                      · intro a
                        refine ⟨?_, a⟩
                        by_cases q : t < G
                        · exact q
                        · rw [zr t (by omega)] at a
                          omega
                      · exact fun a => a.2
              · rw [if_neg (fun h => ca h.2)] at g
                refine bad _ (by decide) (by decide) (by decide) g (preM (bind_eq w ?_))
                rw [if_pos (by rfl)]
                refine bind_eq (z183_7 d) (bind_eq (a190 d rfl) ?_)
                rw [if_pos le60]
                have mh := m_hear (D := d) (i := i) c1 c3 n60 hN (fun k k0 k1 => ⟨(s10 k k0 k1).2.1, (s10 k k0 k1).2.2.1⟩) (J u)
                cases hs : allS d i 1 N with
                | none => exact absurd hs ca
                | some t =>
                  rw [hs] at mh
                  exact bind_eq rfl (bind_eq rfl (bind_eq mh rfl))
            · rw [if_neg (fun h => cn h.1)] at g
              refine bad _ (by decide) (by decide) (by decide) g (preM (bind_eq w ?_))
              rw [if_pos (by rfl)]
              refine bind_eq (z183_7 d) (bind_eq (a190 d rfl) ?_)
              rw [if_neg (by rw [J_le (by omega) (by omega) (by omega) (by omega)]; omega)]
          · rw [if_neg k3] at w
            rw [if_neg (fun h => k3 h.2)] at g
            refine bad _ (by decide) (by decide) (by decide) g (preM (bind_eq w ?_))
            rw [if_neg (by decide)]
        · rw [if_neg k2] at w
          rw [if_neg (fun h => k2 h.1)] at g
          refine bad _ (by decide) (by decide) (by decide) g (preM (bind_eq w ?_))
          rw [if_neg (by decide)]
    · rw [B_f cu] at e3 e4
      refine ⟨J (-1), d, d, ?_, ?_, I⟩
      · unfold f_X11_ear
        refine bind_eq e1 ?_
        rw [if_neg n1J]
        exact bind_eq e3 rfl
      · unfold f_X12_ear
        refine bind_eq e2 ?_
        rw [if_neg n1J]
        exact bind_eq e4 rfl
  · rw [B_f c] at e1 e2
    exact ⟨J (-1), d, d, bind_eq e1 rfl, bind_eq e2 rfl, I⟩
end
