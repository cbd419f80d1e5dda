/-! THE LAW: all calls in any order agree -/
section
def Go (i : Nat) (o : Option ((Int32 × Hp) ⊕ Hp)) : Prop := ∃ d' : Mem, INV d' ∧ o = some (.inl (J (6 * ((i + 1 : Nat) : Int)), mkH d'))
theorem go_ite {i : Nat} {c : Prop} [Decidable c] {a b : Option ((Int32 × Hp) ⊕ Hp)} (h1 : c → Go i a) (h2 : ¬ c → Go i b) : Go i (if c then a else b) := by
  by_cases h : c
  · rw [if_pos h]
    exact h1 h
  · rw [if_neg h]
    exact h2 h
theorem go_t {i : Nat} {c : Prop} [Decidable c] {a b : Option ((Int32 × Hp) ⊕ Hp)} (h : c) (h1 : Go i a) : Go i (if c then a else b) := by
  rw [if_pos h]
  exact h1
theorem go_f {i : Nat} {c : Prop} [Decidable c] {a b : Option ((Int32 × Hp) ⊕ Hp)} (h : ¬ c) (h1 : Go i b) : Go i (if c then a else b) := by
  rw [if_neg h]
  exact h1
theorem go_bind {i : Nat} {α : Type} {o : Option α} {a : α} {f : α → Option ((Int32 × Hp) ⊕ Hp)} (h : o = some a) (k : Go i (f a)) : Go i (o.bind f) := by
  rw [h]
  exact k
theorem go_nx {i : Nat} {d : Mem} (I : INV d) : Go i ((some (J (6 * (i : Int)) + J 6)).bind fun x => some (.inl (x, mkH d))) := by
  refine ⟨d, I, ?_⟩
  rw [J_add, show 6 * (i : Int) + 6 = 6 * ((i + 1 : Nat) : Int) by omega]
  rfl
theorem lg_self (a : Int64) : lg_cmp a a = 0 := by
  unfold lg_cmp
  rw [if_neg (Int64.lt_irrefl), if_pos rfl]
theorem law_round {L i : Nat} {xs : Nat → Int32} {d : Mem} (I : INV d) (hi : 6 * i + 6 ≤ L) (hL : L ≤ 3072) : Go i (b_L_law L xs 0 183 202 (J (6 * (i : Int)), mkH d)) := by
  have ax0 : aX L xs (J (6 * (i : Int))) = some (xs (6 * i)) := by
    unfold aX
    rw [J_toI (by omega) (by omega), J_nat (by omega) (by omega), if_pos (by omega), show (6 * (i : Int)).toNat = 6 * i by omega]
  have ax : ∀ j : Nat, j ≤ 5 → aX L xs (J (6 * (i : Int)) + J (j : Int)) = some (xs (6 * i + j)) := by
    intro j hj
    unfold aX
    rw [J_add, J_toI (by omega) (by omega), J_nat (by omega) (by omega), if_pos (by omega), show (6 * (i : Int) + (j : Int)).toNat = 6 * i + j by omega]
  have a1 := ax 1 (by decide)
  have a2 := ax 2 (by decide)
  have a3 := ax 3 (by decide)
  have a4 := ax 4 (by decide)
  have a5 := ax 5 (by decide)
  unfold b_L_law
  dsimp only
  refine go_f ?_ (go_bind ax0 (go_bind rfl ?_))
  · rw [show Int32.ofNat L = J (L : Int) from (Int32.ofInt_eq_ofNat ..).symm, J_sub, J_lt (by omega) (by omega) (by omega) (by omega)]
    omega
  refine go_ite (fun _ => ?_) (fun _ => ?_)
  · obtain ⟨r, d1, d2, e1, e2, I2⟩ := ag_text I (xs (6 * i + 1))
    exact go_bind a1 (go_bind (z0_0 d) (go_bind e1 (go_bind a1 (go_bind (isO183 d1) (go_bind e2 (go_t rfl (go_nx I2)))))))
  refine go_ite (fun _ => ?_) (fun _ => ?_)
  · obtain ⟨r, e1, e2⟩ := ag_gear I (xs (6 * i + 1)) (xs (6 * i + 2))
    exact go_bind a1 (go_bind a2 (go_bind (z0_0 d) (go_bind e1 (go_bind a1 (go_bind a2 (go_bind (isO183 d) (go_bind e2 (go_t rfl (go_nx I)))))))))
  refine go_ite (fun _ => ?_) (fun _ => ?_)
  · obtain ⟨r, e1, e2⟩ := ag_width I (xs (6 * i + 1)) (xs (6 * i + 2))
    exact go_bind a1 (go_bind a2 (go_bind (z0_0 d) (go_bind e1 (go_bind a1 (go_bind a2 (go_bind (isO183 d) (go_bind e2 (go_t rfl (go_nx I)))))))))
  refine go_ite (fun _ => ?_) (fun _ => ?_)
  · obtain ⟨r, e1, e2⟩ := ag_mesh I (xs (6 * i + 1)) (xs (6 * i + 2))
    exact go_bind a1 (go_bind a2 (go_bind (z0_0 d) (go_bind e1 (go_bind a1 (go_bind a2 (go_bind (isO183 d) (go_bind e2 (go_t rfl (go_nx I)))))))))
  refine go_ite (fun _ => ?_) (fun _ => ?_)
  · obtain ⟨r, d1, d2, e1, e2, I2⟩ := ag_locked I
    exact go_bind (z0_0 d) (go_bind e1 (go_bind (isO183 d1) (go_bind e2 (go_t rfl (go_nx I2)))))
  refine go_ite (fun _ => ?_) (fun _ => ?_)
  · obtain ⟨r, d1, d2, e1, e2, I2⟩ := ag_speed I (xs (6 * i + 1)) (xs (6 * i + 2))
    exact go_bind a1 (go_bind a2 (go_bind (z0_0 d) (go_bind e1 (go_bind a1 (go_bind a2 (go_bind (isO183 d1) (go_bind e2 (go_t (lg_self _) (go_nx I2)))))))))
  refine go_ite (fun _ => ?_) (fun _ => ?_)
  · obtain ⟨r, e1, e2⟩ := ag_hunt I (xs (6 * i + 1)) (xs (6 * i + 2)) (xs (6 * i + 3))
    exact go_bind a1 (go_bind a2 (go_bind a3 (go_bind (z0_0 d) (go_bind e1 (go_bind a1 (go_bind a2 (go_bind a3 (go_bind (isO183 d) (go_bind e2 (go_t rfl (go_nx I)))))))))))
  refine go_ite (fun _ => ?_) (fun _ => ?_)
  · obtain ⟨r, e1, e2⟩ := ag_planets (xs (6 * i + 1)) (xs (6 * i + 2)) (xs (6 * i + 3))
    exact go_bind a1 (go_bind a2 (go_bind a3 (go_bind (z0_0 d) (go_bind e1 (go_bind a1 (go_bind a2 (go_bind a3 (go_bind (isO183 d) (go_bind e2 (go_t rfl (go_nx I)))))))))))
  refine go_ite (fun _ => ?_) (fun _ => ?_)
  · obtain ⟨r, e1, e2⟩ := ag_most (xs (6 * i + 1)) (xs (6 * i + 2))
    exact go_bind a1 (go_bind a2 (go_bind (z0_0 d) (go_bind e1 (go_bind a1 (go_bind a2 (go_bind (isO183 d) (go_bind e2 (go_t rfl (go_nx I)))))))))
  refine go_ite (fun _ => ?_) (fun _ => ?_)
  · obtain ⟨r, d1, d2, e1, e2, I2⟩ := ag_cut I (xs (6 * i + 1)) (xs (6 * i + 2)) (xs (6 * i + 3))
    exact go_bind a1 (go_bind a2 (go_bind a3 (go_bind (z0_0 d) (go_bind e1 (go_bind a1 (go_bind a2 (go_bind a3 (go_bind (isO183 d1) (go_bind e2 (go_t rfl (go_nx I2)))))))))))
  refine go_ite (fun _ => ?_) (fun _ => ?_)
  · obtain ⟨r, d1, e1, e2, I2⟩ := ag_off I (xs (6 * i + 1)) (xs (6 * i + 2))
    exact go_bind a1 (go_bind a2 (go_bind (z0_0 d) (go_bind e1 (go_bind a1 (go_bind a2 (go_bind (isO183 d1) (go_bind e2 (go_t rfl (go_nx I2)))))))))
  refine go_ite (fun _ => ?_) (fun _ => ?_)
  · obtain ⟨r, d1, e1, e2, I2⟩ := ag_touch I (xs (6 * i + 1)) (xs (6 * i + 2))
    exact go_bind a1 (go_bind a2 (go_bind (z0_0 d) (go_bind e1 (go_bind a1 (go_bind a2 (go_bind (isO183 d1) (go_bind e2 (go_t rfl (go_nx I2)))))))))
  refine go_ite (fun _ => ?_) (fun _ => ?_)
  · obtain ⟨r, d1, e1, e2, I2⟩ := ag_jam I (xs (6 * i + 1))
    exact go_bind a1 (go_bind (z0_0 d) (go_bind e1 (go_bind a1 (go_bind (isO183 d1) (go_bind e2 (go_t rfl (go_nx I2)))))))
  refine go_ite (fun _ => ?_) (fun _ => ?_)
  · obtain ⟨r, d1, e1, e2, I2⟩ := ag_gap I (xs (6 * i + 1))
    exact go_bind a1 (go_bind (z0_0 d) (go_bind e1 (go_bind a1 (go_bind (isO183 d1) (go_bind e2 (go_t rfl (go_nx I2)))))))
  refine go_ite (fun _ => ?_) (fun _ => ?_)
  · obtain ⟨r, d1, e1, e2, I2⟩ := ag_even I (xs (6 * i + 1))
    exact go_bind a1 (go_bind (z0_0 d) (go_bind e1 (go_bind a1 (go_bind (isO183 d1) (go_bind e2 (go_t rfl (go_nx I2)))))))
  refine go_ite (fun _ => ?_) (fun _ => ?_)
  · obtain ⟨r, d1, d2, e1, e2, I2⟩ := ag_room I (xs (6 * i + 1)) (xs (6 * i + 2))
    exact go_bind a1 (go_bind a2 (go_bind (z0_0 d) (go_bind e1 (go_bind a1 (go_bind a2 (go_bind (isO183 d1) (go_bind e2 (go_t rfl (go_nx I2)))))))))
  refine go_ite (fun _ => ?_) (fun _ => ?_)
  · obtain ⟨r, d1, d2, e1, e2, I2⟩ := ag_wear I (xs (6 * i + 1)) (xs (6 * i + 2)) (xs (6 * i + 3))
    exact go_bind a1 (go_bind a2 (go_bind a3 (go_bind (z0_0 d) (go_bind e1 (go_bind a1 (go_bind a2 (go_bind a3 (go_bind (isO183 d1) (go_bind e2 (go_t rfl (go_nx I2)))))))))))
  refine go_ite (fun _ => ?_) (fun _ => ?_)
  · obtain ⟨r, d1, d2, e1, e2, I2⟩ := ag_until I (xs (6 * i + 1)) (xs (6 * i + 2)) (xs (6 * i + 3))
    exact go_bind a1 (go_bind a2 (go_bind a3 (go_bind (z0_0 d) (go_bind e1 (go_bind a1 (go_bind a2 (go_bind a3 (go_bind (isO183 d1) (go_bind e2 (go_t rfl (go_nx I2)))))))))))
  refine go_ite (fun _ => ?_) (fun _ => ?_)
  · obtain ⟨r, d1, e1, e2, I2⟩ := ag_loud I (xs (6 * i + 1)) (xs (6 * i + 2))
    exact go_bind a1 (go_bind a2 (go_bind (z0_0 d) (go_bind e1 (go_bind a1 (go_bind a2 (go_bind (isO183 d1) (go_bind e2 (go_t (lg_self _) (go_nx I2)))))))))
  refine go_ite (fun _ => ?_) (fun _ => ?_)
  · obtain ⟨r, d1, e1, e2, I2⟩ := ag_whine I (xs (6 * i + 1))
    exact go_bind a1 (go_bind (z0_0 d) (go_bind e1 (go_bind a1 (go_bind (isO183 d1) (go_bind e2 (go_t rfl (go_nx I2)))))))
  refine go_ite (fun _ => ?_) (fun _ => ?_)
  · obtain ⟨r, d1, d2, e1, e2, I2⟩ := ag_pair I (xs (6 * i + 1)) (xs (6 * i + 2))
    exact go_bind a1 (go_bind a2 (go_bind (z0_0 d) (go_bind e1 (go_bind a1 (go_bind a2 (go_bind (isO183 d1) (go_bind e2 (go_t rfl (go_nx I2)))))))))
  refine go_ite (fun _ => ?_) (fun _ => ?_)
  · obtain ⟨r, d1, d2, e1, e2, I2⟩ := ag_clear I
    exact go_bind (z0_0 d) (go_bind e1 (go_bind (isO183 d1) (go_bind e2 (go_t rfl (go_nx I2)))))
  refine go_ite (fun _ => ?_) (fun _ => ?_)
  · obtain ⟨r, e1, e2⟩ := ag_pushed I (xs (6 * i + 1))
    exact go_bind a1 (go_bind (z0_0 d) (go_bind e1 (go_bind a1 (go_bind (isO183 d) (go_bind e2 (go_t rfl (go_nx I)))))))
  refine go_ite (fun _ => ?_) (fun _ => ?_)
  · obtain ⟨r, e1, e2⟩ := ag_share I (xs (6 * i + 1)) (xs (6 * i + 2))
    exact go_bind a1 (go_bind a2 (go_bind (z0_0 d) (go_bind e1 (go_bind a1 (go_bind a2 (go_bind (isO183 d) (go_bind e2 (go_t rfl (go_nx I)))))))))
  refine go_ite (fun _ => ?_) (fun _ => ?_)
  · obtain ⟨r, e1, e2⟩ := ag_bearing I (xs (6 * i + 1))
    exact go_bind a1 (go_bind (z0_0 d) (go_bind e1 (go_bind a1 (go_bind (isO183 d) (go_bind e2 (go_t rfl (go_nx I)))))))
  refine go_ite (fun _ => ?_) (fun _ => ?_)
  · obtain ⟨r, d1, d2, e1, e2, I2⟩ := ag_fault I (xs (6 * i + 1))
    exact go_bind a1 (go_bind (z0_0 d) (go_bind e1 (go_bind a1 (go_bind (isO183 d1) (go_bind e2 (go_t rfl (go_nx I2)))))))
  refine go_ite (fun _ => ?_) (fun _ => ?_)
  · obtain ⟨r, d1, d2, e1, e2, I2⟩ := ag_rule I (xs (6 * i + 1))
    exact go_bind a1 (go_bind (z0_0 d) (go_bind e1 (go_bind a1 (go_bind (isO183 d1) (go_bind e2 (go_t rfl (go_nx I2)))))))
  refine go_ite (fun _ => ?_) (fun _ => ?_)
  · obtain ⟨r, d1, d2, e1, e2, I2⟩ := ag_holds I (xs (6 * i + 1)) (xs (6 * i + 2))
    exact go_bind a1 (go_bind a2 (go_bind (z0_0 d) (go_bind e1 (go_bind a1 (go_bind a2 (go_bind (isO183 d1) (go_bind e2 (go_t rfl (go_nx I2)))))))))
  refine go_ite (fun _ => ?_) (fun _ => ?_)
  · obtain ⟨r, d1, d2, e1, e2, I2⟩ := ag_watch I (xs (6 * i + 1)) (xs (6 * i + 2)) (xs (6 * i + 3))
    exact go_bind a1 (go_bind a2 (go_bind a3 (go_bind (z0_0 d) (go_bind e1 (go_bind a1 (go_bind a2 (go_bind a3 (go_bind (isO183 d1) (go_bind e2 (go_t rfl (go_nx I2)))))))))))
  refine go_ite (fun _ => ?_) (fun _ => ?_)
  · obtain ⟨r, d1, d2, e1, e2, I2⟩ := ag_ear I (xs (6 * i + 1)) (xs (6 * i + 2))
    exact go_bind a1 (go_bind a2 (go_bind (z0_0 d) (go_bind e1 (go_bind a1 (go_bind a2 (go_bind (isO183 d1) (go_bind e2 (go_t rfl (go_nx I2)))))))))
  refine go_ite (fun _ => ?_) (fun _ => ?_)
  · obtain ⟨r, d1, d2, e1, e2, I2⟩ := ag_bestShift I (xs (6 * i + 1)) (xs (6 * i + 2)) (xs (6 * i + 3))
    exact go_bind a1 (go_bind a2 (go_bind a3 (go_bind (z0_0 d) (go_bind e1 (go_bind a1 (go_bind a2 (go_bind a3 (go_bind (isO183 d1) (go_bind e2 (go_t rfl (go_nx I2)))))))))))
  refine go_ite (fun _ => ?_) (fun _ => ?_)
  · obtain ⟨r, d1, d2, e1, e2, I2⟩ := ag_readBack I (xs (6 * i + 1)) (xs (6 * i + 2)) (xs (6 * i + 3)) (xs (6 * i + 4))
    exact go_bind a1 (go_bind a2 (go_bind a3 (go_bind a4 (go_bind (z0_0 d) (go_bind e1 (go_bind a1 (go_bind a2 (go_bind a3 (go_bind a4 (go_bind (isO183 d1) (go_bind e2 (go_t rfl (go_nx I2)))))))))))))
  refine go_ite (fun _ => ?_) (fun _ => ?_)
  · obtain ⟨r, d1, d2, e1, e2, I2⟩ := ag_image I
    exact go_bind (z0_0 d) (go_bind e1 (go_bind (isO183 d1) (go_bind e2 (go_t rfl (go_nx I2)))))
  refine go_ite (fun _ => ?_) (fun _ => ?_)
  · obtain ⟨r, d1, d2, e1, e2, I2⟩ := ag_restore I
    exact go_bind (z0_0 d) (go_bind e1 (go_bind (isO183 d1) (go_bind e2 (go_t rfl (go_nx I2)))))
  refine go_ite (fun _ => ?_) (fun _ => ?_)
  · obtain ⟨r, d1, d2, e1, e2, I2⟩ := ag_count I (xs (6 * i + 1))
    exact go_bind a1 (go_bind (z0_0 d) (go_bind e1 (go_bind a1 (go_bind (isO183 d1) (go_bind e2 (go_t rfl (go_nx I2)))))))
  refine go_ite (fun _ => ?_) (fun _ => ?_)
  · obtain ⟨r, d1, d2, e1, e2, I2⟩ := ag_keep I (xs (6 * i + 1)) (xs (6 * i + 2)) (xs (6 * i + 3))
    exact go_bind a1 (go_bind a2 (go_bind a3 (go_bind (z0_0 d) (go_bind e1 (go_bind a1 (go_bind a2 (go_bind a3 (go_bind (isO183 d1) (go_bind e2 (go_t rfl (go_nx I2)))))))))))
  refine go_ite (fun _ => ?_) (fun _ => ?_)
  · obtain ⟨r, d1, d2, e1, e2, I2⟩ := ag_row I (xs (6 * i + 1)) (xs (6 * i + 2)) (xs (6 * i + 3))
    exact go_bind a1 (go_bind a2 (go_bind a3 (go_bind (z0_0 d) (go_bind e1 (go_bind a1 (go_bind a2 (go_bind a3 (go_bind (isO183 d1) (go_bind e2 (go_t rfl (go_nx I2)))))))))))
  refine go_ite (fun _ => ?_) (fun _ => ?_)
  · obtain ⟨r, d1, d2, e1, e2, I2⟩ := ag_put I (xs (6 * i + 1)) (xs (6 * i + 2)) (xs (6 * i + 3))
    exact go_bind a1 (go_bind a2 (go_bind a3 (go_bind (z0_0 d) (go_bind e1 (go_bind a1 (go_bind a2 (go_bind a3 (go_bind (isO183 d1) (go_bind e2 (go_t rfl (go_nx I2)))))))))))
  refine go_ite (fun _ => ?_) (fun _ => ?_)
  · have sc1 : ∀ k, Sc 202 k := fun k => by unfold Sc; omega
    have sc2 : Sc 183 11 := by unfold Sc; omega
    rcases ag_element I (xs (6 * i + 1)) (xs (6 * i + 2)) with ⟨v, v0, v1, e1, e2⟩ | ⟨e1, e2⟩ | ⟨e1, e2⟩
    · have l1 : f_L_element (mkH d) 0 (xs (6 * i + 1)) (xs (6 * i + 2)) 202 = some (J 0, mkH (up d 202 0 v)) := bind_eq (z0_0 d) (bind_eq e1 (bind_eq (z202_1 d 0 v (by decide) (by decide)) rfl))
      have e3 := e2 (up d 202 0 v) (fun a k h => up_na h)
      have l2 : f_X12_thrown (mkH (up (up d 202 0 v) 183 11 0)) 183 = some (J 0) := by
        refine bind_eq (z183_13 _) ?_
        rw [up_same]
      have l3 : aL (mkH (up (up d 202 0 v) 183 11 0)) 202 (J 0) = some (K v) := by
        rw [z202_0 _ 0 (by decide) (by decide), up_na (by decide), up_same]
      exact go_bind a1 (go_bind a2 (go_bind l1 (go_bind a1 (go_bind a2 (go_bind (isO183 _) (go_bind e3 (go_bind (isO183 _) (go_bind l2 (go_t rfl (go_t rfl (go_bind l3 (go_t (lg_self _) (go_nx (INV_fr I (FrUp (FrUp (FrRf d) (sc1 0)) sc2)))))))))))))))
    · have l1 : f_L_element (mkH d) 0 (xs (6 * i + 1)) (xs (6 * i + 2)) 202 = some (J 1, mkH d) := bind_eq (z0_0 d) (bind_eq e1 (if_pos rfl))
      have l2 : f_X12_thrown (mkH (up d 183 11 1)) 183 = some (J 1) := by
        refine bind_eq (z183_13 _) ?_
        rw [up_same]
      exact go_bind a1 (go_bind a2 (go_bind l1 (go_bind a1 (go_bind a2 (go_bind (isO183 _) (go_bind e2 (go_bind (isO183 _) (go_bind l2 (go_t rfl (go_f (show ¬ (J 1 = (0 : Int32)) by decide) (go_nx (INV_fr I (FrUp (FrRf d) sc2)))))))))))))
    · have l1 : f_L_element (mkH d) 0 (xs (6 * i + 1)) (xs (6 * i + 2)) 202 = some (J 2, mkH d) := bind_eq (z0_0 d) (bind_eq e1 ((if_neg (by decide)).trans (if_pos rfl)))
      have l2 : f_X12_thrown (mkH (up d 183 11 2)) 183 = some (J 2) := by
        refine bind_eq (z183_13 _) ?_
        rw [up_same]
      exact go_bind a1 (go_bind a2 (go_bind l1 (go_bind a1 (go_bind a2 (go_bind (isO183 _) (go_bind e2 (go_bind (isO183 _) (go_bind l2 (go_t rfl (go_f (show ¬ (J 2 = (0 : Int32)) by decide) (go_nx (INV_fr I (FrUp (FrRf d) sc2)))))))))))))
  refine go_ite (fun _ => ?_) (fun _ => ?_)
  · obtain ⟨r, d1, d2, e1, e2, I2⟩ := ag_copy I (xs (6 * i + 1)) (xs (6 * i + 2)) (xs (6 * i + 3)) (xs (6 * i + 4)) (xs (6 * i + 5))
    exact go_bind a1 (go_bind a2 (go_bind a3 (go_bind a4 (go_bind a5 (go_bind (z0_0 d) (go_bind e1 (go_bind a1 (go_bind a2 (go_bind a3 (go_bind a4 (go_bind a5 (go_bind (isO183 d1) (go_bind e2 (go_t rfl (go_nx I2)))))))))))))))
  refine go_ite (fun _ => ?_) (fun _ => ?_)
  · obtain ⟨r, e1, e2⟩ := ag_weight I (xs (6 * i + 1))
    exact go_bind a1 (go_bind (z0_0 d) (go_bind e1 (go_bind a1 (go_bind (isO183 d) (go_bind e2 (go_t rfl (go_nx I)))))))
  refine go_ite (fun _ => ?_) (fun _ => ?_)
  · obtain ⟨r, e1, e2⟩ := ag_toss I (xs (6 * i + 1))
    exact go_bind a1 (go_bind (z0_0 d) (go_bind e1 (go_bind a1 (go_bind (isO183 d) (go_bind e2 (go_t rfl (go_nx I)))))))
  exact go_nx I
theorem law_end {L i : Nat} {xs : Nat → Int32} {h : Hp} (hi : L < 6 * i + 6) (hi2 : 6 * i ≤ L + 6) (hL : L ≤ 3072) : b_L_law L xs 0 183 202 (J (6 * (i : Int)), h) = some (.inr h) := by
  unfold b_L_law
  dsimp only
  rw [if_pos]
  rw [show Int32.ofNat L = J (L : Int) from (Int32.ofInt_eq_ofNat ..).symm, J_sub, J_lt (by omega) (by omega) (by omega) (by omega)]
  omega
theorem law_pure {L : Nat} {xs : Nat → Int32} (hL : L ≤ 3072) : f_L_law 203 0 L xs (fun _ => none) = some () := by
  obtain ⟨r2, r5, k2, k5, e⟩ := law_0
  have Q : ∃ e, iter (b_L_law L xs 0 183 202) FU (J 0, mkH d0) = some e ∧ True := by
    refine iter_inv (fun (i : Nat) (s : Int32 × Hp) => 6 * i ≤ L + 6 ∧ ∃ d, INV d ∧ s = (J (6 * (i : Int)), mkH d)) (fun _ => True) 600 (by decide) ⟨by omega, d0, INV0, rfl⟩ (fun i s hi hs => ?_)
    obtain ⟨h1, d, I, rfl⟩ := hs
    by_cases c : 6 * i + 6 ≤ L
    · obtain ⟨d', I', e'⟩ := law_round (xs := xs) I c hL
      exact Or.inl ⟨_, by omega, e', by omega, d', I', rfl⟩
    · exact Or.inr ⟨_, law_end (by omega) h1 hL, trivial⟩
  obtain ⟨y, ky, -⟩ := Q
  unfold f_L_law
  refine bind_eq (cap_ok (Nat.le_of_ble_eq_true rfl)) (bind_eq (cap_ok (Nat.le_of_ble_eq_true rfl)) (bind_eq k2 (bind_eq (cap_ok (Nat.le_of_ble_eq_true rfl)) (bind_eq (cap_ok (Nat.le_of_ble_eq_true rfl)) (bind_eq k5 (bind_eq (cap_ok (Nat.le_of_ble_eq_true rfl)) (bind_eq rfl ?_)))))))
  exact bind_eq ((congrArg (fun h => iter (b_L_law L xs 0 183 202) FU (J 0, h)) e).trans ky) rfl
end
