/-! THE MEMORY: all objects of a run have fixed numbers (0 to 202); a heap is then a function d of number and place, in whole numbers -/
abbrev Mem : Type := Nat → Int → Int
def up (d : Mem) (a : Nat) (k v : Int) : Mem := fun a' k' => if a' = a ∧ k' = k then v else d a' k'
def isGa (a : Nat) : Bool := (decide (6 ≤ a) && decide (a ≤ 28) && decide (a % 2 = 0)) || (decide (35 ≤ a) && decide (a ≤ 57) && decide (a % 2 = 1)) || (decide (82 ≤ a) && decide (a ≤ 104) && decide (a % 2 = 0)) || decide (a = 136) || decide (a = 138) || decide (a = 141) || decide (a = 143) || (decide (152 ≤ a) && decide (a ≤ 180) && decide (a % 4 = 0))
/-- an object: its class, and of each field: 0 int, 1 long, 2 reference that changes, 100 + r the reference r -/
def shO (a : Nat) : Option (Nat × List Nat) :=
  if isGa a = true then some (0, [0, 0, 0, 0, 101 + a])
  else if a = 0 then some (10, [101, 130, 159, 162, 177, 206, 209, 0, 224, 225, 228, 231, 236, 238, 240, 246])
  else if a = 1 ∨ a = 30 ∨ a = 77 then some (3, [101 + a, 0, 102 + a, 103 + a, 104 + a, 0])
  else if a = 59 ∨ a = 106 then some (2, [101 + a, 102 + a, 0])
  else if a = 62 ∨ a = 109 then some (5, [101 + a, 114 + a, 0])
  else if a = 125 then some (8, [2, 0, 0, 0, 0, 0, 227])
  else if a = 128 then some (6, [2, 0, 0, 0, 230])
  else if a = 131 then some (9, [232, 233, 234, 235, 1, 1])
  else if a = 140 then some (4, [2, 2, 0, 245])
  else if a = 146 then some (1, [247, 0, 0, 1, 0, 248, 249, 250, 0])
  else if 151 ≤ a ∧ a ≤ 179 ∧ a % 4 = 3 then some (7, [0, 101 + a, 0, 0, 103 + a])
  else if a = 183 then some (11, [284, 285, 286, 287, 288, 289, 290, 291, 292, 293, 0, 0, 0, 0, 0, 0, 2, 294, 295, 296, 297, 298, 1, 1, 299, 0, 0, 0, 300, 301])
  else none
/-- an array: its tag and length -/
def shA (a : Nat) : Option (Nat × Nat) :=
  if isGa (a - 1) = true then some (0, 16)
  else if a = 2 ∨ a = 31 ∨ a = 78 then some (3, 12)
  else if a = 3 ∨ a = 4 ∨ a = 5 ∨ a = 32 ∨ a = 33 ∨ a = 34 ∨ a = 79 ∨ a = 80 ∨ a = 81 then some (0, 16)
  else if a = 60 ∨ a = 61 ∨ a = 107 ∨ a = 108 then some (0, 6)
  else if a = 63 ∨ a = 110 then some (5, 12)
  else if 64 ≤ a ∧ a ≤ 75 ∨ 111 ≤ a ∧ a ≤ 122 then some (0, 120)
  else if a = 76 ∨ a = 123 then some (0, 12)
  else if a = 124 then some (4, 8)
  else if a = 126 ∨ a = 129 then some (0, 0)
  else if a = 127 then some (0, 3)
  else if a = 130 then some (0, 7)
  else if a = 132 then some (0, 8)
  else if a = 133 ∨ a = 134 then some (1, 8)
  else if a = 135 then some (2, 8)
  else if a = 145 then some (0, 16)
  else if a = 147 then some (3, 12)
  else if a = 148 then some (1, 12)
  else if a = 149 ∨ a = 150 then some (0, 12)
  else if 154 ≤ a ∧ a ≤ 182 ∧ a % 4 = 2 then some (0, 120)
  else if a = 184 then some (0, 16)
  else if a = 185 ∨ a = 186 ∨ a = 187 then some (0, 1744)
  else if a = 188 ∨ a = 189 ∨ a = 190 ∨ a = 192 ∨ a = 193 ∨ a = 195 then some (0, 8)
  else if a = 191 then some (0, 960)
  else if a = 194 then some (0, 3)
  else if a = 196 ∨ a = 197 then some (1, 8)
  else if a = 198 then some (2, 8)
  else if a = 199 then some (0, 16)
  else if a = 200 then some (1, 1200)
  else if a = 201 then some (0, 1200)
  else if a = 202 then some (1, 1)
  else none
def shR (a : Nat) : Option (Nat × Nat) := match shO a with
  | some _ => none
  | none => shA a
/-- arrays of references that never change: element k is b + m k -/
def cR (a : Nat) : Option (Nat × Nat) :=
  if a = 2 ∨ a = 31 ∨ a = 78 then some (a + 4, 2)
  else if a = 63 ∨ a = 110 then some (a + 1, 1)
  else if a = 124 then some (151, 4)
  else none
def vF (c : Nat) (z : Int) : Value := if c = 0 then .int (J z) else if c = 1 then .long (K z) else if c = 2 then .ref z.toNat else .ref (c - 100)
def fvs (w : Int → Int) : List Nat → Int → List Value
  | [], _ => []
  | c :: cs, j => vF c (w j) :: fvs w cs (j + 1)
def arF (w : Int → Int) (cr : Option (Nat × Nat)) (t len : Nat) : vp_A :=
  if t = 1 then (len, .inr (.inl fun k => K (w k)))
  else if t = 0 ∨ t = 2 then (len, .inl fun k => J (w k))
  else match cr with
    | some (b, m) => (len, .inr (.inr (.inr (.inr fun k => if k < len then some (b + m * k) else none))))
    | none => (len, .inr (.inr (.inr (.inr fun k => if w k < 0 then none else some (w k).toNat))))
def mkH (d : Mem) : Hp := fun a => match shO a with
  | some (c, cs) => some (c, .inl (fvs (d a) cs 0))
  | none => match shA a with
    | some (t, len) => some (t, .inr (arF (d a) (cR a) t len))
    | none => none
theorem arF_0 (w : Int → Int) (cr : Option (Nat × Nat)) (len : Nat) : arF w cr 0 len = (len, .inl fun k => J (w k)) := rfl
theorem arF_1 (w : Int → Int) (cr : Option (Nat × Nat)) (len : Nat) : arF w cr 1 len = (len, .inr (.inl fun k => K (w k))) := rfl
theorem arF_2 (w : Int → Int) (cr : Option (Nat × Nat)) (len : Nat) : arF w cr 2 len = (len, .inl fun k => J (w k)) := rfl
theorem arF_c (w : Int → Int) (b m t len : Nat) (ht : 3 ≤ t) : arF w (some (b, m)) t len = (len, .inr (.inr (.inr (.inr fun k => if k < len then some (b + m * k) else none)))) := by
  unfold arF
  rw [if_neg (by omega), if_neg (by omega)]
theorem arF_v (w : Int → Int) (t len : Nat) (ht : 3 ≤ t) : arF w none t len = (len, .inr (.inr (.inr (.inr fun k => if w k < 0 then none else some (w k).toNat)))) := by
  unfold arF
  rw [if_neg (by omega), if_neg (by omega)]
theorem up_same (d : Mem) (a : Nat) (k v : Int) : up d a k v a k = v := by simp [up]
theorem up_na {d : Mem} {a a' : Nat} {k k' v : Int} (h : a' ≠ a) : up d a k v a' k' = d a' k' := by simp [up, h]
theorem up_nk {d : Mem} {a a' : Nat} {k k' v : Int} (h : k' ≠ k) : up d a k v a' k' = d a' k' := by simp [up, h]
theorem up_row {d : Mem} {a a' : Nat} {k v : Int} (h : a' ≠ a) : up d a k v a' = d a' := by funext k'; exact up_na h
theorem mkH_row {d d' : Mem} {a : Nat} (h : d a = d' a) : mkH d a = mkH d' a := by simp [mkH, h]
theorem mkH_O {d : Mem} {a c : Nat} {cs : List Nat} (hs : shO a = some (c, cs)) : mkH d a = some (c, .inl (fvs (d a) cs 0)) := by simp [mkH, hs]
theorem mkH_A {d : Mem} {a t len : Nat} (hs : shR a = some (t, len)) : mkH d a = some (t, .inr (arF (d a) (cR a) t len)) := by
  unfold shR at hs
  split at hs
  · cases hs
  · rename_i h1
    simp [mkH, h1, hs]
theorem fvs_get (w : Int → Int) : ∀ (cs : List Nat) (j : Int) (k : Nat), (fvs w cs j)[k]? = (cs[k]?).map (fun c => vF c (w (j + k)))
  | [], _, _ => by simp [fvs]
  | c :: cs, j, 0 => by simp [fvs]
  | c :: cs, j, k + 1 => by
    have e : j + 1 + (k : Int) = j + ((k + 1 : Nat) : Int) := by omega
    simp only [fvs, List.getElem?_cons_succ]
    rw [fvs_get w cs (j + 1) k, e]
theorem fvs_len (w : Int → Int) : ∀ (cs : List Nat) (j : Int), (fvs w cs j).length = cs.length
  | [], _ => rfl
  | c :: cs, j => by simp [fvs, fvs_len w cs (j + 1)]
theorem fvs_cong {w w' : Int → Int} : ∀ (cs : List Nat) (j : Int), (∀ i, j ≤ i → w i = w' i) → fvs w cs j = fvs w' cs j
  | [], _, _ => rfl
  | c :: cs, j, h => by simp only [fvs]; rw [h j (Int.le_refl j), fvs_cong cs (j + 1) (fun i hi => h i (by omega))]
theorem fvs_set (w : Int → Int) (v : Int) : ∀ (cs : List Nat) (j : Int) (k c : Nat), cs[k]? = some c → (fvs w cs j).set k (vF c v) = fvs (fun i => if i = j + k then v else w i) cs j
  | [], _, _, _, h => by simp at h
  | c0 :: cs, j, 0, c, h => by
    simp at h
    subst h
    simp only [fvs, List.set_cons_zero]
    rw [if_pos (by simp), fvs_cong (w := w) (w' := fun i => if i = j + ((0 : Nat) : Int) then v else w i) cs (j + 1) (fun i hi => by rw [if_neg (by omega)])]
  | c0 :: cs, j, k + 1, c, h => by
    have e : (fun i => if i = j + 1 + (k : Int) then v else w i) = (fun i => if i = j + ((k + 1 : Nat) : Int) then v else w i) := by
      funext i
      rw [show j + 1 + (k : Int) = j + ((k + 1 : Nat) : Int) by omega]
    simp only [fvs, List.set_cons_succ]
    rw [fvs_set w v cs (j + 1) k c (by simpa using h), e, if_neg (by omega)]
theorem mk_up {d : Mem} {a : Nat} {k v : Int} {o : Option Ob} (h : mkH (up d a k v) a = o) : va_up (mkH d) a o = mkH (up d a k v) := by
  funext a'
  by_cases e : a' = a
  · subst e
    rw [va_up_self, h]
  · rw [va_up_ne _ _ e]
    exact mkH_row (up_row e).symm
theorem up_self_row (d : Mem) (a : Nat) (k v : Int) : up d a k v a = fun i => if i = k then v else d a i := by
  funext i
  simp [up]
section
variable {d : Mem} {a c j : Nat} {cs : List Nat}
theorem q_isO (hs : shO a = some (c, cs)) : isO (mkH d) a c = some () := by simp [isO, mkH_O hs]
theorem q_gI (hs : shO a = some (c, cs)) (hc : cs[j]? = some 0) : gI (mkH d) a c j = some (J (d a j)) := gI_at (mkH_O hs) (by rw [fvs_get, hc]; simp [vF])
theorem q_gL (hs : shO a = some (c, cs)) (hc : cs[j]? = some 1) : gL (mkH d) a c j = some (K (d a j)) := gL_at (mkH_O hs) (by rw [fvs_get, hc]; simp [vF])
theorem q_gV (hs : shO a = some (c, cs)) (hc : cs[j]? = some 2) : gR (mkH d) a c j = some (d a j).toNat := gR_at (mkH_O hs) (by rw [fvs_get, hc]; simp [vF])
theorem q_gR {r : Nat} (hs : shO a = some (c, cs)) (hc : cs[j]? = some (r + 100)) : gR (mkH d) a c j = some r := gR_at (mkH_O hs) (by rw [fvs_get, hc]; simp [vF])
theorem q_pF {v : Int} {k : Nat} (hs : shO a = some (c, cs)) (hc : cs[j]? = some k) : pF (mkH d) a c j (vF k v) = some (mkH (up d a j v)) := by
  have hj : j < cs.length := (List.getElem?_eq_some_iff.mp hc).1
  rw [pF_at (mkH_O hs) (by rw [fvs_len]; exact hj), fvs_set _ _ _ _ _ _ hc]
  congr 1
  apply mk_up
  rw [mkH_O hs, up_self_row]
  simp
theorem q_pI {v : Int} (hs : shO a = some (c, cs)) (hc : cs[j]? = some 0) : pF (mkH d) a c j (.int (J v)) = some (mkH (up d a j v)) := q_pF hs hc
theorem q_pL {v : Int} (hs : shO a = some (c, cs)) (hc : cs[j]? = some 1) : pF (mkH d) a c j (.long (K v)) = some (mkH (up d a j v)) := q_pF hs hc
theorem q_pR {r : Nat} (hs : shO a = some (c, cs)) (hc : cs[j]? = some 2) : pF (mkH d) a c j (.ref r) = some (mkH (up d a j r)) := q_pF (v := (r : Int)) hs hc
end
section
variable {d : Mem} {a len : Nat} {i v : Int}
theorem inJ (h0 : 0 ≤ i) (h1 : i < len) (hl : len ≤ 2147483648) : 0 ≤ (J i).toInt ∧ (J i).toInt < len := by
  rw [J_toI (by omega) (by omega)]
  exact ⟨h0, h1⟩
theorem natJ (h0 : 0 ≤ i) (h1 : i < len) (hl : len ≤ 2147483648) : (((J i).toNatClampNeg : Nat) : Int) = i := by
  rw [J_nat (by omega) (by omega)]
  omega
theorem q_aI (hs : shR a = some (0, len)) (hl : len ≤ 2147483648) (h0 : 0 ≤ i) (h1 : i < len) : aI (mkH d) a (J i) = some (J (d a i)) := by
  unfold aI
  rw [mkH_A hs, arF_0]
  simp only []
  rw [if_pos (inJ h0 h1 hl), natJ h0 h1 hl]
theorem q_aL (hs : shR a = some (1, len)) (hl : len ≤ 2147483648) (h0 : 0 ≤ i) (h1 : i < len) : aL (mkH d) a (J i) = some (K (d a i)) := by
  unfold aL
  rw [mkH_A hs, arF_1]
  simp only []
  rw [if_pos (inJ h0 h1 hl), natJ h0 h1 hl]
theorem q_aZ (hs : shR a = some (2, len)) (hl : len ≤ 2147483648) (h0 : 0 ≤ i) (h1 : i < len) : aZ (mkH d) a (J i) = some (J (d a i)) := by
  unfold aZ
  rw [mkH_A hs, arF_2]
  simp only []
  rw [if_pos (inJ h0 h1 hl), natJ h0 h1 hl]
theorem q_aN {t : Nat} (hs : shR a = some (t, len)) (ht : t < 6) : aN (mkH d) a = some (J len) := by
  unfold aN
  rw [mkH_A hs]
  have e : ∃ x, arF (d a) (cR a) t len = (len, x) := by
    unfold arF
    split
    · exact ⟨_, rfl⟩
    · split
      · exact ⟨_, rfl⟩
      · split
        · exact ⟨_, rfl⟩
        · exact ⟨_, rfl⟩
  obtain ⟨x, hx⟩ := e
  rw [hx]
  simp only []
  rw [if_pos ht]
  rfl
theorem q_aR {t b m : Nat} (hs : shR a = some (t, len)) (hc : cR a = some (b, m)) (ht : 3 ≤ t) (hl : len ≤ 2147483648) (h0 : 0 ≤ i) (h1 : i < len) : aR (mkH d) a t (J i) = some (b + m * i.toNat) := by
  unfold aR
  rw [mkH_A hs, hc, arF_c _ _ _ _ _ ht]
  simp only []
  have e : (J i).toNatClampNeg = i.toNat := J_nat (by omega) (by omega)
  rw [if_pos ⟨trivial, inJ h0 h1 hl⟩, e, if_pos (by omega)]
theorem q_aV {t : Nat} (hs : shR a = some (t, len)) (hc : cR a = none) (ht : 3 ≤ t) (hl : len ≤ 2147483648) (h0 : 0 ≤ i) (h1 : i < len) (hv : 0 ≤ d a i) : aR (mkH d) a t (J i) = some (d a i).toNat := by
  unfold aR
  rw [mkH_A hs, hc, arF_v _ _ _ ht]
  simp only []
  rw [if_pos ⟨trivial, inJ h0 h1 hl⟩, natJ h0 h1 hl, if_neg (by omega)]
theorem updJ (w : Int → Int) (h0 : 0 ≤ i) (h1 : i < len) (hl : len ≤ 2147483648) : upd (fun k : Nat => J (w k)) (J i).toNatClampNeg (J v) = fun k : Nat => J ((fun z : Int => if z = i then v else w z) (k : Int)) := by
  funext k
  have e : (J i).toNatClampNeg = i.toNat := J_nat (by omega) (by omega)
  show (if k = (J i).toNatClampNeg then J v else J (w k)) = J (if (k : Int) = i then v else w k)
  by_cases h : (k : Int) = i
  · rw [if_pos h, if_pos (by omega)]
  · rw [if_neg h, if_neg (by omega)]
theorem updK (w : Int → Int) (h0 : 0 ≤ i) (h1 : i < len) (hl : len ≤ 2147483648) : vp_updL (fun k : Nat => K (w k)) (J i).toNatClampNeg (K v) = fun k : Nat => K ((fun z : Int => if z = i then v else w z) (k : Int)) := by
  funext k
  have e : (J i).toNatClampNeg = i.toNat := J_nat (by omega) (by omega)
  show (if k = (J i).toNatClampNeg then K v else K (w k)) = K (if (k : Int) = i then v else w k)
  by_cases h : (k : Int) = i
  · rw [if_pos h, if_pos (by omega)]
  · rw [if_neg h, if_neg (by omega)]
theorem q_sI (hs : shR a = some (0, len)) (hl : len ≤ 2147483648) (h0 : 0 ≤ i) (h1 : i < len) : sI (mkH d) a (J i) (J v) = some (mkH (up d a i v)) := by
  unfold sI
  rw [mkH_A hs, arF_0]
  simp only []
  rw [if_pos (inJ h0 h1 hl), updJ _ h0 h1 hl]
  congr 1
  apply mk_up
  rw [mkH_A hs, up_self_row]
  rfl
theorem q_sL (hs : shR a = some (1, len)) (hl : len ≤ 2147483648) (h0 : 0 ≤ i) (h1 : i < len) : sL (mkH d) a (J i) (K v) = some (mkH (up d a i v)) := by
  unfold sL
  rw [mkH_A hs, arF_1]
  simp only []
  rw [if_pos (inJ h0 h1 hl), updK _ h0 h1 hl]
  congr 1
  apply mk_up
  rw [mkH_A hs, up_self_row]
  rfl
theorem q_sZ (hs : shR a = some (2, len)) (hl : len ≤ 2147483648) (h0 : 0 ≤ i) (h1 : i < len) (hv : v = 0 ∨ v = 1) : sZ (mkH d) a (J i) (J v) = some (mkH (up d a i v)) := by
  unfold sZ
  rw [mkH_A hs, arF_2]
  simp only []
  have e : vp_nar .boolean (J v) = J v := by
    rcases hv with rfl | rfl
    · rfl
    · rfl
  rw [if_pos (inJ h0 h1 hl), e, updJ _ h0 h1 hl]
  congr 1
  apply mk_up
  rw [mkH_A hs, up_self_row]
  rfl
end
theorem q_sR {d : Mem} {i : Int} {g : Nat} {cs : List Nat} (hg : shO g = some (0, cs)) (h0 : 0 ≤ i) (h1 : i < 12) : sR (mkH d) 147 3 0 (J i) g = some (mkH (up d 147 i g)) := by
  unfold sR
  rw [mkH_A (d := d) (a := 147) (t := 3) (len := 12) rfl, mkH_O hg]
  rw [show cR 147 = none from rfl, arF_v _ _ _ (by decide)]
  simp only []
  rw [if_pos ⟨trivial, trivial, inJ (len := 12) h0 h1 (by decide)⟩]
  congr 1
  apply mk_up
  rw [mkH_A (d := up d 147 i g) (a := 147) (t := 3) (len := 12) rfl, up_self_row]
  rw [show cR 147 = none from rfl, arF_v _ _ _ (by decide)]
  simp only [Option.some.injEq, Prod.mk.injEq, true_and, Sum.inr.injEq]
  funext k
  have e : (J i).toNatClampNeg = i.toNat := J_nat (by omega) (by omega)
  show (if (if (k : Int) = i then (g : Int) else d 147 k) < 0 then none else some (if (k : Int) = i then (g : Int) else d 147 k).toNat) = if k = (J i).toNatClampNeg then some g else if d 147 k < 0 then none else some (d 147 k).toNat
  by_cases h : (k : Int) = i
  · have hk : k = (J i).toNatClampNeg := by omega
    rw [if_pos hk]
    simp only [if_pos h]
    rw [if_neg (by omega)]
    rfl
  · have hk : ¬ k = (J i).toNatClampNeg := by omega
    rw [if_neg hk]
    simp only [if_neg h]
def cpy (d : Mem) (a : Nat) (sp : Int) (b : Nat) (dp n : Int) : Mem := fun a' k' => if a' = b ∧ dp ≤ k' ∧ k' < dp + n then d a (sp + (k' - dp)) else d a' k'
theorem q_cp {d : Mem} {a b n0 n1 : Nat} {sp dp n : Int} (h1 : shR a = some (0, n0)) (h2 : shR b = some (0, n1)) (l0 : n0 ≤ 2147483647) (l1 : n1 ≤ 2147483647) (a1 : 0 ≤ sp) (a2 : 0 ≤ dp) (a3 : 0 ≤ n) (a4 : sp + n ≤ n0) (a5 : dp + n ≤ n1) : cpI (mkH d) a (J sp) b (J dp) (J n) = some (mkH (cpy d a sp b dp n)) := by
  unfold cpI
  rw [mkH_A h1, mkH_A h2, arF_0, arF_0]
  simp only []
  have e1 : (J sp).toInt = sp := J_toI (by omega) (by omega)
  have e2 : (J dp).toInt = dp := J_toI (by omega) (by omega)
  have e3 : (J n).toInt = n := J_toI (by omega) (by omega)
  have f1 : (J sp).toNatClampNeg = sp.toNat := J_nat (by omega) (by omega)
  have f2 : (J dp).toNatClampNeg = dp.toNat := J_nat (by omega) (by omega)
  have f3 : (J n).toNatClampNeg = n.toNat := J_nat (by omega) (by omega)
  rw [e1, e2, e3, if_pos ⟨a1, a2, a3, a4, a5⟩, f1, f2, f3]
  congr 1
  funext x
  by_cases e : x = b
  · subst e
    rw [va_up_self, mkH_A h2, arF_0]
    simp only [Option.some.injEq, Prod.mk.injEq, true_and, Sum.inr.injEq, Sum.inl.injEq]
    funext k
    show (if dp.toNat ≤ k ∧ k < dp.toNat + n.toNat then J (d a ((sp.toNat + (k - dp.toNat) : Nat) : Int)) else J (d x k)) = J (if x = x ∧ dp ≤ (k : Int) ∧ (k : Int) < dp + n then d a (sp + ((k : Int) - dp)) else d x k)
    by_cases h : dp.toNat ≤ k ∧ k < dp.toNat + n.toNat
    · rw [if_pos h, if_pos ⟨rfl, by omega, by omega⟩]
      rw [show ((sp.toNat + (k - dp.toNat) : Nat) : Int) = sp + ((k : Int) - dp) by omega]
    · rw [if_neg h, if_neg (by omega)]
  · rw [va_up_ne _ _ e]
    refine mkH_row ?_
    funext k
    simp [cpy, e]
