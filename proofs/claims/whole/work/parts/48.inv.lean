/-! RULES, as they are read: a place, whether it went well, a value -/
def chS (tx : Int → Int) (n p : Int) : Int := if 0 ≤ p ∧ p < n then tx p else -1
def isDg (c : Int) : Bool := decide (48 ≤ c ∧ c ≤ 57)
def isFd (c : Int) : Bool := decide (c = 101 ∨ c = 103 ∨ c = 119 ∨ c = 108 ∨ c = 114 ∨ c = 116 ∨ c = 117)
def numS (c : Int → Int) : Nat → Int → Int → Int × Int
  | 0, p, v => (p, v)
  | k + 1, p, v => if v = 0 ∨ isDg (c p) = false then (p, v) else numS c k (p + 1) (10 * v + c p - 48)
def atomS (c : Int → Int) (fld : Int → Int32) (p : Int) : Int × Bool × Int32 :=
  if isFd (c p) = true then (p + 1, true, fld (c p)) else if isDg (c p) = true then ((numS c 3 (p + 1) (c p - 48)).1, true, J (numS c 3 (p + 1) (c p - 48)).2) else (p, false, 0)
def sumL (c : Int → Int) (fld : Int → Int32) : Nat → Int → Int32 → Int × Bool × Int32
  | 0, p, v => (p, false, v)
  | F + 1, p, v => if c p = 43 then (if (atomS c fld (p + 1)).2.1 = true then sumL c fld F (atomS c fld (p + 1)).1 (v + (atomS c fld (p + 1)).2.2) else ((atomS c fld (p + 1)).1, false, v))
    else if c p = 45 then (if (atomS c fld (p + 1)).2.1 = true then sumL c fld F (atomS c fld (p + 1)).1 (v - (atomS c fld (p + 1)).2.2) else ((atomS c fld (p + 1)).1, false, v))
    else (p, true, v)
def smmS (c : Int → Int) (fld : Int → Int32) (p : Int) : Int × Bool × Int32 := if (atomS c fld p).2.1 = true then sumL c fld 200 (atomS c fld p).1 (atomS c fld p).2.2 else ((atomS c fld p).1, false, 0)
def cmpS (s : Int) (a b : Int32) : Bool := if s = 60 then decide (a < b) else if s = 62 then decide (b < a) else decide (a = b)
def andL (c : Int → Int) (t : Int → Int × Bool × Bool) : Nat → Int → Bool → Int × Bool × Bool
  | 0, p, v => (p, false, v)
  | F + 1, p, v => if c p = 38 then (if (t (p + 1)).2.1 = true then andL c t F (t (p + 1)).1 (v && (t (p + 1)).2.2) else ((t (p + 1)).1, false, false)) else (p, true, v)
def andS (c : Int → Int) (t : Int → Int × Bool × Bool) (p : Int) : Int × Bool × Bool := if (t p).2.1 = true then andL c t 200 (t p).1 (t p).2.2 else ((t p).1, false, false)
def orL (c : Int → Int) (t : Int → Int × Bool × Bool) : Nat → Int → Bool → Int × Bool × Bool
  | 0, p, v => (p, false, v)
  | F + 1, p, v => if c p = 124 then (if (andS c t (p + 1)).2.1 = true then orL c t F (andS c t (p + 1)).1 (v || (andS c t (p + 1)).2.2) else ((andS c t (p + 1)).1, false, false)) else (p, true, v)
def orS (c : Int → Int) (t : Int → Int × Bool × Bool) (p : Int) : Int × Bool × Bool := if (andS c t p).2.1 = true then orL c t 200 (andS c t p).1 (andS c t p).2.2 else ((andS c t p).1, false, false)
def tstS (c : Int → Int) (fld : Int → Int32) : Nat → Nat → Int → Int × Bool × Bool
  | 0, _, p => (p, false, false)
  | F + 1, dep, p => if c p = 33 then ((tstS c fld F dep (p + 1)).1, (tstS c fld F dep (p + 1)).2.1, !(tstS c fld F dep (p + 1)).2.2)
    else if c p = 40 then (if dep = 8 then (p, false, false)
      else if (orS c (tstS c fld F (dep + 1)) (p + 1)).2.1 = true then (if c (orS c (tstS c fld F (dep + 1)) (p + 1)).1 = 41 then ((orS c (tstS c fld F (dep + 1)) (p + 1)).1 + 1, true, (orS c (tstS c fld F (dep + 1)) (p + 1)).2.2) else ((orS c (tstS c fld F (dep + 1)) (p + 1)).1, false, false))
      else ((orS c (tstS c fld F (dep + 1)) (p + 1)).1, false, false))
    else if (smmS c fld p).2.1 = true then (if c (smmS c fld p).1 = 60 ∨ c (smmS c fld p).1 = 62 ∨ c (smmS c fld p).1 = 61 then ((smmS c fld ((smmS c fld p).1 + 1)).1, (smmS c fld ((smmS c fld p).1 + 1)).2.1, cmpS (c (smmS c fld p).1) (smmS c fld p).2.2 (smmS c fld ((smmS c fld p).1 + 1)).2.2) else ((smmS c fld p).1, false, false))
    else ((smmS c fld p).1, false, false)
def topS (c : Int → Int) (fld : Int → Int32) : Int × Bool × Bool := orS c (tstS c fld 130 0) 0
def ruleOK (tx : Int → Int) (n : Int) : Prop := ∀ fld : Int → Int32, (topS (chS tx n) fld).1 = n ∧ (topS (chS tx n) fld).2.1 = true
/-! WHAT HOLDS BETWEEN CALLS: the class and the reference tell the same -/
def GE (d : Mem) (p r : Nat) (i : Int) : Prop := d (gA p i) 0 = i ∧ d (gA p i) 1 = d r (19 * i) ∧ d (gA p i) 2 = d r (19 * i + 1) ∧ d (gA p i) 3 = d r (19 * i + 2) ∧ cw d (gA p i) = vw d r i ∧ 0 ≤ d r (19 * i) ∧ d r (19 * i) ≤ 4 ∧ 4 ≤ d r (19 * i + 1) ∧ d r (19 * i + 1) ≤ 99 ∧ 0 ≤ d r (19 * i + 2) ∧ d r (19 * i + 2) ≤ 7 ∧ Wok (vw d r i)
def ME (d : Mem) (pf ps pr r : Nat) (m : Int) : Prop := d pf m = d r (228 + 3 * m + 0) ∧ d ps m = d r (228 + 3 * m + 1) ∧ d pr m = d r (228 + 3 * m + 2) ∧ 0 ≤ d r (228 + 3 * m + 0) ∧ d r (228 + 3 * m + 0) < d r 1740 ∧ 0 ≤ d r (228 + 3 * m + 1) ∧ d r (228 + 3 * m + 1) < d r 1740 ∧ d r (228 + 3 * m + 0) ≠ d r (228 + 3 * m + 1) ∧ 0 ≤ d r (228 + 3 * m + 2) ∧ d r (228 + 3 * m + 2) ≤ 62
def PL (d : Mem) (p pf ps pr r : Nat) : Prop := d p 1 = d r 1740 ∧ d p 5 = d r 1741 ∧ 0 ≤ d r 1740 ∧ d r 1740 ≤ 12 ∧ 0 ≤ d r 1741 ∧ d r 1741 ≤ 16 ∧ (∀ i, 0 ≤ i → i < d r 1740 → GE d p r i) ∧ (∀ m, 0 ≤ m → m < d r 1741 → ME d pf ps pr r m)
def LD (d : Mem) (l lg ls r : Nat) : Prop := d l 2 = d r 1743 ∧ 0 ≤ d r 1743 ∧ d r 1743 ≤ 6 ∧ ∀ k, 0 ≤ k → k < d r 1743 → d lg k = d r (1728 + 2 * k) ∧ d ls k = d r (1728 + 2 * k + 1) ∧ 0 ≤ d r (1728 + 2 * k) ∧ d r (1728 + 2 * k) ≤ 99 ∧ 1 ≤ d r (1728 + 2 * k + 1) ∧ d r (1728 + 2 * k + 1) ≤ 99
def RU (d : Mem) (b sz r : Nat) (q : Int) : Prop := d sz q = d r (276 + 121 * q) ∧ 0 ≤ d r (276 + 121 * q) ∧ d r (276 + 121 * q) ≤ 120 ∧ (∀ k, 0 ≤ k → k < d r (276 + 121 * q) → d (rA b q) k = d r (276 + 121 * q + 1 + k) ∧ -128 ≤ d r (276 + 121 * q + 1 + k) ∧ d r (276 + 121 * q + 1 + k) ≤ 127) ∧ ruleOK (fun k => d r (276 + 121 * q + 1 + k)) (d r (276 + 121 * q))
def RB (d : Mem) (b sz r : Nat) : Prop := d b 2 = d r 1742 ∧ 0 ≤ d r 1742 ∧ d r 1742 ≤ 12 ∧ ∀ q, 0 ≤ q → q < d r 1742 → RU d b sz r q
def wgS (k t : Int) (w : Int → Int) : Int := if k = 3 then 2 * (100 + t + hardS k t + thinS w) else 100 + t + hardS k t + (if k = 0 then 0 else if k = 4 then w 15 else thinS w)
def tsS (k i : Int) (w : Int → Int) : Int := if k = 4 ∨ k = 3 ∧ thinS w = 31 then -15 else if k = 2 then i + 100 + thinS w else i
def HG (d : Mem) (i : Int) : Prop := 0 ≤ d (sA i + 1) 0 ∧ d (sA i + 1) 0 < 12 ∧ 0 ≤ d (sA i + 1) 1 ∧ d (sA i + 1) 1 ≤ 4 ∧ 4 ≤ d (sA i + 1) 2 ∧ d (sA i + 1) 2 ≤ 99 ∧ Wok (cw d (sA i + 1)) ∧ d 192 i = wgS (d (sA i + 1) 1) (d (sA i + 1) 2) (cw d (sA i + 1)) ∧ d 193 i = tsS (d (sA i + 1) 1) (d (sA i + 1) 0) (cw d (sA i + 1))
def SH (d : Mem) (i : Int) : Prop := d (sA i) 0 = d 188 i ∧ d (sA i) 2 = d 189 i ∧ d (sA i) 3 = d 190 i ∧ 0 ≤ d 188 i ∧ d 188 i ≤ 2 ∧ 0 ≤ d 189 i ∧ d 189 i ≤ 2 ∧ 0 ≤ d 190 i ∧ d 190 i ≤ 120 ∧ (∀ k, 0 ≤ k → k < 120 → d (sA i + 3) k = d 191 (120 * i + k) ∧ -2147483648 ≤ d 191 (120 * i + k) ∧ d 191 (120 * i + k) < 2147483648 ∧ (d 189 i = 0 → -128 ≤ d 191 (120 * i + k) ∧ d 191 (120 * i + k) ≤ 127)) ∧ (d 188 i = 1 → HG d i)
def IM (d : Mem) : Prop := d 0 7 = d 183 10 ∧ (d 183 10 = 0 ∨ d 183 10 = 1 ∧ PL d 77 79 80 81 186 ∧ LD d 106 107 108 186 ∧ RB d 109 123 186)
def INV (d : Mem) : Prop := PL d 1 3 4 5 185 ∧ LD d 59 60 61 185 ∧ RB d 62 76 185 ∧ IM d ∧ (∀ i, 0 ≤ i → i < 8 → SH d i) ∧ COS d
/-- places that no call reads before it has written them -/
def Sc (a : Nat) (k : Int) : Prop := 30 ≤ a ∧ a ≤ 58 ∨ 125 ≤ a ∧ a ≤ 150 ∨ a = 183 ∧ k ≠ 10 ∨ a = 187 ∨ 194 ≤ a
def Fr (d d' : Mem) : Prop := ∀ a k, ¬ Sc a k → d' a k = d a k
theorem FrRf (d : Mem) : Fr d d := fun _ _ _ => rfl
theorem FrTr {d d' d'' : Mem} (h : Fr d d') (h' : Fr d' d'') : Fr d d'' := fun a k s => (h' a k s).trans (h a k s)
theorem Fr.row {d d' : Mem} (h : Fr d d') {a : Nat} (ha : ∀ k, ¬ Sc a k) : d' a = d a := funext fun k => h a k (ha k)
theorem FrUp {d d' : Mem} (h : Fr d d') {a : Nat} {k v : Int} (hs : Sc a k) : Fr d (up d' a k v) := fun a' k' s => by
  unfold up
  rw [if_neg (fun e => s (by rw [e.1, e.2]; exact hs))]
  exact h a' k' s
theorem FrFl {d d' : Mem} (h : Fr d d') {a : Nat} {o n : Int} {f : Int → Int} (hs : ∀ k, Sc a k) : Fr d (fl d' a o n f) := fun a' k' s => by
  rw [fl_na (fun e => s (by rw [e]; exact hs k'))]
  exact h a' k' s
theorem PL_rows {d d' : Mem} {p pf ps pr r : Nat} (e1 : d' p = d p) (e2 : d' pf = d pf) (e3 : d' ps = d ps) (e4 : d' pr = d pr) (e5 : d' r = d r) (e6 : ∀ i, 0 ≤ i → i < 12 → d' (gA p i) = d (gA p i) ∧ d' (gA p i + 1) = d (gA p i + 1)) (h : PL d p pf ps pr r) : PL d' p pf ps pr r := by
  obtain ⟨h1, h2, h3, h4, h5, h6, h7, h8⟩ := h
  unfold PL
  rw [e1, e5]
  refine ⟨h1, h2, h3, h4, h5, h6, fun i i0 i1 => ?_, fun m m0 m1 => ?_⟩
  · obtain ⟨q1, q2⟩ := e6 i i0 (by omega)
    have q := h7 i i0 i1
    unfold GE cw vw at q ⊢
    rw [q1, q2, e5]
    exact q
  · have q := h8 m m0 m1
    unfold ME at q ⊢
    rw [e2, e3, e4, e5]
    exact q
theorem LD_rows {d d' : Mem} {l lg ls r : Nat} (e1 : d' l = d l) (e2 : d' lg = d lg) (e3 : d' ls = d ls) (e5 : d' r = d r) (h : LD d l lg ls r) : LD d' l lg ls r := by
  unfold LD at h ⊢
  rw [e1, e2, e3, e5]
  exact h
theorem RB_rows {d d' : Mem} {b sz r : Nat} (e1 : d' b = d b) (e2 : d' sz = d sz) (e5 : d' r = d r) (e6 : ∀ q, 0 ≤ q → q < 12 → d' (rA b q) = d (rA b q)) (h : RB d b sz r) : RB d' b sz r := by
  obtain ⟨h1, h2, h3, h4⟩ := h
  unfold RB
  rw [e1, e5]
  refine ⟨h1, h2, h3, fun q q0 q1 => ?_⟩
  have z := h4 q q0 q1
  unfold RU at z ⊢
  rw [e2, e5, e6 q q0 (by omega)]
  exact z
theorem SH_rows {d d' : Mem} {i : Int} (e1 : d' (sA i) = d (sA i)) (e2 : d' (sA i + 1) = d (sA i + 1)) (e3 : d' (sA i + 2) = d (sA i + 2)) (e4 : d' (sA i + 3) = d (sA i + 3)) (f1 : d' 188 i = d 188 i) (f2 : d' 189 i = d 189 i) (f3 : d' 190 i = d 190 i) (f4 : ∀ k, 0 ≤ k → k < 120 → d' 191 (120 * i + k) = d 191 (120 * i + k)) (f5 : d' 192 i = d 192 i) (f6 : d' 193 i = d 193 i) (h : SH d i) : SH d' i := by
  obtain ⟨h1, h2, h3, h4, h5, h6, h7, h8, h9, h10, h11⟩ := h
  unfold SH
  rw [e1, e4, f1, f2, f3]
  refine ⟨h1, h2, h3, h4, h5, h6, h7, h8, h9, fun k k0 k1 => ?_, fun c => ?_⟩
  · rw [f4 k k0 k1]
    exact h10 k k0 k1
  · have q := h11 c
    unfold HG cw at q ⊢
    rw [e2, f5, f6, show sA i + 1 + 1 = sA i + 2 from rfl, e3]
    exact q
theorem gA_le {p : Nat} {i : Int} (h0 : 0 ≤ i) (h1 : i < 12) : p + 5 ≤ gA p i ∧ gA p i + 1 ≤ p + 28 := by unfold gA; omega
theorem rA_le {b : Nat} {q : Int} (h0 : 0 ≤ q) (h1 : q < 12) : b + 2 ≤ rA b q ∧ rA b q ≤ b + 13 := by unfold rA; omega
theorem sA_le {i : Int} (h0 : 0 ≤ i) (h1 : i < 8) : 151 ≤ sA i ∧ sA i + 3 ≤ 182 := by unfold sA; omega
theorem INV_fr {d d' : Mem} (I : INV d) (F : Fr d d') : INV d' := by
  obtain ⟨P, L, R, M, S, C⟩ := I
  have ro : ∀ a : Nat, (a ≤ 29 ∨ 59 ≤ a ∧ a ≤ 124 ∨ 151 ≤ a ∧ a ≤ 182 ∨ 184 ≤ a ∧ a ≤ 186 ∨ 188 ≤ a ∧ a ≤ 193) → d' a = d a := fun a ha => F.row (fun k s => by unfold Sc at s; omega)
  refine ⟨PL_rows (ro _ (by omega)) (ro _ (by omega)) (ro _ (by omega)) (ro _ (by omega)) (ro _ (by omega)) (fun i i0 i1 => ?_) P, LD_rows (ro _ (by omega)) (ro _ (by omega)) (ro _ (by omega)) (ro _ (by omega)) L, RB_rows (ro _ (by omega)) (ro _ (by omega)) (ro _ (by omega)) (fun q q0 q1 => ?_) R, ?_, fun i i0 i1 => ?_, fun x h0 h1 => ?_⟩
  · have := gA_le (p := 1) i0 i1
    exact ⟨ro _ (by omega), ro _ (by omega)⟩
  · have := rA_le (b := 62) q0 q1
    exact ro _ (by omega)
  · obtain ⟨M1, M2⟩ := M
    have e1 := ro 0 (by omega)
    have e2 : d' 183 10 = d 183 10 := F 183 10 (fun s => by unfold Sc at s; omega)
    unfold IM
    rw [e1, e2]
    refine ⟨M1, ?_⟩
    rcases M2 with M2 | ⟨m1, m2, m3, m4⟩
    · exact Or.inl M2
    · refine Or.inr ⟨m1, PL_rows (ro _ (by omega)) (ro _ (by omega)) (ro _ (by omega)) (ro _ (by omega)) (ro _ (by omega)) (fun i i0 i1 => ?_) m2, LD_rows (ro _ (by omega)) (ro _ (by omega)) (ro _ (by omega)) (ro _ (by omega)) m3, RB_rows (ro _ (by omega)) (ro _ (by omega)) (ro _ (by omega)) (fun q q0 q1 => ?_) m4⟩
      · have := gA_le (p := 77) i0 i1
        exact ⟨ro _ (by omega), ro _ (by omega)⟩
      · have := rA_le (b := 109) q0 q1
        exact ro _ (by omega)
  · have q := sA_le i0 i1
    exact SH_rows (ro _ (by omega)) (ro _ (by omega)) (ro _ (by omega)) (ro _ (by omega)) (congrFun (ro 188 (by omega)) i) (congrFun (ro 189 (by omega)) i) (congrFun (ro 190 (by omega)) i) (fun k _ _ => congrFun (ro 191 (by omega)) _) (congrFun (ro 192 (by omega)) i) (congrFun (ro 193 (by omega)) i) (S i i0 i1)
  · rw [ro 184 (by omega)]
    exact C x h0 h1
