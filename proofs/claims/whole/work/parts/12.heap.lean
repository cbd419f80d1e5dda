/-! the rows that read and write the heap -/
/-- a field of a class of clz, by the pool's number: the class's place, the field's place, its type, whether it is final -/
def FL (own : String) (idx ci k : Nat) (ty : FieldType) (fin : Bool) : Prop :=
  ∃ (C ref : String) (T : u_T) (N : Nat) (ty0 : Nat → FieldType), clz[ci]? = some (C, T, N) ∧ k < N ∧ (∀ w ∈ u_ws C T N, w ∈ TT) ∧ Cond.fieldLink own idx ref (T k).2.1 (T k).2.2.1 ∈ TT ∧ (ref = (T k).1 ∨ Cond.sameField ref (T k).1 (T k).2.1 (T k).2.2.1 ∈ TT) ∧
    (∀ k, k < N → parseFieldDescriptor (T k).2.2.1 = some (ty0 k)) ∧ (∀ a, a < N → ∀ b, b < N → a ≠ b → (T a).2.1 ≠ (T b).2.1) ∧ parseFieldDescriptor (T k).2.2.1 = some ty ∧ (T k).2.2.2 = fin ∧ (fin = true → C = own → (T k).1 = own)
def gI (h : Hp) (a ci j : Nat) : Option Int32 := match h a with
  | some (t, .inl fs) => if t = ci then (match fs[j]? with
    | some (.int v) => some v
    | _ => none) else none
  | _ => none
def gL (h : Hp) (a ci j : Nat) : Option Int64 := match h a with
  | some (t, .inl fs) => if t = ci then (match fs[j]? with
    | some (.long v) => some v
    | _ => none) else none
  | _ => none
def gR (h : Hp) (a ci j : Nat) : Option Nat := match h a with
  | some (t, .inl fs) => if t = ci then (match fs[j]? with
    | some (.ref v) => some v
    | _ => none) else none
  | _ => none
def pF (h : Hp) (a ci j : Nat) (v : Value) : Option Hp := match h a with
  | some (t, .inl fs) => if t = ci ∧ j < fs.length then some (va_up h a (some (ci, .inl (fs.set j v)))) else none
  | _ => none
def inb (i : Int32) (len : Nat) : Prop := 0 ≤ i.toInt ∧ i.toInt < len
def aI (h : Hp) (a : Nat) (i : Int32) : Option Int32 := match h a with
  | some (0, .inr (len, .inl f)) => if 0 ≤ i.toInt ∧ i.toInt < len then some (f i.toNatClampNeg) else none
  | _ => none
def aL (h : Hp) (a : Nat) (i : Int32) : Option Int64 := match h a with
  | some (1, .inr (len, .inr (.inl f))) => if 0 ≤ i.toInt ∧ i.toInt < len then some (f i.toNatClampNeg) else none
  | _ => none
def aZ (h : Hp) (a : Nat) (i : Int32) : Option Int32 := match h a with
  | some (2, .inr (len, .inl f)) => if 0 ≤ i.toInt ∧ i.toInt < len then some (f i.toNatClampNeg) else none
  | _ => none
def aR (h : Hp) (a t0 : Nat) (i : Int32) : Option Nat := match h a with
  | some (t, .inr (len, .inr (.inr (.inr (.inr f))))) => if t = t0 ∧ 0 ≤ i.toInt ∧ i.toInt < len then f i.toNatClampNeg else none
  | _ => none
def aN (h : Hp) (a : Nat) : Option Int32 := match h a with
  | some (t, .inr (len, _)) => if t < 6 then some (Int32.ofNat len) else none
  | _ => none
def sI (h : Hp) (a : Nat) (i v : Int32) : Option Hp := match h a with
  | some (0, .inr (len, .inl f)) => if 0 ≤ i.toInt ∧ i.toInt < len then some (va_up h a (some (0, .inr (len, .inl (upd f i.toNatClampNeg v))))) else none
  | _ => none
def sL (h : Hp) (a : Nat) (i : Int32) (v : Int64) : Option Hp := match h a with
  | some (1, .inr (len, .inr (.inl f))) => if 0 ≤ i.toInt ∧ i.toInt < len then some (va_up h a (some (1, .inr (len, .inr (.inl (vp_updL f i.toNatClampNeg v)))))) else none
  | _ => none
def sZ (h : Hp) (a : Nat) (i v : Int32) : Option Hp := match h a with
  | some (2, .inr (len, .inl f)) => if 0 ≤ i.toInt ∧ i.toInt < len then some (va_up h a (some (2, .inr (len, .inl (upd f i.toNatClampNeg (vp_nar .boolean v)))))) else none
  | _ => none
def sR (h : Hp) (a t0 ci : Nat) (i : Int32) (v : Nat) : Option Hp := match h a, h v with
  | some (t, .inr (len, .inr (.inr (.inr (.inr f))))), some (c, .inl _) => if t = t0 ∧ c = ci ∧ 0 ≤ i.toInt ∧ i.toInt < len then some (va_up h a (some (t0, .inr (len, .inr (.inr (.inr (.inr (va_up f i.toNatClampNeg (some v))))))))) else none
  | _, _ => none
/-- an array of the constants -/
def aS (j : Nat) (i : Int32) : Option Int32 := if 0 ≤ i.toInt ∧ i.toInt < (roC j).2.2.1 then some ((roC j).2.2.2 i.toNatClampNeg) else none
def nz (b : Int32) : Option Unit := if b = 0 then none else some ()
def nzL (b : Int64) : Option Unit := if b = 0 then none else some ()
def bz (v : Int32) : Option Unit := if v = 0 ∨ v = 1 then some () else none
theorem inb_in {i : Int32} {len : Nat} (h : 0 ≤ i.toInt ∧ i.toInt < len) : vp_in i len := vp_in_iff.mpr h
section HeapFacts
variable {D : va_G} {cA : Nat → ClassId} {z0 : Nat} {ad : Nat → Nat} {n : Nat} {h : Hp} {H H1 : Heap} {a : Nat} {o o1 : Ob}
theorem Rep.dom (r : Rep D cA z0 ad n h H) (ho : h a = some o) : a < n := (r.1 a).mp (by rw [ho]; rfl)
theorem Rep.at (r : Rep D cA z0 ad n h H) (ho : h a = some o) : (wl cA ad n h)[a]? = some (ad a, ce cA ad o) := wl_get (r.dom ho) ho
theorem Rep.set (r : Rep D cA z0 ad n h H) (ho : h a = some o) (hk : ook n o1) (hP : va_P D clz ((wl cA ad n h).set a (ad a, ce cA ad o1)) H1) (hD : va_D (fun q => z0 ≤ q) ((wl cA ad n h).set a (ad a, ce cA ad o1))) : Rep D cA z0 ad n (va_up h a (some o1)) H1 := by
  rw [wl_set] at hP hD
  refine ⟨fun i => ?_, fun i ob hi => ?_, r.2.2.1, hP, hD⟩
  · by_cases hi : i = a
    · subst hi
      rw [va_up_self]
      exact ⟨fun _ => r.dom ho, fun _ => rfl⟩
    · rw [va_up_ne h _ hi]
      exact r.1 i
  · by_cases hia : i = a
    · subst hia
      rw [va_up_self] at hi
      cases hi
      exact hk
    · rw [va_up_ne h _ hia] at hi
      exact r.2.1 i ob hi
end HeapFacts
theorem gI_spec {h : Hp} {a ci j : Nat} {v : Int32} (q : gI h a ci j = some v) : ∃ fs, h a = some (ci, .inl fs) ∧ fs[j]? = some (.int v) := by
  unfold gI at q
  split at q
  · rename_i t fs e
    split at q
    · rename_i ht
      subst ht
      split at q
      · rename_i w ew
        cases q
        exact ⟨fs, e, ew⟩
      · cases q
    · cases q
  · cases q
theorem gL_spec {h : Hp} {a ci j : Nat} {v : Int64} (q : gL h a ci j = some v) : ∃ fs, h a = some (ci, .inl fs) ∧ fs[j]? = some (.long v) := by
  unfold gL at q
  split at q
  · rename_i t fs e
    split at q
    · rename_i ht
      subst ht
      split at q
      · rename_i w ew
        cases q
        exact ⟨fs, e, ew⟩
      · cases q
    · cases q
  · cases q
theorem gR_spec {h : Hp} {a ci j : Nat} {v : Nat} (q : gR h a ci j = some v) : ∃ fs, h a = some (ci, .inl fs) ∧ fs[j]? = some (.ref v) := by
  unfold gR at q
  split at q
  · rename_i t fs e
    split at q
    · rename_i ht
      subst ht
      split at q
      · rename_i w ew
        cases q
        exact ⟨fs, e, ew⟩
      · cases q
    · cases q
  · cases q
theorem pF_spec {h h' : Hp} {a ci j : Nat} {v : Value} (q : pF h a ci j v = some h') : ∃ fs, h a = some (ci, .inl fs) ∧ j < fs.length ∧ h' = va_up h a (some (ci, .inl (fs.set j v))) := by
  unfold pF at q
  split at q
  · rename_i t fs e
    split at q
    · rename_i ht
      obtain ⟨rfl, hj⟩ := ht
      cases q
      exact ⟨fs, e, hj, rfl⟩
    · cases q
  · cases q
