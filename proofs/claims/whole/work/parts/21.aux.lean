theorem NX_bb {m : Nat} {Z : Zc} (h : NX m Z) : m ≤ BB := by
  obtain ⟨p, l, e, Rm, s, m, args, below, meth, c, D, cA, ad0, n0, N1, z0, F⟩ := Z
  exact h.2
