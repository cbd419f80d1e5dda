theorem law_pure {L : Nat} {xs : Nat → Int32} (hL : L ≤ 3072) : f_L_law 203 0 L xs (fun _ => none) = some () := sorry
