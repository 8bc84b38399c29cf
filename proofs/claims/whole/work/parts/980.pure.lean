/-- WHAT IS LEFT: the law's loop as a pure function, over the store of both objects, answers at every script -/
theorem law_pure (L : Nat) (hL : L ≤ 256) (xs : Nat → Int32) : fL_law_L18 L xs gFU 0 gI = some () := sorry
