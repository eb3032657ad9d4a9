/-! What is left: a pure statement. -/
theorem it_whole (L : Nat) (xs : Nat → Int32) (hL : L ≤ 3072) : ∃ (n : Nat) (M' : im_M), im_run n 30 0 0 ([.ref 0] ++ List.replicate 6 (.retAddr 0)) [] (it_M0 L xs) = some (.inl (some (.int 1)), M') ∧ im_tot M' ≤ 601032 ∧ M'.1.2.2 ≤ 7293034 := by
  sorry
