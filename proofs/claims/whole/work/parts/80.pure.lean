/-! The pure statement: the law ends with 1, within the room. -/
theorem mi0_z {a b : Nat} (h1 : a ≠ 8) (h2 : a ≠ 99) (h3 : a ≠ 11) : mi0 a b = ii 0 := by
  unfold mi0
  rw [if_neg (by omega), if_neg (by omega)]
  rfl
theorem inv0 : it_Inv mi0 rw0 := by
  refine ⟨⟨[], by simp, rfl, rfl, by simp, by simp, rfl, by simp⟩, ⟨[], by simp, rfl, rfl, by simp, by simp, rfl, by simp⟩, ⟨rfl, mi0_z (by decide) (by decide) (by decide), rfl, fun _ => mi0_z (by decide) (by decide) (by decide)⟩, ⟨0, by decide, rfl, rfl, fun k hk => by omega⟩, fun k hk => ?_, Or.inl ⟨?_, ?_, rfl⟩, fun _ => 0, fun _ _ => 0, fun _ _ _ => 0, fun _ => 0, fun _ => 0, ?_, ⟨fun o ho => ?_, ?_, fun o i _ hi => absurd hi (Nat.not_lt_zero _)⟩, ⟨fun p q hp hq => ?_, fun p q r hp hq hr => ?_, fun p hp => ?_⟩, ⟨0, by decide, ?_, rfl, fun k hk => ⟨k, hk, rfl⟩, fun k l hk hl h => ?_, fun k hk => by omega⟩, fun p hp => ?_⟩
  · simp (disch := omega) only [win_at, mi0_z]
    exact ⟨trivial, trivial⟩
  · simp (disch := omega) only [win_at, mi0_z]
    rfl
  · simp (disch := omega) only [win_at, mi0_z]
    rfl
  · exact ⟨fun _ _ => Nat.zero_le 16, fun _ _ _ _ => Nat.le_refl 0, fun _ _ => rfl, fun _ _ _ _ _ _ => ⟨Nat.le_refl 0, Nat.le_refl 0⟩, fun _ _ => Nat.le_refl 0, fun _ _ _ h => absurd h (Nat.not_lt_zero _), fun _ _ _ _ _ h => absurd h (Nat.not_lt_zero _), fun _ _ _ _ _ h => absurd h (Nat.not_lt_zero _)⟩
  · simp (disch := omega) only [win_at, mi0_z]
    exact ⟨trivial, trivial⟩
  · simp (disch := omega) only [win_at, mi0_z]
  · simp (disch := omega) only [win_at, mi0_z]
    exact ⟨trivial, trivial⟩
  · simp (disch := omega) only [win_at, mi0_z]
    exact ⟨trivial, trivial⟩
  · simp (disch := omega) only [win_at, mi0_z]
    exact ⟨trivial, trivial⟩
  · rfl
  · unfold rw0 at h
    omega
  · rw [fold_0 (fun _ _ => rfl)]
    refine ⟨fun i hi => ⟨?_, Nat.zero_le _, fun h => absurd rfl h⟩, fun e he h => by rw [ford_0 (fun _ _ => rfl)] at h; cases h⟩
    rw [win_at (by omega) (by omega)]
    exact mi0_z (by omega) (by omega) (by omega)
theorem it_whole (L : Nat) (xs : Nat → Int32) (hL : L ≤ 3072) : ∃ (n : Nat) (M' : im_M), im_run n 30 0 0 ([.ref 0] ++ List.replicate 6 (.retAddr 0)) [] (it_M0 L xs) = some (.inl (some (.int 1)), M') ∧ im_tot M' ≤ 601032 ∧ M'.1.2.2 ≤ 7293034 := by
  obtain ⟨n, o, M', h1, h2, h3, h4⟩ := it_begin (law_loop (xs := xs) hL (L + 6) 0 mi0 rw0 (fun _ => 0) 0 3090 (.retAddr 0) (.retAddr 0) (by omega) (by omega) inv0 (by omega) (by omega))
  subst h2
  exact ⟨n, M', h1, h3, h4⟩
