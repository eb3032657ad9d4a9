/-! The law's loop. -/
theorem head_cmp {L i : Nat} (hL : L ≤ 3072) (hi : i ≤ 3072) : ii L - 6 < ii i ↔ ¬ i + 6 ≤ L := by
  by_cases h : 6 ≤ L
  · have e : ii L - 6 = ii (L - 6) := ii_sub (b := 6) h
    rw [e, ii_lt (by omega) (by omega)]
    omega
  · have e : ii L - 6 < 0 := by
      rcases (show L = 0 ∨ L = 1 ∨ L = 2 ∨ L = 3 ∨ L = 4 ∨ L = 5 by omega) with rfl | rfl | rfl | rfl | rfl | rfl <;> decide
    have h2 : (0 : Int32) ≤ ii i := (ii_le (a := 0) (by decide) (by omega)).mpr (Nat.zero_le _)
    have h3 : ii L - 6 < ii i := by
      rw [Int32.lt_iff_toInt_lt] at e ⊢
      rw [Int32.le_iff_toInt_le] at h2
      omega
    exact ⟨fun _ => by omega, fun _ => h3⟩
theorem law_loop {L : Nat} {xs : Nat → Int32} (hL : L ≤ 3072) : ∀ (n i : Nat) (mi : Nat → Nat → Int32) (rw : Nat → Nat) (o : Nat → Int64) (g z : Nat) (l5 l6 : Value), L + 6 ≤ n + i → i ≤ L → it_Inv mi rw → g ≤ i → z ≤ 4000 + i → iw 30 0 23 [.ref 0, .ref 8, .ref 99, .ref 134, .int (ii i), l5, l6] [] (it_mem L xs mi rw o g z) it_top := by
  intro n
  induction n with
  | zero => intro i mi rw o g z l5 l6 h1 h2; omega
  | succ n ih =>
    intro i mi rw o g z l5 l6 h1 h2 hI hg hz
    have ha : (0 < 135 ∧ 30 ≤ it_kd 0 ∧ (it_aty (it_kd 0)).isSome = true) := by decide +kernel
    simp only [w0_23, w0_25, w0_26, w0_27, w0_29, w0_30, isa_0, ln_0, cv_0, ↓reduceIte, true_and, and_true, vok_int, vok_b0, vok_b1, vok_bb, r_backI, r_backV, bb_eq0, Nat.reduceAdd, Nat.reduceMul, Nat.reduceEqDiff, not_true_eq_false, not_false_eq_true, if_true, if_false, false_and, and_false, c17, c98, ha, show Nat.toInt32 L = ii L from rfl, head_cmp hL (show i ≤ 3072 by omega)]
    by_cases hi : i + 6 ≤ L
    · have hb := sc_in (k := 0) hL hi (by decide)
      have hc := sc_cl (k := 0) hL hi (by decide)
      rw [Nat.add_zero] at hb hc
      have hK : it_K L xs i g z it_top := by
        intro mi' rw' o' g' z' l5' l6' hI' hg' hz'
        have e6 : ii i + 6 = ii (i + 6) := ii_add (b := 6)
        simp only [w0_877, w0_880, e6]
        exact ih (i + 6) mi' rw' o' g' z' l5' l6' (by omega) hi hI' (by omega) (by omega)
      simp only [w0_33, w0_34, w0_36, w0_37, w0_39, w0_40, isa_0, ln_0, cv_0, ↓reduceIte, true_and, and_true, vok_int, vok_b0, vok_b1, vok_bb, r_backI, r_backV, bb_eq0, Nat.reduceAdd, Nat.reduceMul, Nat.reduceEqDiff, not_true_eq_false, not_false_eq_true, if_true, if_false, false_and, and_false, c17, c98, hi, hb, hc]
      by_cases x0 : xs i &&& 31 = 0
      · rw [if_pos x0]
        exact op0 hL hi hI hK
      rw [if_neg x0]
      by_cases x1 : xs i &&& 31 = 1
      · rw [if_pos x1]
        exact op1 hL hi hI hK
      rw [if_neg x1]
      by_cases x2 : xs i &&& 31 = 2
      · rw [if_pos x2]
        exact op2 hI hK
      rw [if_neg x2]
      by_cases x3 : xs i &&& 31 = 3
      · rw [if_pos x3]
        exact op3 hL hi hI hK
      rw [if_neg x3]
      by_cases x4 : xs i &&& 31 = 4
      · rw [if_pos x4]
        exact op4 hL hi hI hK
      rw [if_neg x4]
      by_cases x5 : xs i &&& 31 = 5
      · rw [if_pos x5]
        exact op5 hL hi hI hK
      rw [if_neg x5]
      by_cases x6 : xs i &&& 31 = 6
      · rw [if_pos x6]
        exact op6 hL hi hI hK
      rw [if_neg x6]
      by_cases x7 : xs i &&& 31 = 7
      · rw [if_pos x7]
        exact op7 hL hi hI hK
      rw [if_neg x7]
      by_cases x8 : xs i &&& 31 = 8
      · rw [if_pos x8]
        exact op8 hL hi hI hK
      rw [if_neg x8]
      by_cases x9 : xs i &&& 31 = 9
      · rw [if_pos x9]
        exact op9 hL hi hI hK
      rw [if_neg x9]
      by_cases x10 : xs i &&& 31 = 10
      · rw [if_pos x10]
        exact op10 hL hi hI hK
      rw [if_neg x10]
      by_cases x11 : xs i &&& 31 = 11
      · rw [if_pos x11]
        exact op11 hL hi hI hK
      rw [if_neg x11]
      by_cases x12 : xs i &&& 31 = 12
      · rw [if_pos x12]
        exact op12 hL hi hI hK
      rw [if_neg x12]
      by_cases x13 : xs i &&& 31 = 13
      · rw [if_pos x13]
        exact op13 hL hi hI hK
      rw [if_neg x13]
      by_cases x14 : xs i &&& 31 = 14
      · rw [if_pos x14]
        exact op14 hL hi hI hK
      rw [if_neg x14]
      by_cases x15 : xs i &&& 31 = 15
      · rw [if_pos x15]
        exact op15 hL hi hI hK
      rw [if_neg x15]
      by_cases x16 : xs i &&& 31 = 16
      · rw [if_pos x16]
        exact op16 hL hi hI hK
      rw [if_neg x16]
      by_cases x17 : xs i &&& 31 = 17
      · rw [if_pos x17]
        exact op17 hL hi hI hK
      rw [if_neg x17]
      by_cases x18 : xs i &&& 31 = 18
      · rw [if_pos x18]
        exact op18 hI hK
      rw [if_neg x18]
      exact hK _ _ _ _ _ _ _ hI (by omega) (by omega)
    · simp only [w0_883, w0_884, ↓reduceIte, true_and, and_true, vok_int, vok_b0, vok_b1, vok_bb, r_backI, r_backV, bb_eq0, Nat.reduceAdd, Nat.reduceMul, Nat.reduceEqDiff, not_true_eq_false, not_false_eq_true, if_true, if_false, false_and, and_false, c17, c98, hi]
      refine ⟨rfl, ?_, ?_⟩
      · show 135 + g ≤ 601032
        omega
      · show z ≤ 7293034
        omega
