/-! act: what both sides do. -/
def okv (k v : Int32) : Prop := if k = 1 then 0 ≤ v ∧ v < 6 else if k = 3 then 0 ≤ v ∧ v < 5 else 0 ≤ v ∧ v < 10
theorem v5 {v : Int32} : (0 ≤ v ∧ v < 4) ∨ v = 4 ↔ 0 ≤ v ∧ v < 5 := by
  constructor
  · rintro (⟨h1, h2⟩ | rfl)
    · obtain ⟨n, hn, rfl⟩ := below (b := 4) rfl (by decide) ⟨h1, h2⟩
      exact of_eq_true (bel (x := 5) (b := 5) rfl (by decide) (by omega))
    · exact ⟨by decide, by decide⟩
  · intro h
    obtain ⟨n, hn, rfl⟩ := below (b := 5) rfl (by decide) h
    by_cases h4 : n < 4
    · exact Or.inl (of_eq_true (bel (x := 4) (b := 4) rfl (by decide) h4))
    · exact Or.inr (by rw [show n = 4 by omega]; rfl)
section
variable {d : Nat} {Q : im_O → im_M → Prop} {L : Nat} {xs : Nat → Int32} {mi : Nat → Nat → Int32} {rw : Nat → Nat} {o : Nat → Int64} {g z : Nat}
theorem c68 {k v : Int32} : iw (d + 1) 68 0 [.int k, .int v] [] (it_mem L xs mi rw o g z) Q ↔ Q (.inl (some (.int (bb ((0 ≤ k ∧ k < 4) ∧ okv k v))))) (it_mem L xs mi rw o g z) := by
  by_cases h0 : k = 0
  · subst h0
    have e : bb (((0 : Int32) ≤ 0 ∧ (0 : Int32) < 4) ∧ okv 0 v) = bb (0 ≤ v ∧ v < 10) := bb_inj.mpr ⟨fun h => h.2, fun h => ⟨⟨by decide, by decide⟩, h⟩⟩
    rw [e]
    simp only [w68_0, w68_1, w68_32, w68_33, w68_35, w68_38, w68_39, w68_40, w68_42, w68_45, w68_46, w68_47, w68_48, w68_51, w68_54, w68_55, w68_56, w68_59, w68_60, w68_63, w68_64, w68_65, w68_66, ↓reduceIte, true_and, and_true, vok_int, vok_b0, vok_b1, vok_bb, r_backI, r_backV, bb_eq0, Nat.reduceAdd, Nat.reduceMul, Nat.reduceEqDiff, not_true_eq_false, not_false_eq_true, if_true, if_false, false_and, and_false, c17, c98, n_m1_0, n_m1_1, n_m1_2, n_m1_3, n_m1_4, n_m1_5, n_m1_6, n_0_m1, n_0_1, n_0_2, n_0_3, n_0_4, n_0_5, n_0_6, n_1_m1, n_1_0, n_1_2, n_1_3, n_1_4, n_1_5, n_1_6, n_2_m1, n_2_0, n_2_1, n_2_3, n_2_4, n_2_5, n_2_6, n_3_m1, n_3_0, n_3_1, n_3_2, n_3_4, n_3_5, n_3_6, n_4_m1, n_4_0, n_4_1, n_4_2, n_4_3, n_4_5, n_4_6, n_5_m1, n_5_0, n_5_1, n_5_2, n_5_3, n_5_4, n_5_6, n_6_m1, n_6_0, n_6_1, n_6_2, n_6_3, n_6_4, n_6_5]
  by_cases h1 : k = 1
  · subst h1
    have e : bb (((0 : Int32) ≤ 1 ∧ (1 : Int32) < 4) ∧ okv 1 v) = bb (0 ≤ v ∧ v < 6) := bb_inj.mpr ⟨fun h => h.2, fun h => ⟨⟨by decide, by decide⟩, h⟩⟩
    rw [e]
    simp only [w68_0, w68_1, w68_32, w68_33, w68_35, w68_38, w68_39, w68_40, w68_42, w68_45, w68_46, w68_47, w68_48, w68_51, w68_54, w68_55, w68_56, w68_59, w68_60, w68_63, w68_64, w68_65, w68_66, ↓reduceIte, true_and, and_true, vok_int, vok_b0, vok_b1, vok_bb, r_backI, r_backV, bb_eq0, Nat.reduceAdd, Nat.reduceMul, Nat.reduceEqDiff, not_true_eq_false, not_false_eq_true, if_true, if_false, false_and, and_false, c17, c98, n_m1_0, n_m1_1, n_m1_2, n_m1_3, n_m1_4, n_m1_5, n_m1_6, n_0_m1, n_0_1, n_0_2, n_0_3, n_0_4, n_0_5, n_0_6, n_1_m1, n_1_0, n_1_2, n_1_3, n_1_4, n_1_5, n_1_6, n_2_m1, n_2_0, n_2_1, n_2_3, n_2_4, n_2_5, n_2_6, n_3_m1, n_3_0, n_3_1, n_3_2, n_3_4, n_3_5, n_3_6, n_4_m1, n_4_0, n_4_1, n_4_2, n_4_3, n_4_5, n_4_6, n_5_m1, n_5_0, n_5_1, n_5_2, n_5_3, n_5_4, n_5_6, n_6_m1, n_6_0, n_6_1, n_6_2, n_6_3, n_6_4, n_6_5]
  by_cases h2 : k = 2
  · subst h2
    have e : bb (((0 : Int32) ≤ 2 ∧ (2 : Int32) < 4) ∧ okv 2 v) = bb (0 ≤ v ∧ v < 10) := bb_inj.mpr ⟨fun h => h.2, fun h => ⟨⟨by decide, by decide⟩, h⟩⟩
    rw [e]
    simp only [w68_0, w68_1, w68_32, w68_33, w68_35, w68_38, w68_39, w68_40, w68_42, w68_45, w68_46, w68_47, w68_48, w68_51, w68_54, w68_55, w68_56, w68_59, w68_60, w68_63, w68_64, w68_65, w68_66, ↓reduceIte, true_and, and_true, vok_int, vok_b0, vok_b1, vok_bb, r_backI, r_backV, bb_eq0, Nat.reduceAdd, Nat.reduceMul, Nat.reduceEqDiff, not_true_eq_false, not_false_eq_true, if_true, if_false, false_and, and_false, c17, c98, n_m1_0, n_m1_1, n_m1_2, n_m1_3, n_m1_4, n_m1_5, n_m1_6, n_0_m1, n_0_1, n_0_2, n_0_3, n_0_4, n_0_5, n_0_6, n_1_m1, n_1_0, n_1_2, n_1_3, n_1_4, n_1_5, n_1_6, n_2_m1, n_2_0, n_2_1, n_2_3, n_2_4, n_2_5, n_2_6, n_3_m1, n_3_0, n_3_1, n_3_2, n_3_4, n_3_5, n_3_6, n_4_m1, n_4_0, n_4_1, n_4_2, n_4_3, n_4_5, n_4_6, n_5_m1, n_5_0, n_5_1, n_5_2, n_5_3, n_5_4, n_5_6, n_6_m1, n_6_0, n_6_1, n_6_2, n_6_3, n_6_4, n_6_5]
  by_cases h3 : k = 3
  · subst h3
    have e : bb (((0 : Int32) ≤ 3 ∧ (3 : Int32) < 4) ∧ okv 3 v) = bb ((0 ≤ v ∧ v < 4) ∨ v = 4) := bb_inj.mpr ⟨fun h => v5.mpr h.2, fun h => ⟨⟨by decide, by decide⟩, v5.mp h⟩⟩
    rw [e]
    by_cases a : 0 ≤ v ∧ v < 4
    · rw [bb_t (Or.inl a)]
      simp only [w68_0, w68_1, w68_32, w68_33, w68_35, w68_38, w68_39, w68_40, w68_42, w68_45, w68_46, w68_47, w68_48, w68_51, w68_54, w68_55, w68_56, w68_59, w68_60, w68_63, w68_64, w68_65, w68_66, ↓reduceIte, true_and, and_true, vok_int, vok_b0, vok_b1, vok_bb, r_backI, r_backV, bb_eq0, Nat.reduceAdd, Nat.reduceMul, Nat.reduceEqDiff, not_true_eq_false, not_false_eq_true, if_true, if_false, false_and, and_false, c17, c98, n_m1_0, n_m1_1, n_m1_2, n_m1_3, n_m1_4, n_m1_5, n_m1_6, n_0_m1, n_0_1, n_0_2, n_0_3, n_0_4, n_0_5, n_0_6, n_1_m1, n_1_0, n_1_2, n_1_3, n_1_4, n_1_5, n_1_6, n_2_m1, n_2_0, n_2_1, n_2_3, n_2_4, n_2_5, n_2_6, n_3_m1, n_3_0, n_3_1, n_3_2, n_3_4, n_3_5, n_3_6, n_4_m1, n_4_0, n_4_1, n_4_2, n_4_3, n_4_5, n_4_6, n_5_m1, n_5_0, n_5_1, n_5_2, n_5_3, n_5_4, n_5_6, n_6_m1, n_6_0, n_6_1, n_6_2, n_6_3, n_6_4, n_6_5, eq_true a]
    · by_cases b : v = 4
      · rw [bb_t (Or.inr b)]
        simp only [w68_0, w68_1, w68_32, w68_33, w68_35, w68_38, w68_39, w68_40, w68_42, w68_45, w68_46, w68_47, w68_48, w68_51, w68_54, w68_55, w68_56, w68_59, w68_60, w68_63, w68_64, w68_65, w68_66, ↓reduceIte, true_and, and_true, vok_int, vok_b0, vok_b1, vok_bb, r_backI, r_backV, bb_eq0, Nat.reduceAdd, Nat.reduceMul, Nat.reduceEqDiff, not_true_eq_false, not_false_eq_true, if_true, if_false, false_and, and_false, c17, c98, n_m1_0, n_m1_1, n_m1_2, n_m1_3, n_m1_4, n_m1_5, n_m1_6, n_0_m1, n_0_1, n_0_2, n_0_3, n_0_4, n_0_5, n_0_6, n_1_m1, n_1_0, n_1_2, n_1_3, n_1_4, n_1_5, n_1_6, n_2_m1, n_2_0, n_2_1, n_2_3, n_2_4, n_2_5, n_2_6, n_3_m1, n_3_0, n_3_1, n_3_2, n_3_4, n_3_5, n_3_6, n_4_m1, n_4_0, n_4_1, n_4_2, n_4_3, n_4_5, n_4_6, n_5_m1, n_5_0, n_5_1, n_5_2, n_5_3, n_5_4, n_5_6, n_6_m1, n_6_0, n_6_1, n_6_2, n_6_3, n_6_4, n_6_5, eq_false a, eq_true b]
      · rw [bb_f (fun q => q.elim a b)]
        simp only [w68_0, w68_1, w68_32, w68_33, w68_35, w68_38, w68_39, w68_40, w68_42, w68_45, w68_46, w68_47, w68_48, w68_51, w68_54, w68_55, w68_56, w68_59, w68_60, w68_63, w68_64, w68_65, w68_66, ↓reduceIte, true_and, and_true, vok_int, vok_b0, vok_b1, vok_bb, r_backI, r_backV, bb_eq0, Nat.reduceAdd, Nat.reduceMul, Nat.reduceEqDiff, not_true_eq_false, not_false_eq_true, if_true, if_false, false_and, and_false, c17, c98, n_m1_0, n_m1_1, n_m1_2, n_m1_3, n_m1_4, n_m1_5, n_m1_6, n_0_m1, n_0_1, n_0_2, n_0_3, n_0_4, n_0_5, n_0_6, n_1_m1, n_1_0, n_1_2, n_1_3, n_1_4, n_1_5, n_1_6, n_2_m1, n_2_0, n_2_1, n_2_3, n_2_4, n_2_5, n_2_6, n_3_m1, n_3_0, n_3_1, n_3_2, n_3_4, n_3_5, n_3_6, n_4_m1, n_4_0, n_4_1, n_4_2, n_4_3, n_4_5, n_4_6, n_5_m1, n_5_0, n_5_1, n_5_2, n_5_3, n_5_4, n_5_6, n_6_m1, n_6_0, n_6_1, n_6_2, n_6_3, n_6_4, n_6_5, eq_false a, b]
  rw [bb_f (by
    rintro ⟨h, -⟩
    obtain ⟨n, hn, rfl⟩ := below (b := 4) rfl (by decide) h
    rcases (show n = 0 ∨ n = 1 ∨ n = 2 ∨ n = 3 by omega) with rfl | rfl | rfl | rfl
    · exact h0 rfl
    · exact h1 rfl
    · exact h2 rfl
    · exact h3 rfl)]
  simp only [w68_0, w68_1, w68_32, w68_33, w68_35, w68_38, w68_39, w68_40, w68_42, w68_45, w68_46, w68_47, w68_48, w68_51, w68_54, w68_55, w68_56, w68_59, w68_60, w68_63, w68_64, w68_65, w68_66, ↓reduceIte, true_and, and_true, vok_int, vok_b0, vok_b1, vok_bb, r_backI, r_backV, bb_eq0, Nat.reduceAdd, Nat.reduceMul, Nat.reduceEqDiff, not_true_eq_false, not_false_eq_true, if_true, if_false, false_and, and_false, c17, c98, h0, h1, h2, h3]
theorem c101 {k v : Int32} : iw (d + 1) 101 0 [.int k, .int v] [] (it_mem L xs mi rw o g z) Q ↔ Q (.inl (some (.int (bb (okv k v))))) (it_mem L xs mi rw o g z) := by
  have w5 : ∀ a : Int32, (0 ≤ a ∧ a ≤ 5) ↔ (0 ≤ a ∧ a < 6) := fun a => wit_bel (x := 5) (y := 6) (b := 5) rfl rfl (by decide)
  have w4 : ∀ a : Int32, (0 ≤ a ∧ a ≤ 4) ↔ (0 ≤ a ∧ a < 5) := fun a => wit_bel (x := 4) (y := 5) (b := 4) rfl rfl (by decide)
  have w9 : ∀ a : Int32, (0 ≤ a ∧ a ≤ 9) ↔ (0 ≤ a ∧ a < 10) := fun a => wit_bel (x := 9) (y := 10) (b := 9) rfl rfl (by decide)
  unfold okv
  by_cases h1 : k = 1
  · rw [if_pos h1]
    simp only [w101_0, w101_1, w101_2, w101_3, w101_6, w101_7, w101_10, w101_11, w101_12, w101_15, w101_16, w101_19, w101_21, w101_24, ↓reduceIte, true_and, and_true, vok_int, vok_b0, vok_b1, vok_bb, r_backI, r_backV, bb_eq0, Nat.reduceAdd, Nat.reduceMul, Nat.reduceEqDiff, not_true_eq_false, not_false_eq_true, if_true, if_false, false_and, and_false, c17, c98, h1, w5]
  · rw [if_neg h1]
    by_cases h3 : k = 3
    · rw [if_pos h3]
      simp only [w101_0, w101_1, w101_2, w101_3, w101_6, w101_7, w101_10, w101_11, w101_12, w101_15, w101_16, w101_19, w101_21, w101_24, ↓reduceIte, true_and, and_true, vok_int, vok_b0, vok_b1, vok_bb, r_backI, r_backV, bb_eq0, Nat.reduceAdd, Nat.reduceMul, Nat.reduceEqDiff, not_true_eq_false, not_false_eq_true, if_true, if_false, false_and, and_false, c17, c98, h3, n_m1_0, n_m1_1, n_m1_2, n_m1_3, n_m1_4, n_m1_5, n_m1_6, n_0_m1, n_0_1, n_0_2, n_0_3, n_0_4, n_0_5, n_0_6, n_1_m1, n_1_0, n_1_2, n_1_3, n_1_4, n_1_5, n_1_6, n_2_m1, n_2_0, n_2_1, n_2_3, n_2_4, n_2_5, n_2_6, n_3_m1, n_3_0, n_3_1, n_3_2, n_3_4, n_3_5, n_3_6, n_4_m1, n_4_0, n_4_1, n_4_2, n_4_3, n_4_5, n_4_6, n_5_m1, n_5_0, n_5_1, n_5_2, n_5_3, n_5_4, n_5_6, n_6_m1, n_6_0, n_6_1, n_6_2, n_6_3, n_6_4, n_6_5, w4]
    · rw [if_neg h3]
      simp only [w101_0, w101_1, w101_2, w101_3, w101_6, w101_7, w101_10, w101_11, w101_12, w101_15, w101_16, w101_19, w101_21, w101_24, ↓reduceIte, true_and, and_true, vok_int, vok_b0, vok_b1, vok_bb, r_backI, r_backV, bb_eq0, Nat.reduceAdd, Nat.reduceMul, Nat.reduceEqDiff, not_true_eq_false, not_false_eq_true, if_true, if_false, false_and, and_false, c17, c98, h1, h3, w9]
/-- numbers that act takes -/
def okA (a k u i v : Int32) : Prop := (0 ≤ a ∧ a < 3) ∧ (0 ≤ u ∧ u < 4) ∧ ((0 ≤ k ∧ k < 4) ∧ okv k v) ∧ (k = 0 ∨ (0 ≤ i ∧ i < 48))
theorem c67A {a k u i v : Int32} (h : ¬ okA a k u i v) : iw (d + 2) 67 0 [.ref 8, .int a, .int k, .int u, .int i, .int v, .retAddr 0, .retAddr 0] [] (it_mem L xs mi rw o g z) Q ↔ Q (.inr (1, 135 + g)) (it_mem L xs mi rw o (g + 1) (z + 6)) := by
  by_cases h1 : 0 ≤ a ∧ a < 3
  · by_cases h2 : 0 ≤ u ∧ u < 4
    · by_cases h3 : (0 ≤ k ∧ k < 4) ∧ okv k v
      · have h4 : ¬ k = 0 := fun q => h ⟨h1, h2, h3, Or.inl q⟩
        have h5 : ¬ (0 ≤ i ∧ i < 48) := fun q => h ⟨h1, h2, h3, Or.inr q⟩
        simp only [w67_0, w67_1, w67_2, w67_5, w67_8, w67_9, w67_10, w67_13, w67_16, w67_17, w67_19, w67_22, w67_25, w67_35, w67_36, w67_39, w67_41, w67_43, w67_46, w67_49, ↓reduceIte, true_and, and_true, vok_int, vok_b0, vok_b1, vok_bb, r_backI, r_backV, bb_eq0, Nat.reduceAdd, Nat.reduceMul, Nat.reduceEqDiff, not_true_eq_false, not_false_eq_true, if_true, if_false, false_and, and_false, c17, c98, eq_true h1, eq_true h2, eq_true h3, c68, h4, eq_false h5]
      · simp only [w67_0, w67_1, w67_2, w67_5, w67_8, w67_9, w67_10, w67_13, w67_16, w67_17, w67_19, w67_22, w67_25, ↓reduceIte, true_and, and_true, vok_int, vok_b0, vok_b1, vok_bb, r_backI, r_backV, bb_eq0, Nat.reduceAdd, Nat.reduceMul, Nat.reduceEqDiff, not_true_eq_false, not_false_eq_true, if_true, if_false, false_and, and_false, c17, c98, eq_true h1, eq_true h2, eq_false h3, c68]
    · simp only [w67_0, w67_1, w67_2, w67_5, w67_8, w67_9, w67_10, w67_13, w67_16, w67_17, w67_19, w67_22, w67_25, ↓reduceIte, true_and, and_true, vok_int, vok_b0, vok_b1, vok_bb, r_backI, r_backV, bb_eq0, Nat.reduceAdd, Nat.reduceMul, Nat.reduceEqDiff, not_true_eq_false, not_false_eq_true, if_true, if_false, false_and, and_false, c17, c98, eq_true h1, eq_false h2]
  · simp only [w67_0, w67_1, w67_2, w67_5, w67_8, w67_9, w67_10, w67_13, w67_16, w67_17, w67_19, w67_22, w67_25, ↓reduceIte, true_and, and_true, vok_int, vok_b0, vok_b1, vok_bb, r_backI, r_backV, bb_eq0, Nat.reduceAdd, Nat.reduceMul, Nat.reduceEqDiff, not_true_eq_false, not_false_eq_true, if_true, if_false, false_and, and_false, c17, c98, eq_false h1]
theorem c67B {p : Nat} {k u i v : Int32} (h : okA (ii p) k u i v) (hp : p < 3) (hn : ¬ 0 < mi 17 5 ∨ mi 33 p = 16) : iw (d + 2) 67 0 [.ref 8, .int (ii p), .int k, .int u, .int i, .int v, .retAddr 0, .retAddr 0] [] (it_mem L xs mi rw o g z) Q ↔ Q (.inr (0, 135 + g)) (it_mem L xs mi rw o (g + 1) (z + 6)) := by
  obtain ⟨h1, h2, h3, h4⟩ := h
  have e : (ii p).toNatClampNeg = p := ii_clamp (by omega)
  by_cases hk : k = 0
  · by_cases ha : 0 < mi 17 5
    · have hb := hn.resolve_left (fun q => q ha)
      simp only [w67_0, w67_1, w67_2, w67_5, w67_8, w67_9, w67_10, w67_13, w67_16, w67_17, w67_19, w67_22, w67_35, w67_36, w67_39, w67_41, w67_43, w67_46, w67_49, w67_59, w67_60, w67_63, w67_66, w67_69, w67_72, w67_73, w67_76, w67_79, w67_80, w67_81, w67_83, w67_86, isk_8, cv_8_0, cv_8_1, cv_8_2, cv_8_3, cv_8_4, cv_8_5, cv_8_6, cv_8_7, cv_8_8, isk_16, cv_16_0, cv_16_1, cv_16_2, isk_17, cv_17_0, cv_17_1, cv_17_2, cv_17_3, cv_17_4, cv_17_5, isk_27, cv_27_0, cv_27_1, cv_27_2, cv_27_3, cv_27_4, cv_27_5, cv_27_6, isa_33, ln_33, cv_33, ↓reduceIte, true_and, and_true, vok_int, vok_b0, vok_b1, vok_bb, r_backI, r_backV, bb_eq0, Nat.reduceAdd, Nat.reduceMul, Nat.reduceEqDiff, not_true_eq_false, not_false_eq_true, if_true, if_false, false_and, and_false, c17, c98, eq_true h1, eq_true h2, eq_true h3, c68, eq_true hk, c46, eq_true ha, inb3 hp ln_33, e, hb]
    · simp only [w67_0, w67_1, w67_2, w67_5, w67_8, w67_9, w67_10, w67_13, w67_16, w67_17, w67_19, w67_22, w67_35, w67_36, w67_39, w67_41, w67_43, w67_46, w67_49, w67_59, w67_60, w67_63, w67_66, w67_69, w67_72, w67_73, w67_76, w67_79, w67_80, w67_81, w67_83, w67_86, isk_8, cv_8_0, cv_8_1, cv_8_2, cv_8_3, cv_8_4, cv_8_5, cv_8_6, cv_8_7, cv_8_8, isk_16, cv_16_0, cv_16_1, cv_16_2, isk_17, cv_17_0, cv_17_1, cv_17_2, cv_17_3, cv_17_4, cv_17_5, isk_27, cv_27_0, cv_27_1, cv_27_2, cv_27_3, cv_27_4, cv_27_5, cv_27_6, isa_33, ln_33, cv_33, ↓reduceIte, true_and, and_true, vok_int, vok_b0, vok_b1, vok_bb, r_backI, r_backV, bb_eq0, Nat.reduceAdd, Nat.reduceMul, Nat.reduceEqDiff, not_true_eq_false, not_false_eq_true, if_true, if_false, false_and, and_false, c17, c98, eq_true h1, eq_true h2, eq_true h3, c68, eq_true hk, c46, eq_false ha]
  · have h5 := h4.resolve_left hk
    by_cases ha : 0 < mi 17 5
    · have hb := hn.resolve_left (fun q => q ha)
      simp only [w67_0, w67_1, w67_2, w67_5, w67_8, w67_9, w67_10, w67_13, w67_16, w67_17, w67_19, w67_22, w67_35, w67_36, w67_39, w67_41, w67_43, w67_46, w67_49, w67_59, w67_60, w67_63, w67_66, w67_69, w67_72, w67_73, w67_76, w67_79, w67_80, w67_81, w67_83, w67_86, isk_8, cv_8_0, cv_8_1, cv_8_2, cv_8_3, cv_8_4, cv_8_5, cv_8_6, cv_8_7, cv_8_8, isk_16, cv_16_0, cv_16_1, cv_16_2, isk_17, cv_17_0, cv_17_1, cv_17_2, cv_17_3, cv_17_4, cv_17_5, isk_27, cv_27_0, cv_27_1, cv_27_2, cv_27_3, cv_27_4, cv_27_5, cv_27_6, isa_33, ln_33, cv_33, ↓reduceIte, true_and, and_true, vok_int, vok_b0, vok_b1, vok_bb, r_backI, r_backV, bb_eq0, Nat.reduceAdd, Nat.reduceMul, Nat.reduceEqDiff, not_true_eq_false, not_false_eq_true, if_true, if_false, false_and, and_false, c17, c98, eq_true h1, eq_true h2, eq_true h3, c68, hk, eq_true h5, c46, eq_true ha, inb3 hp ln_33, e, hb]
    · simp only [w67_0, w67_1, w67_2, w67_5, w67_8, w67_9, w67_10, w67_13, w67_16, w67_17, w67_19, w67_22, w67_35, w67_36, w67_39, w67_41, w67_43, w67_46, w67_49, w67_59, w67_60, w67_63, w67_66, w67_69, w67_72, w67_73, w67_76, w67_79, w67_80, w67_81, w67_83, w67_86, isk_8, cv_8_0, cv_8_1, cv_8_2, cv_8_3, cv_8_4, cv_8_5, cv_8_6, cv_8_7, cv_8_8, isk_16, cv_16_0, cv_16_1, cv_16_2, isk_17, cv_17_0, cv_17_1, cv_17_2, cv_17_3, cv_17_4, cv_17_5, isk_27, cv_27_0, cv_27_1, cv_27_2, cv_27_3, cv_27_4, cv_27_5, cv_27_6, isa_33, ln_33, cv_33, ↓reduceIte, true_and, and_true, vok_int, vok_b0, vok_b1, vok_bb, r_backI, r_backV, bb_eq0, Nat.reduceAdd, Nat.reduceMul, Nat.reduceEqDiff, not_true_eq_false, not_false_eq_true, if_true, if_false, false_and, and_false, c17, c98, eq_true h1, eq_true h2, eq_true h3, c68, hk, eq_true h5, c46, eq_false ha]
/-- an event written behind the last one -/
def drf (mi : Nat → Nat → Int32) (e t κ u j : Nat) (v : Int32) : Nat → Nat → Int32 := it_up (it_up (it_up (it_up (it_up mi 28 e (ii κ)) 29 e (ii t)) 30 e (ii u)) 31 e (ii j)) 32 e v
theorem drf_f {mi : Nat → Nat → Int32} {e t κ u j a : Nat} {v : Int32} (h : a < 28 ∨ 33 ≤ a) : drf mi e t κ u j v a = mi a := by
  unfold drf
  rw [it_up_f _ _ _ (by omega), it_up_f _ _ _ (by omega), it_up_f _ _ _ (by omega), it_up_f _ _ _ (by omega), it_up_f _ _ _ (by omega)]
theorem drf_o {mi : Nat → Nat → Int32} {e t κ u j a b : Nat} {v : Int32} (h : b ≠ e) : drf mi e t κ u j v a b = mi a b := by
  unfold drf
  simp only [it_up_app]
  rw [if_neg (fun q => h q.2), if_neg (fun q => h q.2), if_neg (fun q => h q.2), if_neg (fun q => h q.2), if_neg (fun q => h q.2)]
theorem drf_n {mi : Nat → Nat → Int32} {e t κ u j : Nat} {v : Int32} : drf mi e t κ u j v 28 e = ii κ ∧ drf mi e t κ u j v 29 e = ii t ∧ drf mi e t κ u j v 30 e = ii u ∧ drf mi e t κ u j v 31 e = ii j ∧ drf mi e t κ u j v 32 e = v := by
  unfold drf
  refine ⟨?_, ?_, ?_, ?_, ?_⟩ <;> simp (disch := omega) only [it_up_f, it_up_same]
theorem c69 {p c t κ u : Nat} {i v : Int32} {w : Value} {j : Nat} (hp : p < 3) (hc : c < 16) (h33 : mi 33 p = ii c) (hκ : κ < 4) (hj : if κ = 0 then j = 16 * p + c else i = ii j) : iw (d + 1) 69 0 [.ref 27, .int (ii p), .int (ii t), .int (ii κ), .int (ii u), .int i, .int v, w] [] (it_mem L xs mi rw o g z) Q ↔ Q (.inl (some (.int (ii (16 * p + c))))) (it_mem L xs (drf mi (16 * p + c) t κ u j v) rw o g z) := by
  have e : (ii p).toNatClampNeg = p := ii_clamp (by omega)
  have e1 : ii p * 16 + ii c = ii (16 * p + c) := by rw [lit_16, ii_mul, ii_add, Nat.mul_comm]
  have e2 : (ii (16 * p + c)).toNatClampNeg = 16 * p + c := ii_clamp (by omega)
  have b0 : it_inb L 28 (ii (16 * p + c)) := ii_inb (by omega) (by rw [ln_28]; omega)
  have b1 : it_inb L 29 (ii (16 * p + c)) := ii_inb (by omega) (by rw [ln_29]; omega)
  have b2 : it_inb L 30 (ii (16 * p + c)) := ii_inb (by omega) (by rw [ln_30]; omega)
  have b3 : it_inb L 31 (ii (16 * p + c)) := ii_inb (by omega) (by rw [ln_31]; omega)
  have b4 : it_inb L 32 (ii (16 * p + c)) := ii_inb (by omega) (by rw [ln_32]; omega)
  by_cases hk : κ = 0
  · rw [if_pos hk] at hj
    have hz : ii κ = 0 := by rw [hk]; rfl
    subst hj
    simp only [w69_0, w69_1, w69_2, w69_5, w69_6, w69_7, w69_10, w69_12, w69_13, w69_16, w69_18, w69_19, w69_20, w69_21, w69_24, w69_26, w69_27, w69_28, w69_29, w69_32, w69_34, w69_36, w69_37, w69_38, w69_41, w69_43, w69_44, w69_47, w69_49, w69_52, w69_54, w69_55, w69_56, w69_59, w69_61, w69_63, w69_64, w69_66, isk_27, cv_27_0, cv_27_1, cv_27_2, cv_27_3, cv_27_4, cv_27_5, cv_27_6, isa_28, ln_28, cv_28, isa_29, ln_29, cv_29, isa_30, ln_30, cv_30, isa_31, ln_31, cv_31, isa_32, ln_32, cv_32, isa_33, ln_33, cv_33, ↓reduceIte, true_and, and_true, vok_int, vok_b0, vok_b1, vok_bb, r_backI, r_backV, bb_eq0, Nat.reduceAdd, Nat.reduceMul, Nat.reduceEqDiff, not_true_eq_false, not_false_eq_true, if_true, if_false, false_and, and_false, c17, c98, inb3 hp ln_33, e, h33, c20, e1, e2, b0, b1, b2, b3, b4, hz, Nat.reduceLeDiff]
    unfold drf
    rw [hz]
  · rw [if_neg hk] at hj
    have hz : ¬ ii κ = 0 := fun q => hk ((ii_inj (b := 0) (by omega) (by decide)).mp q)
    subst hj
    simp only [w69_0, w69_1, w69_2, w69_5, w69_6, w69_7, w69_10, w69_12, w69_13, w69_16, w69_18, w69_19, w69_20, w69_21, w69_24, w69_26, w69_27, w69_28, w69_29, w69_32, w69_34, w69_36, w69_37, w69_38, w69_41, w69_43, w69_44, w69_47, w69_49, w69_52, w69_54, w69_55, w69_56, w69_59, w69_61, w69_63, w69_64, w69_66, isk_27, cv_27_0, cv_27_1, cv_27_2, cv_27_3, cv_27_4, cv_27_5, cv_27_6, isa_28, ln_28, cv_28, isa_29, ln_29, cv_29, isa_30, ln_30, cv_30, isa_31, ln_31, cv_31, isa_32, ln_32, cv_32, isa_33, ln_33, cv_33, ↓reduceIte, true_and, and_true, vok_int, vok_b0, vok_b1, vok_bb, r_backI, r_backV, bb_eq0, Nat.reduceAdd, Nat.reduceMul, Nat.reduceEqDiff, not_true_eq_false, not_false_eq_true, if_true, if_false, false_and, and_false, c17, c98, inb3 hp ln_33, e, h33, c20, e1, e2, b0, b1, b2, b3, b4, hz, Nat.reduceLeDiff]
    exact Iff.rfl
theorem c70 {p c n : Nat} (hp : p < 3) (h33 : mi 33 p = ii c) (h6 : mi 27 6 = ii n) : iw (d + 1) 70 0 [.ref 27, .int (ii p)] [] (it_mem L xs mi rw o g z) Q ↔ Q (.inl none) (it_mem L xs (it_up (it_up mi 33 p (ii (c + 1))) 27 6 (ii (n + 1))) rw o g z) := by
  have e : (ii p).toNatClampNeg = p := ii_clamp (by omega)
  have e1 : ii c + 1 = ii (c + 1) := ii_add (b := 1)
  have e2 : ii n + 1 = ii (n + 1) := ii_add (b := 1)
  have n1 : ∀ X j x, it_up X 33 j x 27 = X 27 := fun X j x => it_up_f _ _ _ (by decide)
  simp only [w70_0, w70_1, w70_4, w70_5, w70_6, w70_7, w70_8, w70_9, w70_10, w70_11, w70_12, w70_15, w70_16, w70_17, w70_20, isk_27, cv_27_0, cv_27_1, cv_27_2, cv_27_3, cv_27_4, cv_27_5, cv_27_6, isa_33, ln_33, cv_33, ↓reduceIte, true_and, and_true, vok_int, vok_b0, vok_b1, vok_bb, r_backI, r_backV, bb_eq0, Nat.reduceAdd, Nat.reduceMul, Nat.reduceEqDiff, not_true_eq_false, not_false_eq_true, if_true, if_false, false_and, and_false, c17, c98, inb3 hp ln_33, e, h33, e1, n1, h6, e2, Nat.reduceLeDiff]
/-- the class's act, as far as the event is weighed -/
theorem c67C {p c n t κ u j k' : Nat} {i v : Int32} {S : FST} {E : EVT} {A : LWT} {D : Nat → Prop} (h : okA (ii p) (ii κ) (ii u) i v) (hp : p < 3) (hκ : κ < 4) (hu : u < 4) (hj : if κ = 0 then j = 16 * p + c else i = ii j) (hj48 : j < 48) (hthere : 0 < mi 17 5) (hc : c < 16) (h33 : mi 33 p = ii c) (h6 : mi 27 6 = ii n) (ht : mi (35 + 14 * p) 3 = ii t) (hkn : mi (36 + 14 * p) p = ii c)
    (hE : E.1 (16 * p + c) = κ ∧ E.2.1 (16 * p + c) = u ∧ E.2.2.1 (16 * p + c) = j ∧ E.2.2.2 (16 * p + c) = v) (hA : it_lwC A mi k') (hS : it_FR (41 + 14 * p) 48 mi S D)
    (hQ1 : fskip E A S (16 * p + c) → ∀ mi', (∀ a, a ≠ 48 + 14 * p → mi' a = drf mi (16 * p + c) (t + 1) κ u j v a) → Q (.inr (2, 135 + g)) (it_mem L xs mi' rw o (g + 1) (z + 6)))
    (hQ2 : ¬ fskip E A S (16 * p + c) → ∀ mi', (∀ a, a ≠ 33 → a ≠ 27 → ¬ (35 + 14 * p ≤ a ∧ a ≤ 48 + 14 * p) → mi' a = drf mi (16 * p + c) (t + 1) κ u j v a) → (∀ b, mi' 33 b = if b = p then ii (c + 1) else mi 33 b) → mi' 27 6 = ii (n + 1) → mi' (35 + 14 * p) 3 = ii (t + 1) → (∀ b, mi' (36 + 14 * p) b = if b = p then ii (c + 1) else mi (36 + 14 * p) b) → (∀ r, r < 3 → mi' (38 + 14 * p + r) = mi (38 + 14 * p + r)) →
      it_FR (41 + 14 * p) 49 mi' (fstep E A S (16 * p + c)) (fun e => D e ∨ e = 16 * p + c) → Q (.inl (some (.int (ii (16 * p + c))))) (it_mem L xs mi' rw o g z)) :
    iw (d + 5) 67 0 [.ref 8, .int (ii p), .int (ii κ), .int (ii u), .int i, .int v, .retAddr 0, .retAddr 0] [] (it_mem L xs mi rw o g z) Q := by
  obtain ⟨h1, h2, h3, h4⟩ := h
  have e : (ii p).toNatClampNeg = p := ii_clamp (by omega)
  have hne : ¬ mi 33 p = 16 := by rw [h33, lit_16, ii_inj (by omega) (by decide)]; omega
  have hne' : ¬ ii c = 16 := by rw [← h33]; exact hne
  have hF := isk_F hp
  have hS7 := isk_S hp
  have e1 : ii t + 1 = ii (t + 1) := ii_add (b := 1)
  have hc69 := fun (Q : im_O → im_M → Prop) => c69 (d := d + 3) (L := L) (xs := xs) (mi := mi) (rw := rw) (o := o) (g := g) (z := z) (Q := Q) (t := t + 1) (u := u) (v := v) (w := .retAddr 0) hp hc h33 hκ hj
  have go : iw (d + 5) 67 0 [.ref 8, .int (ii p), .int (ii κ), .int (ii u), .int i, .int v, .retAddr 0, .retAddr 0] [] (it_mem L xs mi rw o g z) Q ↔ iw (d + 4) 24 0 [.ref (35 + 14 * p + 6), .int (ii (16 * p + c)), .ref 27, .ref 16, .retAddr 0, .retAddr 0, .retAddr 0, .retAddr 0] [] (it_mem L xs (drf mi (16 * p + c) (t + 1) κ u j v) rw o g z) (iw_back (d + 5) 67 142 [.ref 8, .int (ii p), .int (ii κ), .int (ii u), .int i, .int v, .ref (35 + 14 * p), .int (ii (16 * p + c))] [] Q) := by
    by_cases hk : ii κ = 0
    · simp only [w67_0, w67_1, w67_2, w67_5, w67_8, w67_9, w67_10, w67_13, w67_16, w67_17, w67_19, w67_22, w67_35, w67_36, w67_39, w67_41, w67_43, w67_46, w67_49, w67_59, w67_60, w67_63, w67_66, w67_69, w67_72, w67_73, w67_76, w67_79, w67_80, w67_81, w67_83, w67_96, w67_97, w67_100, w67_101, w67_102, w67_104, w67_105, w67_108, w67_109, w67_111, w67_114, w67_115, w67_116, w67_117, w67_118, w67_120, w67_122, w67_125, w67_127, w67_129, w67_132, w67_134, w67_135, w67_138, w67_139, w67_142, isk_8, cv_8_0, cv_8_1, cv_8_2, cv_8_3, cv_8_4, cv_8_5, cv_8_6, cv_8_7, cv_8_8, isk_16, cv_16_0, cv_16_1, cv_16_2, isk_17, cv_17_0, cv_17_1, cv_17_2, cv_17_3, cv_17_4, cv_17_5, isk_27, cv_27_0, cv_27_1, cv_27_2, cv_27_3, cv_27_4, cv_27_5, cv_27_6, isa_33, ln_33, cv_33, isa_34, ln_34, cv_34_0, cv_34_1, cv_34_2, ↓reduceIte, true_and, and_true, vok_int, vok_b0, vok_b1, vok_bb, r_backI, r_backV, bb_eq0, Nat.reduceAdd, Nat.reduceMul, Nat.reduceEqDiff, not_true_eq_false, not_false_eq_true, if_true, if_false, false_and, and_false, c17, c98, eq_true h1, eq_true h2, eq_true h3, c68, eq_true hk, c46, eq_true hthere, inb3 hp ln_33, inb3 hp ln_34, e, h33, hne', cv34 hp, hS7, cvg_7_3 hS7, ht, e1, hc69, cvg_7_2 hS7, iskg_7_2 hS7]
    · have h5 := h4.resolve_left hk
      simp only [w67_0, w67_1, w67_2, w67_5, w67_8, w67_9, w67_10, w67_13, w67_16, w67_17, w67_19, w67_22, w67_35, w67_36, w67_39, w67_41, w67_43, w67_46, w67_49, w67_59, w67_60, w67_63, w67_66, w67_69, w67_72, w67_73, w67_76, w67_79, w67_80, w67_81, w67_83, w67_96, w67_97, w67_100, w67_101, w67_102, w67_104, w67_105, w67_108, w67_109, w67_111, w67_114, w67_115, w67_116, w67_117, w67_118, w67_120, w67_122, w67_125, w67_127, w67_129, w67_132, w67_134, w67_135, w67_138, w67_139, w67_142, isk_8, cv_8_0, cv_8_1, cv_8_2, cv_8_3, cv_8_4, cv_8_5, cv_8_6, cv_8_7, cv_8_8, isk_16, cv_16_0, cv_16_1, cv_16_2, isk_17, cv_17_0, cv_17_1, cv_17_2, cv_17_3, cv_17_4, cv_17_5, isk_27, cv_27_0, cv_27_1, cv_27_2, cv_27_3, cv_27_4, cv_27_5, cv_27_6, isa_33, ln_33, cv_33, isa_34, ln_34, cv_34_0, cv_34_1, cv_34_2, ↓reduceIte, true_and, and_true, vok_int, vok_b0, vok_b1, vok_bb, r_backI, r_backV, bb_eq0, Nat.reduceAdd, Nat.reduceMul, Nat.reduceEqDiff, not_true_eq_false, not_false_eq_true, if_true, if_false, false_and, and_false, c17, c98, eq_true h1, eq_true h2, eq_true h3, c68, hk, eq_true h5, c46, eq_true hthere, inb3 hp ln_33, inb3 hp ln_34, e, h33, hne', cv34 hp, hS7, cvg_7_3 hS7, ht, e1, hc69, cvg_7_2 hS7, iskg_7_2 hS7]
  rw [go]
  have hE2 : it_evt E (drf mi (16 * p + c) (t + 1) κ u j v) 28 30 31 32 (16 * p + c) := by
    obtain ⟨n1, n2, n3, n4, n5⟩ := drf_n (mi := mi) (e := 16 * p + c) (t := t + 1) (κ := κ) (u := u) (j := j) (v := v)
    unfold it_evt
    rw [hE.1, hE.2.1, hE.2.2.1, hE.2.2.2]
    exact ⟨n1, hκ, n3, hu, n4, hj48, n5⟩
  have hA2 : it_lwC A (drf mi (16 * p + c) (t + 1) κ u j v) k' := lwC_fr hA (fun a _ _ => drf_f (by omega))
  have hS2 : it_FR (35 + 14 * p + 6) 48 (drf mi (16 * p + c) (t + 1) κ u j v) S D := by
    rw [show 35 + 14 * p + 6 = 41 + 14 * p by omega]
    exact FR_fr hS (fun a _ _ => drf_f (by omega))
  refine c24 (d := d + 1) (N := 48) (iskg_7_2 hS7) (by omega) (by omega) hE2 hA2 (by decide) hS2 (fun ma hma => ?_)
  have hma' : ∀ a, a ≠ 48 + 14 * p → ma a = drf mi (16 * p + c) (t + 1) κ u j v a := fun a ha => hma a (by omega)
  by_cases hsk : fskip E A S (16 * p + c)
  · have hfin := hQ1 hsk ma hma'
    have z1 : ¬ (1 : Int32) = 0 := by decide
    rw [bb_t hsk]
    simp only [↓reduceIte, true_and, and_true, vok_int, vok_b0, vok_b1, vok_bb, r_backI, r_backV, bb_eq0, Nat.reduceAdd, Nat.reduceMul, Nat.reduceEqDiff, not_true_eq_false, not_false_eq_true, if_true, if_false, false_and, and_false, c17, c98, w67_145, w67_148, z1]
    exact hfin
  · rw [bb_f hsk]
    have g33 : ma 33 p = ii c := by rw [hma' 33 (by omega), drf_f (by omega)]; exact h33
    have g6 : ma 27 6 = ii n := by rw [hma' 27 (by omega), drf_f (by omega)]; exact h6
    have gt : ma (35 + 14 * p) 3 = ii t := by rw [hma' _ (by omega), drf_f (by omega)]; exact ht
    have gk : ma (35 + 14 * p + 1) p = ii c := by rw [hma' _ (by omega), drf_f (by omega), show 35 + 14 * p + 1 = 36 + 14 * p by omega]; exact hkn
    have e3 : ii c + 1 = ii (c + 1) := ii_add (b := 1)
    have n1 : ∀ X j x, it_up X 27 j x (35 + 14 * p) = X (35 + 14 * p) := fun X j x => it_up_f _ _ _ (by omega)
    have n2 : ∀ X j x, it_up X 33 j x (35 + 14 * p) = X (35 + 14 * p) := fun X j x => it_up_f _ _ _ (by omega)
    have n3 : ∀ X j x, it_up X 27 j x (35 + 14 * p + 1) = X (35 + 14 * p + 1) := fun X j x => it_up_f _ _ _ (by omega)
    have n4 : ∀ X j x, it_up X 33 j x (35 + 14 * p + 1) = X (35 + 14 * p + 1) := fun X j x => it_up_f _ _ _ (by omega)
    have n5 : ∀ X j x, it_up X (35 + 14 * p) j x (35 + 14 * p + 1) = X (35 + 14 * p + 1) := fun X j x => it_up_f _ _ _ (by omega)
    have g8 : 8 ≤ 35 + 14 * p + 1 := by omega
    simp only [↓reduceIte, true_and, and_true, vok_int, vok_b0, vok_b1, vok_bb, r_backI, r_backV, bb_eq0, Nat.reduceAdd, Nat.reduceMul, Nat.reduceEqDiff, not_true_eq_false, not_false_eq_true, if_true, if_false, false_and, and_false, c17, c98, w67_145, w67_148, w67_158, w67_159, w67_162, w67_163, w67_166, w67_168, w67_169, w67_172, w67_173, w67_174, w67_177, w67_179, w67_182, w67_183, w67_184, w67_185, w67_186, w67_187, w67_188, w67_190, w67_193, w67_195, w67_196, w67_199, w67_200, w67_203, isk_8, cv_8_0, cv_8_1, cv_8_2, cv_8_3, cv_8_4, cv_8_5, cv_8_6, cv_8_7, cv_8_8, isk_16, cv_16_0, cv_16_1, cv_16_2, isk_27, cv_27_0, cv_27_1, cv_27_2, cv_27_3, cv_27_4, cv_27_5, cv_27_6, c70 hp g33 g6, hS7, cvg_7_0 hS7, cvg_7_2 hS7, cvg_7_3 hS7, iskg_7_2 hS7, isag_7_0 hS7, cvag_7_0 hS7, inb3 hp (lng_7_0 hS7), e, n1, n2, n3, n4, n5, gt, gk, e1, e3, g8]
    have hmb : ∀ a, a ≠ 33 → a ≠ 27 → a ≠ 35 + 14 * p → a ≠ 36 + 14 * p → a ≠ 48 + 14 * p → (it_up (it_up (it_up (it_up ma 33 p (ii (c + 1))) 27 6 (ii (n + 1))) (35 + 14 * p) 3 (ii (t + 1))) (35 + 14 * p + 1) p (ii (c + 1))) a = drf mi (16 * p + c) (t + 1) κ u j v a := fun a q1 q2 q3 q4 q5 => by
      rw [it_up_f _ _ _ (by omega), it_up_f _ _ _ q3, it_up_f _ _ _ q2, it_up_f _ _ _ q1, hma' a q5]
    refine c23 (d := d) (N := 48) (E := E) (A := A) (S := S) (D := D) (k := k') (iskg_7_2 hS7) (by omega) (by omega) (evt_fr hE2 (fun a q1 q2 => hmb a (by omega) (by omega) (by omega) (by omega) (by omega))) (lwC_fr hA2 (fun a q1 q2 => hmb a (by omega) (by omega) (by omega) (by omega) (by omega))) (by decide) (FR_fr hS2 (fun a q1 q2 => hmb a (by omega) (by omega) (by omega) (by omega) (by omega))) (fun mb hf hFR => ?_)
    · rw [show 35 + 14 * p + 6 = 41 + 14 * p by omega] at hFR
      have hfin := hQ2 hsk mb (fun a q1 q2 q3 => by rw [hf a (by omega), hmb a q1 q2 (by omega) (by omega) (by omega)]) (fun b => ?_) ?_ ?_ (fun b => ?_) (fun r hr => ?_) hFR
      · simp only [↓reduceIte, true_and, and_true, vok_int, vok_b0, vok_b1, vok_bb, r_backI, r_backV, bb_eq0, Nat.reduceAdd, Nat.reduceMul, Nat.reduceEqDiff, not_true_eq_false, not_false_eq_true, if_true, if_false, false_and, and_false, c17, c98, w67_206, w67_208]
        exact hfin
      · rw [hf 33 (by omega)]
        simp (disch := omega) only [it_up_f, it_up_s]
        rw [hma' 33 (by omega), drf_f (by omega)]
      · rw [hf 27 (by omega)]
        simp (disch := omega) only [it_up_f, it_up_same]
      · rw [hf _ (by omega)]
        simp (disch := omega) only [it_up_f, it_up_same]
      · rw [hf _ (by omega), show 35 + 14 * p + 1 = 36 + 14 * p by omega, it_up_s]
        simp (disch := omega) only [it_up_f]
        rw [hma' _ (by omega), drf_f (by omega)]
      · rw [hf _ (by omega), hmb _ (by omega) (by omega) (by omega) (by omega) (by omega), drf_f (by omega)]
end
