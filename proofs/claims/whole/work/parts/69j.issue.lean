/-! issue and skipped. -/
def sx4 (w a b c e : Int32) : Int32 := if w = 0 then a else if w = 1 then b else if w = 2 then c else if w = 3 then e else -1
theorem isk_F {p : Nat} (hp : p < 3) : it_isk 6 (41 + 14 * p) = true := by
  rcases i_three hp with rfl | rfl | rfl
  · exact isk_41
  · exact isk_55
  · exact isk_69
section
variable {d : Nat} {Q : im_O → im_M → Prop} {L : Nat} {xs : Nat → Int32} {mi : Nat → Nat → Int32} {rw : Nat → Nat} {o : Nat → Int64} {g z : Nat}
theorem c37n {a b w : Int32} {v : Value} (h : ¬ ((0 ≤ a ∧ a < 3) ∧ (0 ≤ b ∧ b < 48))) : iw (d + 1) 37 0 [.ref 8, .int a, .int b, .int w, v] [] (it_mem L xs mi rw o g z) Q ↔ Q (.inl (some (.int (-1)))) (it_mem L xs mi rw o g z) := by
  by_cases h1 : 0 ≤ a ∧ a < 3
  · have h2 : ¬ (0 ≤ b ∧ b < 48) := fun q => h ⟨h1, q⟩
    simp only [w37_0, w37_1, w37_2, w37_5, w37_8, w37_9, w37_11, w37_14, w37_17, w37_18, ↓reduceIte, true_and, and_true, vok_int, vok_b0, vok_b1, vok_bb, r_backI, r_backV, bb_eq0, Nat.reduceAdd, Nat.reduceMul, Nat.reduceEqDiff, not_true_eq_false, not_false_eq_true, if_true, if_false, false_and, and_false, c17, c98, eq_true h1, eq_false h2]
  · simp only [w37_0, w37_1, w37_2, w37_5, w37_8, w37_9, w37_11, w37_14, w37_17, w37_18, ↓reduceIte, true_and, and_true, vok_int, vok_b0, vok_b1, vok_bb, r_backI, r_backV, bb_eq0, Nat.reduceAdd, Nat.reduceMul, Nat.reduceEqDiff, not_true_eq_false, not_false_eq_true, if_true, if_false, false_and, and_false, c17, c98, eq_false h1]
theorem c37 {p c : Nat} {w : Int32} {v : Value} (hp : p < 3) (hc : c < 48) : iw (d + 1) 37 0 [.ref 8, .int (ii p), .int (ii c), .int w, v] [] (it_mem L xs mi rw o g z) Q ↔ Q (.inl (some (.int (@ite _ (0 < mi (41 + 14 * p + 4) c) (Classical.propDecidable _) (sx4 w (mi (41 + 14 * p + 1) c) (mi (41 + 14 * p + 2) c) (mi (41 + 14 * p + 3) c) (mi (41 + 14 * p + 4) c)) (-1))))) (it_mem L xs mi rw o g z) := by
  have e : (ii p).toNatClampNeg = p := ii_clamp (by omega)
  have e2 : (ii c).toNatClampNeg = c := ii_clamp (by omega)
  simp only [w37_0, w37_1, w37_2, w37_5, w37_8, w37_9, w37_11, w37_14, w37_17, w37_18, w37_19, w37_20, w37_23, w37_24, isk_8, cv_8_0, cv_8_1, cv_8_2, cv_8_3, cv_8_4, cv_8_5, cv_8_6, cv_8_7, cv_8_8, isa_34, ln_34, cv_34_0, cv_34_1, cv_34_2, ↓reduceIte, true_and, and_true, vok_int, vok_b0, vok_b1, vok_bb, r_backI, r_backV, bb_eq0, Nat.reduceAdd, Nat.reduceMul, Nat.reduceEqDiff, not_true_eq_false, not_false_eq_true, if_true, if_false, false_and, and_false, c17, c98, bel (x := 3) rfl (by decide) hp, bel (x := 48) rfl (by decide) hc, inb3 hp ln_34, e]
  rcases i_three hp with rfl | rfl | rfl
  · have b1 : it_inb L 42 (ii c) := ii_inb (by omega) (by rw [ln_42]; omega)
    have b2 : it_inb L 43 (ii c) := ii_inb (by omega) (by rw [ln_43]; omega)
    have b3 : it_inb L 44 (ii c) := ii_inb (by omega) (by rw [ln_44]; omega)
    have b4 : it_inb L 45 (ii c) := ii_inb (by omega) (by rw [ln_45]; omega)
    by_cases h : 0 < mi 45 c
    · have h' : 0 < mi (41 + 14 * 0 + 4) c := h
      rw [@if_pos _ (Classical.propDecidable _) h']
      simp only [w37_24, w37_25, w37_28, w37_30, w37_32, w37_33, w37_36, w37_39, w37_40, w37_41, w37_42, w37_72, w37_74, w37_77, w37_78, w37_79, w37_80, w37_82, w37_85, w37_86, w37_87, w37_88, w37_90, w37_93, w37_94, w37_95, w37_96, w37_98, w37_101, w37_102, w37_103, w37_104, w37_105, isa_34, ln_34, cv_34_0, cv_34_1, cv_34_2, isk_35, cv_35_0, cv_35_1, cv_35_2, cv_35_3, isk_41, cv_41_0, cv_41_1, cv_41_2, cv_41_3, cv_41_4, cv_41_5, cv_41_6, isa_42, ln_42, cv_42, isa_43, ln_43, cv_43, isa_44, ln_44, cv_44, isa_45, ln_45, cv_45, ↓reduceIte, true_and, and_true, vok_int, vok_b0, vok_b1, vok_bb, r_backI, r_backV, bb_eq0, Nat.reduceAdd, Nat.reduceMul, Nat.reduceEqDiff, not_true_eq_false, not_false_eq_true, if_true, if_false, false_and, and_false, c17, c98, c26 isk_41 hc, h, b1, b2, b3, b4, e2]
      unfold sx4
      repeat' split
      all_goals exact Iff.rfl
    · have h' : ¬ 0 < mi (41 + 14 * 0 + 4) c := h
      rw [@if_neg _ (Classical.propDecidable _) h']
      simp only [w37_24, w37_25, w37_28, w37_30, w37_32, w37_33, w37_36, w37_39, w37_40, isa_34, ln_34, cv_34_0, cv_34_1, cv_34_2, isk_35, cv_35_0, cv_35_1, cv_35_2, cv_35_3, isk_41, cv_41_0, cv_41_1, cv_41_2, cv_41_3, cv_41_4, cv_41_5, cv_41_6, isa_42, ln_42, cv_42, isa_43, ln_43, cv_43, isa_44, ln_44, cv_44, isa_45, ln_45, cv_45, ↓reduceIte, true_and, and_true, vok_int, vok_b0, vok_b1, vok_bb, r_backI, r_backV, bb_eq0, Nat.reduceAdd, Nat.reduceMul, Nat.reduceEqDiff, not_true_eq_false, not_false_eq_true, if_true, if_false, false_and, and_false, c17, c98, c26 isk_41 hc, h]
  · have b1 : it_inb L 56 (ii c) := ii_inb (by omega) (by rw [ln_56]; omega)
    have b2 : it_inb L 57 (ii c) := ii_inb (by omega) (by rw [ln_57]; omega)
    have b3 : it_inb L 58 (ii c) := ii_inb (by omega) (by rw [ln_58]; omega)
    have b4 : it_inb L 59 (ii c) := ii_inb (by omega) (by rw [ln_59]; omega)
    by_cases h : 0 < mi 59 c
    · have h' : 0 < mi (41 + 14 * 1 + 4) c := h
      rw [@if_pos _ (Classical.propDecidable _) h']
      simp only [w37_24, w37_25, w37_28, w37_30, w37_32, w37_33, w37_36, w37_39, w37_40, w37_41, w37_42, w37_72, w37_74, w37_77, w37_78, w37_79, w37_80, w37_82, w37_85, w37_86, w37_87, w37_88, w37_90, w37_93, w37_94, w37_95, w37_96, w37_98, w37_101, w37_102, w37_103, w37_104, w37_105, isa_34, ln_34, cv_34_0, cv_34_1, cv_34_2, isk_49, cv_49_0, cv_49_1, cv_49_2, cv_49_3, isk_55, cv_55_0, cv_55_1, cv_55_2, cv_55_3, cv_55_4, cv_55_5, cv_55_6, isa_56, ln_56, cv_56, isa_57, ln_57, cv_57, isa_58, ln_58, cv_58, isa_59, ln_59, cv_59, ↓reduceIte, true_and, and_true, vok_int, vok_b0, vok_b1, vok_bb, r_backI, r_backV, bb_eq0, Nat.reduceAdd, Nat.reduceMul, Nat.reduceEqDiff, not_true_eq_false, not_false_eq_true, if_true, if_false, false_and, and_false, c17, c98, c26 isk_55 hc, h, b1, b2, b3, b4, e2]
      unfold sx4
      repeat' split
      all_goals exact Iff.rfl
    · have h' : ¬ 0 < mi (41 + 14 * 1 + 4) c := h
      rw [@if_neg _ (Classical.propDecidable _) h']
      simp only [w37_24, w37_25, w37_28, w37_30, w37_32, w37_33, w37_36, w37_39, w37_40, isa_34, ln_34, cv_34_0, cv_34_1, cv_34_2, isk_49, cv_49_0, cv_49_1, cv_49_2, cv_49_3, isk_55, cv_55_0, cv_55_1, cv_55_2, cv_55_3, cv_55_4, cv_55_5, cv_55_6, isa_56, ln_56, cv_56, isa_57, ln_57, cv_57, isa_58, ln_58, cv_58, isa_59, ln_59, cv_59, ↓reduceIte, true_and, and_true, vok_int, vok_b0, vok_b1, vok_bb, r_backI, r_backV, bb_eq0, Nat.reduceAdd, Nat.reduceMul, Nat.reduceEqDiff, not_true_eq_false, not_false_eq_true, if_true, if_false, false_and, and_false, c17, c98, c26 isk_55 hc, h]
  · have b1 : it_inb L 70 (ii c) := ii_inb (by omega) (by rw [ln_70]; omega)
    have b2 : it_inb L 71 (ii c) := ii_inb (by omega) (by rw [ln_71]; omega)
    have b3 : it_inb L 72 (ii c) := ii_inb (by omega) (by rw [ln_72]; omega)
    have b4 : it_inb L 73 (ii c) := ii_inb (by omega) (by rw [ln_73]; omega)
    by_cases h : 0 < mi 73 c
    · have h' : 0 < mi (41 + 14 * 2 + 4) c := h
      rw [@if_pos _ (Classical.propDecidable _) h']
      simp only [w37_24, w37_25, w37_28, w37_30, w37_32, w37_33, w37_36, w37_39, w37_40, w37_41, w37_42, w37_72, w37_74, w37_77, w37_78, w37_79, w37_80, w37_82, w37_85, w37_86, w37_87, w37_88, w37_90, w37_93, w37_94, w37_95, w37_96, w37_98, w37_101, w37_102, w37_103, w37_104, w37_105, isa_34, ln_34, cv_34_0, cv_34_1, cv_34_2, isk_63, cv_63_0, cv_63_1, cv_63_2, cv_63_3, isk_69, cv_69_0, cv_69_1, cv_69_2, cv_69_3, cv_69_4, cv_69_5, cv_69_6, isa_70, ln_70, cv_70, isa_71, ln_71, cv_71, isa_72, ln_72, cv_72, isa_73, ln_73, cv_73, ↓reduceIte, true_and, and_true, vok_int, vok_b0, vok_b1, vok_bb, r_backI, r_backV, bb_eq0, Nat.reduceAdd, Nat.reduceMul, Nat.reduceEqDiff, not_true_eq_false, not_false_eq_true, if_true, if_false, false_and, and_false, c17, c98, c26 isk_69 hc, h, b1, b2, b3, b4, e2]
      unfold sx4
      repeat' split
      all_goals exact Iff.rfl
    · have h' : ¬ 0 < mi (41 + 14 * 2 + 4) c := h
      rw [@if_neg _ (Classical.propDecidable _) h']
      simp only [w37_24, w37_25, w37_28, w37_30, w37_32, w37_33, w37_36, w37_39, w37_40, isa_34, ln_34, cv_34_0, cv_34_1, cv_34_2, isk_63, cv_63_0, cv_63_1, cv_63_2, cv_63_3, isk_69, cv_69_0, cv_69_1, cv_69_2, cv_69_3, cv_69_4, cv_69_5, cv_69_6, isa_70, ln_70, cv_70, isa_71, ln_71, cv_71, isa_72, ln_72, cv_72, isa_73, ln_73, cv_73, ↓reduceIte, true_and, and_true, vok_int, vok_b0, vok_b1, vok_bb, r_backI, r_backV, bb_eq0, Nat.reduceAdd, Nat.reduceMul, Nat.reduceEqDiff, not_true_eq_false, not_false_eq_true, if_true, if_false, false_and, and_false, c17, c98, c26 isk_69 hc, h]
theorem wb47 {a : Int32} : (0 ≤ a ∧ a ≤ 47) ↔ (0 ≤ a ∧ a < 48) := wit_bel (x := 47) (y := 48) (b := 47) rfl rfl (by decide)
theorem c119n {a b w : Int32} (h : ¬ ((0 ≤ a ∧ a < 3) ∧ (0 ≤ b ∧ b < 48))) : iw (d + 1) 119 0 [.ref 99, .int a, .int b, .int w] [] (it_mem L xs mi rw o g z) Q ↔ Q (.inl (some (.int (-1)))) (it_mem L xs (it_up mi 99 0 0) rw o g z) := by
  by_cases h1 : 0 ≤ a ∧ a < 3
  · have h2 : ¬ (0 ≤ b ∧ b < 48) := fun q => h ⟨h1, q⟩
    simp only [w119_0, w119_1, w119_2, w119_5, w119_6, w119_7, w119_10, w119_13, w119_14, w119_16, w119_19, w119_22, w119_23, isk_99, cv_99_0, cv_99_1, cv_99_2, cv_99_3, cv_99_4, cv_99_5, cv_99_6, cv_99_7, cv_99_8, cv_99_9, cv_99_10, cv_99_11, cv_99_12, cv_99_13, cv_99_14, cv_99_15, cv_99_16, cv_99_17, cv_99_18, cv_99_19, cv_99_20, cv_99_21, cv_99_22, cv_99_23, cv_99_24, cv_99_25, cv_99_26, cv_99_27, cv_99_28, cv_99_29, cv_99_30, cv_99_31, cv_99_32, cv_99_33, cv_99_34, cv_99_35, cv_99_36, cv_99_37, cv_99_38, cv_99_39, cv_99_40, cv_99_41, cv_99_42, cv_99_43, cv_99_44, cv_99_45, cv_99_46, ↓reduceIte, true_and, and_true, vok_int, vok_b0, vok_b1, vok_bb, r_backI, r_backV, bb_eq0, Nat.reduceAdd, Nat.reduceMul, Nat.reduceEqDiff, not_true_eq_false, not_false_eq_true, if_true, if_false, false_and, and_false, c17, c98, wb3, wb47, eq_true h1, eq_false h2]
  · simp only [w119_0, w119_1, w119_2, w119_5, w119_6, w119_7, w119_10, w119_13, w119_14, w119_16, w119_19, w119_22, w119_23, isk_99, cv_99_0, cv_99_1, cv_99_2, cv_99_3, cv_99_4, cv_99_5, cv_99_6, cv_99_7, cv_99_8, cv_99_9, cv_99_10, cv_99_11, cv_99_12, cv_99_13, cv_99_14, cv_99_15, cv_99_16, cv_99_17, cv_99_18, cv_99_19, cv_99_20, cv_99_21, cv_99_22, cv_99_23, cv_99_24, cv_99_25, cv_99_26, cv_99_27, cv_99_28, cv_99_29, cv_99_30, cv_99_31, cv_99_32, cv_99_33, cv_99_34, cv_99_35, cv_99_36, cv_99_37, cv_99_38, cv_99_39, cv_99_40, cv_99_41, cv_99_42, cv_99_43, cv_99_44, cv_99_45, cv_99_46, ↓reduceIte, true_and, and_true, vok_int, vok_b0, vok_b1, vok_bb, r_backI, r_backV, bb_eq0, Nat.reduceAdd, Nat.reduceMul, Nat.reduceEqDiff, not_true_eq_false, not_false_eq_true, if_true, if_false, false_and, and_false, c17, c98, wb3, wb47, eq_false h1]
theorem c119 {p c : Nat} {w : Int32} {S : FST} {D : Nat → Prop} (hp : p < 3) (hc : c < 48)
    (hf : ∀ Q' : im_O → im_M → Prop, (∀ mi', (∀ a, a < 104 ∨ (107 ≤ a ∧ a ≤ 125) ∨ 133 ≤ a → mi' a = it_up mi 99 0 0 a) → it_MR 48 mi' S D → Q' (.inl none) (it_mem L xs mi' rw o g z)) → iw d 102 0 [.ref 99, .int (ii p), .retAddr 0, .retAddr 0, .retAddr 0, .retAddr 0, .retAddr 0] [] (it_mem L xs (it_up mi 99 0 0) rw o g z) Q')
    (hQ : ∀ mi', (∀ a, a < 104 ∨ (107 ≤ a ∧ a ≤ 125) ∨ 133 ≤ a → mi' a = it_up mi 99 0 0 a) → Q (.inl (some (.int (if S.1 c = 0 then -1 else sx4 w (S.2.1 c) (S.2.2.1 c) (S.2.2.2.1 c) (ii (S.1 c)))))) (it_mem L xs mi' rw o g z)) :
    iw (d + 1) 119 0 [.ref 99, .int (ii p), .int (ii c), .int w] [] (it_mem L xs mi rw o g z) Q := by
  have e2 : (ii c).toNatClampNeg = c := ii_clamp (by omega)
  have b6 : it_inb L 126 (ii c) := ii_inb (by omega) (by rw [ln_126]; omega)
  have b7 : it_inb L 127 (ii c) := ii_inb (by omega) (by rw [ln_127]; omega)
  have b8 : it_inb L 128 (ii c) := ii_inb (by omega) (by rw [ln_128]; omega)
  have b9 : it_inb L 129 (ii c) := ii_inb (by omega) (by rw [ln_129]; omega)
  have b10 : it_inb L 130 (ii c) := ii_inb (by omega) (by rw [ln_130]; omega)
  simp only [w119_0, w119_1, w119_2, w119_5, w119_6, w119_7, w119_10, w119_13, w119_14, w119_16, w119_19, w119_22, w119_23, w119_24, w119_25, w119_26, isk_99, cv_99_0, cv_99_1, cv_99_2, cv_99_3, cv_99_4, cv_99_5, cv_99_6, cv_99_7, cv_99_8, cv_99_9, cv_99_10, cv_99_11, cv_99_12, cv_99_13, cv_99_14, cv_99_15, cv_99_16, cv_99_17, cv_99_18, cv_99_19, cv_99_20, cv_99_21, cv_99_22, cv_99_23, cv_99_24, cv_99_25, cv_99_26, cv_99_27, cv_99_28, cv_99_29, cv_99_30, cv_99_31, cv_99_32, cv_99_33, cv_99_34, cv_99_35, cv_99_36, cv_99_37, cv_99_38, cv_99_39, cv_99_40, cv_99_41, cv_99_42, cv_99_43, cv_99_44, cv_99_45, cv_99_46, ↓reduceIte, true_and, and_true, vok_int, vok_b0, vok_b1, vok_bb, r_backI, r_backV, bb_eq0, Nat.reduceAdd, Nat.reduceMul, Nat.reduceEqDiff, not_true_eq_false, not_false_eq_true, if_true, if_false, false_and, and_false, c17, c98, wit (x := 2) (b := 2) rfl (by decide) hp, wit (x := 47) (b := 47) rfl (by decide) hc]
  refine hf _ (fun mi' hm' hS' => ?_)
  have hfin := hQ mi' hm'
  obtain ⟨m1, m2, m3⟩ := hS'.1 c hc
  by_cases h : S.1 c = 0
  · rw [if_pos h] at hfin
    have m1 : mi' 126 c = 0 := by rw [m1, bb_f (fun q => q h)]
    simp only [w119_29, w119_30, w119_33, w119_34, w119_35, w119_38, w119_39, isk_99, cv_99_0, cv_99_1, cv_99_2, cv_99_3, cv_99_4, cv_99_5, cv_99_6, cv_99_7, cv_99_8, cv_99_9, cv_99_10, cv_99_11, cv_99_12, cv_99_13, cv_99_14, cv_99_15, cv_99_16, cv_99_17, cv_99_18, cv_99_19, cv_99_20, cv_99_21, cv_99_22, cv_99_23, cv_99_24, cv_99_25, cv_99_26, cv_99_27, cv_99_28, cv_99_29, cv_99_30, cv_99_31, cv_99_32, cv_99_33, cv_99_34, cv_99_35, cv_99_36, cv_99_37, cv_99_38, cv_99_39, cv_99_40, cv_99_41, cv_99_42, cv_99_43, cv_99_44, cv_99_45, cv_99_46, isa_126, ln_126, cv_126, ↓reduceIte, true_and, and_true, vok_int, vok_b0, vok_b1, vok_bb, r_backI, r_backV, bb_eq0, Nat.reduceAdd, Nat.reduceMul, Nat.reduceEqDiff, not_true_eq_false, not_false_eq_true, if_true, if_false, false_and, and_false, c17, c98, b6, e2, m1]
    exact hfin
  · rw [if_neg h] at hfin
    have m1 : mi' 126 c = 1 := by rw [m1, bb_t h]
    have z1 : ¬ (1 : Int32) = 0 := by decide
    obtain ⟨n1, n2, n3, n4⟩ := m3 h
    simp only [w119_29, w119_30, w119_33, w119_34, w119_35, w119_38, w119_39, w119_40, w119_41, w119_72, w119_73, w119_76, w119_77, w119_78, w119_79, w119_80, w119_83, w119_84, w119_85, w119_86, w119_87, w119_90, w119_91, w119_92, w119_93, w119_94, w119_97, w119_98, w119_99, w119_100, w119_101, isk_99, cv_99_0, cv_99_1, cv_99_2, cv_99_3, cv_99_4, cv_99_5, cv_99_6, cv_99_7, cv_99_8, cv_99_9, cv_99_10, cv_99_11, cv_99_12, cv_99_13, cv_99_14, cv_99_15, cv_99_16, cv_99_17, cv_99_18, cv_99_19, cv_99_20, cv_99_21, cv_99_22, cv_99_23, cv_99_24, cv_99_25, cv_99_26, cv_99_27, cv_99_28, cv_99_29, cv_99_30, cv_99_31, cv_99_32, cv_99_33, cv_99_34, cv_99_35, cv_99_36, cv_99_37, cv_99_38, cv_99_39, cv_99_40, cv_99_41, cv_99_42, cv_99_43, cv_99_44, cv_99_45, cv_99_46, isa_126, ln_126, cv_126, isa_127, ln_127, cv_127, isa_128, ln_128, cv_128, isa_129, ln_129, cv_129, isa_130, ln_130, cv_130, ↓reduceIte, true_and, and_true, vok_int, vok_b0, vok_b1, vok_bb, r_backI, r_backV, bb_eq0, Nat.reduceAdd, Nat.reduceMul, Nat.reduceEqDiff, not_true_eq_false, not_false_eq_true, if_true, if_false, false_and, and_false, c17, c98, b6, b7, b8, b9, b10, e2, m1, z1, n1, n2, n3, n4]
    unfold sx4 at hfin
    revert hfin
    repeat' split
    all_goals exact fun h => h
theorem c40n {a b : Int32} (h : ¬ ((0 ≤ a ∧ a < 3) ∧ (0 ≤ b ∧ b < 48))) : iw (d + 1) 40 0 [.ref 8, .int a, .int b] [] (it_mem L xs mi rw o g z) Q ↔ Q (.inl (some (.int (-1)))) (it_mem L xs mi rw o g z) := by
  by_cases h1 : 0 ≤ a ∧ a < 3
  · have h2 : ¬ (0 ≤ b ∧ b < 48) := fun q => h ⟨h1, q⟩
    simp only [w40_0, w40_1, w40_2, w40_5, w40_8, w40_9, w40_11, w40_14, w40_33, w40_34, ↓reduceIte, true_and, and_true, vok_int, vok_b0, vok_b1, vok_bb, r_backI, r_backV, bb_eq0, Nat.reduceAdd, Nat.reduceMul, Nat.reduceEqDiff, not_true_eq_false, not_false_eq_true, if_true, if_false, false_and, and_false, c17, c98, eq_true h1, eq_false h2]
  · simp only [w40_0, w40_1, w40_2, w40_5, w40_8, w40_9, w40_11, w40_14, w40_33, w40_34, ↓reduceIte, true_and, and_true, vok_int, vok_b0, vok_b1, vok_bb, r_backI, r_backV, bb_eq0, Nat.reduceAdd, Nat.reduceMul, Nat.reduceEqDiff, not_true_eq_false, not_false_eq_true, if_true, if_false, false_and, and_false, c17, c98, eq_false h1]
theorem c40 {p c k : Nat} (hp : p < 3) (hc : c < 48) (hk : k < 100) (hv : mi (36 + 14 * p) (c / 16) = ii k) {x : Prop} (hx : c % 16 < k → mi (41 + 14 * p + 5) c = bb x) : iw (d + 1) 40 0 [.ref 8, .int (ii p), .int (ii c)] [] (it_mem L xs mi rw o g z) Q ↔ Q (.inl (some (.int (if c % 16 < k then bb x else -1)))) (it_mem L xs mi rw o g z) := by
  have e : (ii p).toNatClampNeg = p := ii_clamp (by omega)
  have e2 : (ii c).toNatClampNeg = c := ii_clamp (by omega)
  have z1 : ¬ (1 : Int32) = 0 := by decide
  simp only [w40_0, w40_1, w40_2, w40_5, w40_8, w40_9, w40_11, w40_14, w40_17, w40_18, w40_19, w40_22, w40_23, isk_8, cv_8_0, cv_8_1, cv_8_2, cv_8_3, cv_8_4, cv_8_5, cv_8_6, cv_8_7, cv_8_8, isa_34, ln_34, cv_34_0, cv_34_1, cv_34_2, ↓reduceIte, true_and, and_true, vok_int, vok_b0, vok_b1, vok_bb, r_backI, r_backV, bb_eq0, Nat.reduceAdd, Nat.reduceMul, Nat.reduceEqDiff, not_true_eq_false, not_false_eq_true, if_true, if_false, false_and, and_false, c17, c98, bel (x := 3) rfl (by decide) hp, bel (x := 48) rfl (by decide) hc, inb3 hp ln_34, e]
  rcases i_three hp with rfl | rfl | rfl
  · have b5 : it_inb L 46 (ii c) := ii_inb (by omega) (by rw [ln_46]; omega)
    by_cases h : c % 16 < k
    · have hx' : mi 46 c = bb x := hx h
      rw [if_pos h]
      by_cases h9 : x
      · rw [bb_t h9] at hx'
        simp only [w40_24, w40_27, w40_30, w40_33, w40_34, w40_35, w40_36, w40_39, w40_40, w40_41, w40_44, w40_47, w40_48, w40_49, w40_52, w40_53, w40_56, w40_57, isk_8, cv_8_0, cv_8_1, cv_8_2, cv_8_3, cv_8_4, cv_8_5, cv_8_6, cv_8_7, cv_8_8, isa_34, ln_34, cv_34_0, cv_34_1, cv_34_2, isk_35, cv_35_0, cv_35_1, cv_35_2, cv_35_3, isk_41, cv_41_0, cv_41_1, cv_41_2, cv_41_3, cv_41_4, cv_41_5, cv_41_6, isa_46, ln_46, cv_46, ↓reduceIte, true_and, and_true, vok_int, vok_b0, vok_b1, vok_bb, r_backI, r_backV, bb_eq0, Nat.reduceAdd, Nat.reduceMul, Nat.reduceEqDiff, not_true_eq_false, not_false_eq_true, if_true, if_false, false_and, and_false, c17, c98, c39 isa_36 (by decide) ln_36 hc hk hv, h, inb3 hp ln_34, e, k0, e2, b5, hx', z1, bb_t h9]
      · rw [bb_f h9] at hx'
        simp only [w40_24, w40_27, w40_30, w40_33, w40_34, w40_35, w40_36, w40_39, w40_40, w40_41, w40_44, w40_47, w40_48, w40_49, w40_52, w40_53, w40_56, w40_57, isk_8, cv_8_0, cv_8_1, cv_8_2, cv_8_3, cv_8_4, cv_8_5, cv_8_6, cv_8_7, cv_8_8, isa_34, ln_34, cv_34_0, cv_34_1, cv_34_2, isk_35, cv_35_0, cv_35_1, cv_35_2, cv_35_3, isk_41, cv_41_0, cv_41_1, cv_41_2, cv_41_3, cv_41_4, cv_41_5, cv_41_6, isa_46, ln_46, cv_46, ↓reduceIte, true_and, and_true, vok_int, vok_b0, vok_b1, vok_bb, r_backI, r_backV, bb_eq0, Nat.reduceAdd, Nat.reduceMul, Nat.reduceEqDiff, not_true_eq_false, not_false_eq_true, if_true, if_false, false_and, and_false, c17, c98, c39 isa_36 (by decide) ln_36 hc hk hv, h, inb3 hp ln_34, e, k0, e2, b5, hx', bb_f h9]
    · rw [if_neg h]
      simp only [w40_24, w40_27, w40_30, w40_33, w40_34, isa_34, ln_34, cv_34_0, cv_34_1, cv_34_2, isk_35, cv_35_0, cv_35_1, cv_35_2, cv_35_3, isa_36, ln_36, cv_36, ↓reduceIte, true_and, and_true, vok_int, vok_b0, vok_b1, vok_bb, r_backI, r_backV, bb_eq0, Nat.reduceAdd, Nat.reduceMul, Nat.reduceEqDiff, not_true_eq_false, not_false_eq_true, if_true, if_false, false_and, and_false, c17, c98, c39 isa_36 (by decide) ln_36 hc hk hv, h]
  · have b5 : it_inb L 60 (ii c) := ii_inb (by omega) (by rw [ln_60]; omega)
    by_cases h : c % 16 < k
    · have hx' : mi 60 c = bb x := hx h
      rw [if_pos h]
      by_cases h9 : x
      · rw [bb_t h9] at hx'
        simp only [w40_24, w40_27, w40_30, w40_33, w40_34, w40_35, w40_36, w40_39, w40_40, w40_41, w40_44, w40_47, w40_48, w40_49, w40_52, w40_53, w40_56, w40_57, isk_8, cv_8_0, cv_8_1, cv_8_2, cv_8_3, cv_8_4, cv_8_5, cv_8_6, cv_8_7, cv_8_8, isa_34, ln_34, cv_34_0, cv_34_1, cv_34_2, isk_49, cv_49_0, cv_49_1, cv_49_2, cv_49_3, isk_55, cv_55_0, cv_55_1, cv_55_2, cv_55_3, cv_55_4, cv_55_5, cv_55_6, isa_60, ln_60, cv_60, ↓reduceIte, true_and, and_true, vok_int, vok_b0, vok_b1, vok_bb, r_backI, r_backV, bb_eq0, Nat.reduceAdd, Nat.reduceMul, Nat.reduceEqDiff, not_true_eq_false, not_false_eq_true, if_true, if_false, false_and, and_false, c17, c98, c39 isa_50 (by decide) ln_50 hc hk hv, h, inb3 hp ln_34, e, k1, e2, b5, hx', z1, bb_t h9]
      · rw [bb_f h9] at hx'
        simp only [w40_24, w40_27, w40_30, w40_33, w40_34, w40_35, w40_36, w40_39, w40_40, w40_41, w40_44, w40_47, w40_48, w40_49, w40_52, w40_53, w40_56, w40_57, isk_8, cv_8_0, cv_8_1, cv_8_2, cv_8_3, cv_8_4, cv_8_5, cv_8_6, cv_8_7, cv_8_8, isa_34, ln_34, cv_34_0, cv_34_1, cv_34_2, isk_49, cv_49_0, cv_49_1, cv_49_2, cv_49_3, isk_55, cv_55_0, cv_55_1, cv_55_2, cv_55_3, cv_55_4, cv_55_5, cv_55_6, isa_60, ln_60, cv_60, ↓reduceIte, true_and, and_true, vok_int, vok_b0, vok_b1, vok_bb, r_backI, r_backV, bb_eq0, Nat.reduceAdd, Nat.reduceMul, Nat.reduceEqDiff, not_true_eq_false, not_false_eq_true, if_true, if_false, false_and, and_false, c17, c98, c39 isa_50 (by decide) ln_50 hc hk hv, h, inb3 hp ln_34, e, k1, e2, b5, hx', bb_f h9]
    · rw [if_neg h]
      simp only [w40_24, w40_27, w40_30, w40_33, w40_34, isa_34, ln_34, cv_34_0, cv_34_1, cv_34_2, isk_49, cv_49_0, cv_49_1, cv_49_2, cv_49_3, isa_50, ln_50, cv_50, ↓reduceIte, true_and, and_true, vok_int, vok_b0, vok_b1, vok_bb, r_backI, r_backV, bb_eq0, Nat.reduceAdd, Nat.reduceMul, Nat.reduceEqDiff, not_true_eq_false, not_false_eq_true, if_true, if_false, false_and, and_false, c17, c98, c39 isa_50 (by decide) ln_50 hc hk hv, h]
  · have b5 : it_inb L 74 (ii c) := ii_inb (by omega) (by rw [ln_74]; omega)
    by_cases h : c % 16 < k
    · have hx' : mi 74 c = bb x := hx h
      rw [if_pos h]
      by_cases h9 : x
      · rw [bb_t h9] at hx'
        simp only [w40_24, w40_27, w40_30, w40_33, w40_34, w40_35, w40_36, w40_39, w40_40, w40_41, w40_44, w40_47, w40_48, w40_49, w40_52, w40_53, w40_56, w40_57, isk_8, cv_8_0, cv_8_1, cv_8_2, cv_8_3, cv_8_4, cv_8_5, cv_8_6, cv_8_7, cv_8_8, isa_34, ln_34, cv_34_0, cv_34_1, cv_34_2, isk_63, cv_63_0, cv_63_1, cv_63_2, cv_63_3, isk_69, cv_69_0, cv_69_1, cv_69_2, cv_69_3, cv_69_4, cv_69_5, cv_69_6, isa_74, ln_74, cv_74, ↓reduceIte, true_and, and_true, vok_int, vok_b0, vok_b1, vok_bb, r_backI, r_backV, bb_eq0, Nat.reduceAdd, Nat.reduceMul, Nat.reduceEqDiff, not_true_eq_false, not_false_eq_true, if_true, if_false, false_and, and_false, c17, c98, c39 isa_64 (by decide) ln_64 hc hk hv, h, inb3 hp ln_34, e, k2, e2, b5, hx', z1, bb_t h9]
      · rw [bb_f h9] at hx'
        simp only [w40_24, w40_27, w40_30, w40_33, w40_34, w40_35, w40_36, w40_39, w40_40, w40_41, w40_44, w40_47, w40_48, w40_49, w40_52, w40_53, w40_56, w40_57, isk_8, cv_8_0, cv_8_1, cv_8_2, cv_8_3, cv_8_4, cv_8_5, cv_8_6, cv_8_7, cv_8_8, isa_34, ln_34, cv_34_0, cv_34_1, cv_34_2, isk_63, cv_63_0, cv_63_1, cv_63_2, cv_63_3, isk_69, cv_69_0, cv_69_1, cv_69_2, cv_69_3, cv_69_4, cv_69_5, cv_69_6, isa_74, ln_74, cv_74, ↓reduceIte, true_and, and_true, vok_int, vok_b0, vok_b1, vok_bb, r_backI, r_backV, bb_eq0, Nat.reduceAdd, Nat.reduceMul, Nat.reduceEqDiff, not_true_eq_false, not_false_eq_true, if_true, if_false, false_and, and_false, c17, c98, c39 isa_64 (by decide) ln_64 hc hk hv, h, inb3 hp ln_34, e, k2, e2, b5, hx', bb_f h9]
    · rw [if_neg h]
      simp only [w40_24, w40_27, w40_30, w40_33, w40_34, isa_34, ln_34, cv_34_0, cv_34_1, cv_34_2, isk_63, cv_63_0, cv_63_1, cv_63_2, cv_63_3, isa_64, ln_64, cv_64, ↓reduceIte, true_and, and_true, vok_int, vok_b0, vok_b1, vok_bb, r_backI, r_backV, bb_eq0, Nat.reduceAdd, Nat.reduceMul, Nat.reduceEqDiff, not_true_eq_false, not_false_eq_true, if_true, if_false, false_and, and_false, c17, c98, c39 isa_64 (by decide) ln_64 hc hk hv, h]
theorem c121n {a b : Int32} (h : ¬ ((0 ≤ a ∧ a < 3) ∧ (0 ≤ b ∧ b < 48))) : iw (d + 1) 121 0 [.ref 99, .int a, .int b] [] (it_mem L xs mi rw o g z) Q ↔ Q (.inl (some (.int (-1)))) (it_mem L xs (it_up mi 99 0 0) rw o g z) := by
  by_cases h1 : 0 ≤ a ∧ a < 3
  · have h2 : ¬ (0 ≤ b ∧ b < 48) := fun q => h ⟨h1, q⟩
    simp only [w121_0, w121_1, w121_2, w121_5, w121_6, w121_7, w121_10, w121_13, w121_14, w121_16, w121_19, w121_22, w121_23, isk_99, cv_99_0, cv_99_1, cv_99_2, cv_99_3, cv_99_4, cv_99_5, cv_99_6, cv_99_7, cv_99_8, cv_99_9, cv_99_10, cv_99_11, cv_99_12, cv_99_13, cv_99_14, cv_99_15, cv_99_16, cv_99_17, cv_99_18, cv_99_19, cv_99_20, cv_99_21, cv_99_22, cv_99_23, cv_99_24, cv_99_25, cv_99_26, cv_99_27, cv_99_28, cv_99_29, cv_99_30, cv_99_31, cv_99_32, cv_99_33, cv_99_34, cv_99_35, cv_99_36, cv_99_37, cv_99_38, cv_99_39, cv_99_40, cv_99_41, cv_99_42, cv_99_43, cv_99_44, cv_99_45, cv_99_46, ↓reduceIte, true_and, and_true, vok_int, vok_b0, vok_b1, vok_bb, r_backI, r_backV, bb_eq0, Nat.reduceAdd, Nat.reduceMul, Nat.reduceEqDiff, not_true_eq_false, not_false_eq_true, if_true, if_false, false_and, and_false, c17, c98, wb3, wb47, eq_true h1, eq_false h2]
  · simp only [w121_0, w121_1, w121_2, w121_5, w121_6, w121_7, w121_10, w121_13, w121_14, w121_16, w121_19, w121_22, w121_23, isk_99, cv_99_0, cv_99_1, cv_99_2, cv_99_3, cv_99_4, cv_99_5, cv_99_6, cv_99_7, cv_99_8, cv_99_9, cv_99_10, cv_99_11, cv_99_12, cv_99_13, cv_99_14, cv_99_15, cv_99_16, cv_99_17, cv_99_18, cv_99_19, cv_99_20, cv_99_21, cv_99_22, cv_99_23, cv_99_24, cv_99_25, cv_99_26, cv_99_27, cv_99_28, cv_99_29, cv_99_30, cv_99_31, cv_99_32, cv_99_33, cv_99_34, cv_99_35, cv_99_36, cv_99_37, cv_99_38, cv_99_39, cv_99_40, cv_99_41, cv_99_42, cv_99_43, cv_99_44, cv_99_45, cv_99_46, ↓reduceIte, true_and, and_true, vok_int, vok_b0, vok_b1, vok_bb, r_backI, r_backV, bb_eq0, Nat.reduceAdd, Nat.reduceMul, Nat.reduceEqDiff, not_true_eq_false, not_false_eq_true, if_true, if_false, false_and, and_false, c17, c98, wb3, wb47, eq_false h1]
theorem c121 {p c k : Nat} {S : FST} {D : Nat → Prop} (hp : p < 3) (hc : c < 48) (hk : k < 100) (hv : mi 119 (3 * p + c / 16) = ii k) (hD : c % 16 < k → D c)
    (hf : ∀ Q' : im_O → im_M → Prop, (∀ mi', (∀ a, a < 104 ∨ (107 ≤ a ∧ a ≤ 125) ∨ 133 ≤ a → mi' a = it_up mi 99 0 0 a) → it_MR 48 mi' S D → Q' (.inl none) (it_mem L xs mi' rw o g z)) → iw d 102 0 [.ref 99, .int (ii p), .retAddr 0, .retAddr 0, .retAddr 0, .retAddr 0, .retAddr 0] [] (it_mem L xs (it_up mi 99 0 0) rw o g z) Q')
    (hQ : ∀ mi', (∀ a, a < 104 ∨ (107 ≤ a ∧ a ≤ 125) ∨ 133 ≤ a → mi' a = it_up mi 99 0 0 a) → Q (.inl (some (.int (if c % 16 < k then bb (S.2.2.2.2 c) else -1)))) (it_mem L xs mi' rw o g z)) :
    iw (d + 1) 121 0 [.ref 99, .int (ii p), .int (ii c)] [] (it_mem L xs mi rw o g z) Q := by
  have e2 : (ii c).toNatClampNeg = c := ii_clamp (by omega)
  have b6 : it_inb L 131 (ii c) := ii_inb (by omega) (by rw [ln_131]; omega)
  have e1 : ii c / 16 = ii (c / 16) := ii_div (by omega) (by decide)
  have e3 : ii c - ii (c / 16) * 16 = ii (c % 16) := by rw [← e1]; exact ii_rem (by omega) (by decide)
  have e4 : (3 : Int32) * ii p + ii (c / 16) = ii (3 * p + c / 16) := by rw [lit_3, ii_mul, ii_add]
  have e5 : (ii (3 * p + c / 16)).toNatClampNeg = 3 * p + c / 16 := ii_clamp (by omega)
  have hb : it_inb L 119 (ii (3 * p + c / 16)) := ii_inb (by omega) (by rw [ln_119]; omega)
  have hl := ii_lt (show c % 16 < 2147483648 by omega) (show k < 2147483648 by omega)
  by_cases h : c % 16 < k
  · have hl : ii (c % 16) < ii k := hl.mpr h
    simp only [w121_0, w121_1, w121_2, w121_5, w121_6, w121_7, w121_10, w121_13, w121_14, w121_16, w121_19, w121_22, w121_23, w121_24, w121_25, w121_27, w121_28, w121_29, w121_32, w121_33, w121_34, w121_35, w121_36, w121_38, w121_39, w121_40, w121_41, w121_44, w121_45, w121_46, w121_47, w121_48, isk_99, cv_99_0, cv_99_1, cv_99_2, cv_99_3, cv_99_4, cv_99_5, cv_99_6, cv_99_7, cv_99_8, cv_99_9, cv_99_10, cv_99_11, cv_99_12, cv_99_13, cv_99_14, cv_99_15, cv_99_16, cv_99_17, cv_99_18, cv_99_19, cv_99_20, cv_99_21, cv_99_22, cv_99_23, cv_99_24, cv_99_25, cv_99_26, cv_99_27, cv_99_28, cv_99_29, cv_99_30, cv_99_31, cv_99_32, cv_99_33, cv_99_34, cv_99_35, cv_99_36, cv_99_37, cv_99_38, cv_99_39, cv_99_40, cv_99_41, cv_99_42, cv_99_43, cv_99_44, cv_99_45, cv_99_46, isa_119, ln_119, cv_119, ↓reduceIte, true_and, and_true, vok_int, vok_b0, vok_b1, vok_bb, r_backI, r_backV, bb_eq0, Nat.reduceAdd, Nat.reduceMul, Nat.reduceEqDiff, not_true_eq_false, not_false_eq_true, if_true, if_false, false_and, and_false, c17, c98, wit (x := 2) (b := 2) rfl (by decide) hp, wit (x := 47) (b := 47) rfl (by decide) hc, n16, e1, e3, e4, e5, hb, it_up_f mi 0 _ (show 119 ≠ 99 by decide), hv, hl]
    refine hf _ (fun mi' hm' hS' => ?_)
    have hfin := hQ mi' hm'
    rw [if_pos h] at hfin
    have m1 := hS'.2 c hc (hD h)
    by_cases h9 : S.2.2.2.2 c
    · rw [bb_t h9] at m1 hfin
      have z1 : ¬ (1 : Int32) = 0 := by decide
      simp only [w121_51, w121_52, w121_55, w121_56, w121_57, w121_60, w121_61, w121_64, w121_65, isk_99, cv_99_0, cv_99_1, cv_99_2, cv_99_3, cv_99_4, cv_99_5, cv_99_6, cv_99_7, cv_99_8, cv_99_9, cv_99_10, cv_99_11, cv_99_12, cv_99_13, cv_99_14, cv_99_15, cv_99_16, cv_99_17, cv_99_18, cv_99_19, cv_99_20, cv_99_21, cv_99_22, cv_99_23, cv_99_24, cv_99_25, cv_99_26, cv_99_27, cv_99_28, cv_99_29, cv_99_30, cv_99_31, cv_99_32, cv_99_33, cv_99_34, cv_99_35, cv_99_36, cv_99_37, cv_99_38, cv_99_39, cv_99_40, cv_99_41, cv_99_42, cv_99_43, cv_99_44, cv_99_45, cv_99_46, isa_131, ln_131, cv_131, ↓reduceIte, true_and, and_true, vok_int, vok_b0, vok_b1, vok_bb, r_backI, r_backV, bb_eq0, Nat.reduceAdd, Nat.reduceMul, Nat.reduceEqDiff, not_true_eq_false, not_false_eq_true, if_true, if_false, false_and, and_false, c17, c98, b6, e2, m1, z1]
      exact hfin
    · rw [bb_f h9] at m1 hfin
      simp only [w121_51, w121_52, w121_55, w121_56, w121_57, w121_60, w121_61, w121_64, w121_65, isk_99, cv_99_0, cv_99_1, cv_99_2, cv_99_3, cv_99_4, cv_99_5, cv_99_6, cv_99_7, cv_99_8, cv_99_9, cv_99_10, cv_99_11, cv_99_12, cv_99_13, cv_99_14, cv_99_15, cv_99_16, cv_99_17, cv_99_18, cv_99_19, cv_99_20, cv_99_21, cv_99_22, cv_99_23, cv_99_24, cv_99_25, cv_99_26, cv_99_27, cv_99_28, cv_99_29, cv_99_30, cv_99_31, cv_99_32, cv_99_33, cv_99_34, cv_99_35, cv_99_36, cv_99_37, cv_99_38, cv_99_39, cv_99_40, cv_99_41, cv_99_42, cv_99_43, cv_99_44, cv_99_45, cv_99_46, isa_131, ln_131, cv_131, ↓reduceIte, true_and, and_true, vok_int, vok_b0, vok_b1, vok_bb, r_backI, r_backV, bb_eq0, Nat.reduceAdd, Nat.reduceMul, Nat.reduceEqDiff, not_true_eq_false, not_false_eq_true, if_true, if_false, false_and, and_false, c17, c98, b6, e2, m1]
      exact hfin
  · have hl : ¬ ii (c % 16) < ii k := fun q => h (hl.mp q)
    have hfin := hQ (it_up mi 99 0 0) (fun _ _ => rfl)
    rw [if_neg h] at hfin
    simp only [w121_0, w121_1, w121_2, w121_5, w121_6, w121_7, w121_10, w121_13, w121_14, w121_16, w121_19, w121_22, w121_23, w121_24, w121_25, w121_27, w121_28, w121_29, w121_32, w121_33, w121_34, w121_35, w121_36, w121_38, w121_39, w121_40, w121_41, w121_44, w121_45, isk_99, cv_99_0, cv_99_1, cv_99_2, cv_99_3, cv_99_4, cv_99_5, cv_99_6, cv_99_7, cv_99_8, cv_99_9, cv_99_10, cv_99_11, cv_99_12, cv_99_13, cv_99_14, cv_99_15, cv_99_16, cv_99_17, cv_99_18, cv_99_19, cv_99_20, cv_99_21, cv_99_22, cv_99_23, cv_99_24, cv_99_25, cv_99_26, cv_99_27, cv_99_28, cv_99_29, cv_99_30, cv_99_31, cv_99_32, cv_99_33, cv_99_34, cv_99_35, cv_99_36, cv_99_37, cv_99_38, cv_99_39, cv_99_40, cv_99_41, cv_99_42, cv_99_43, cv_99_44, cv_99_45, cv_99_46, isa_119, ln_119, cv_119, ↓reduceIte, true_and, and_true, vok_int, vok_b0, vok_b1, vok_bb, r_backI, r_backV, bb_eq0, Nat.reduceAdd, Nat.reduceMul, Nat.reduceEqDiff, not_true_eq_false, not_false_eq_true, if_true, if_false, false_and, and_false, c17, c98, wit (x := 2) (b := 2) rfl (by decide) hp, wit (x := 47) (b := 47) rfl (by decide) hc, n16, e1, e3, e4, e5, hb, it_up_f mi 0 _ (show 119 ≠ 99 by decide), hv, hl]
    exact hfin
end
section
variable {Q : im_O → im_M → Prop} {L : Nat} {xs : Nat → Int32} {mi : Nat → Nat → Int32} {rw : Nat → Nat} {o : Nat → Int64} {g z i : Nat} {l5 l6 : Value}
theorem fr_code {m' : Nat → Nat → Int32} (hI : it_Inv mi rw) (hm : ∀ a, a < 104 ∨ (107 ≤ a ∧ a ≤ 125) ∨ 133 ≤ a → m' a = it_up mi 99 0 0 a) : it_Inv m' rw := by
  refine inv_fr hI (fun a ha => ?_) (fun k hk => ?_)
  · rw [hm a (by omega), it_up_f _ _ _ (by omega)]
  · rw [hm 99 (by omega), it_up_s, if_neg (by omega)]
theorem op13 (hL : L ≤ 3072) (hi : i + 6 ≤ L) (hI : it_Inv mi rw) (hK : it_K L xs i g z Q) : iw 30 0 667 [.ref 0, .ref 8, .ref 99, .ref 134, .int (ii i), l5, l6] [] (it_mem L xs mi rw o g z) Q := by
  have hI0 := hI
  obtain ⟨i1, i2, ⟨-, -, -, i3⟩, i4, i5, i6, cnt, kn, vw, tm, sp, hN, hG, i9, i10, i11⟩ := hI
  have hb := sc_in (k := 1) hL hi (by decide)
  have hc := sc_cl (k := 1) hL hi (by decide)
  have hb2 := sc_in (k := 2) hL hi (by decide)
  have hc2 := sc_cl (k := 2) hL hi (by decide)
  have hb3 := sc_in (k := 3) hL hi (by decide)
  have hc3 := sc_cl (k := 3) hL hi (by decide)
  have e1 : ii i + 1 = ii (i + 1) := ii_add (b := 1)
  have e2 : ii i + 2 = ii (i + 2) := ii_add (b := 2)
  have e3 : ii i + 3 = ii (i + 3) := ii_add (b := 3)
  simp only [w0_667, w0_668, w0_669, w0_671, w0_672, w0_673, w0_674, w0_675, w0_677, w0_678, w0_679, w0_680, w0_681, w0_683, w0_684, w0_685, w0_686, isa_0, ln_0, cv_0, isk_8, cv_8_0, cv_8_1, cv_8_2, cv_8_3, cv_8_4, cv_8_5, cv_8_6, cv_8_7, cv_8_8, isk_99, cv_99_0, cv_99_1, cv_99_2, cv_99_3, cv_99_4, cv_99_5, cv_99_6, cv_99_7, cv_99_8, cv_99_9, cv_99_10, cv_99_11, cv_99_12, cv_99_13, cv_99_14, cv_99_15, cv_99_16, cv_99_17, cv_99_18, cv_99_19, cv_99_20, cv_99_21, cv_99_22, cv_99_23, cv_99_24, cv_99_25, cv_99_26, cv_99_27, cv_99_28, cv_99_29, cv_99_30, cv_99_31, cv_99_32, cv_99_33, cv_99_34, cv_99_35, cv_99_36, cv_99_37, cv_99_38, cv_99_39, cv_99_40, cv_99_41, cv_99_42, cv_99_43, cv_99_44, cv_99_45, cv_99_46, ↓reduceIte, true_and, and_true, vok_int, vok_b0, vok_b1, vok_bb, r_backI, r_backV, bb_eq0, Nat.reduceAdd, Nat.reduceMul, Nat.reduceEqDiff, not_true_eq_false, not_false_eq_true, if_true, if_false, false_and, and_false, c17, c98, e1, e2, e3, hb, hc, hb2, hc2, hb3, hc3]
  by_cases h : (0 ≤ xs (i + 1) ∧ xs (i + 1) < 3) ∧ (0 ≤ xs (i + 2) ∧ xs (i + 2) < 48)
  · obtain ⟨p, hp, ep⟩ := below (b := 3) rfl (by decide) h.1
    obtain ⟨c, hcc, ec⟩ := below (b := 48) rfl (by decide) h.2
    simp only [ep, ec, c37 hp hcc, ↓reduceIte, true_and, and_true, vok_int, vok_b0, vok_b1, vok_bb, r_backI, r_backV, bb_eq0, Nat.reduceAdd, Nat.reduceMul, Nat.reduceEqDiff, not_true_eq_false, not_false_eq_true, if_true, if_false, false_and, and_false, c17, c98, w0_689, w0_690, w0_691, w0_693, w0_694, w0_695, w0_696, w0_697, w0_699, w0_700, w0_701, w0_702, w0_703, w0_705, w0_706, w0_707, w0_708, isa_0, ln_0, cv_0, isk_8, cv_8_0, cv_8_1, cv_8_2, cv_8_3, cv_8_4, cv_8_5, cv_8_6, cv_8_7, cv_8_8, isk_99, cv_99_0, cv_99_1, cv_99_2, cv_99_3, cv_99_4, cv_99_5, cv_99_6, cv_99_7, cv_99_8, cv_99_9, cv_99_10, cv_99_11, cv_99_12, cv_99_13, cv_99_14, cv_99_15, cv_99_16, cv_99_17, cv_99_18, cv_99_19, cv_99_20, cv_99_21, cv_99_22, cv_99_23, cv_99_24, cv_99_25, cv_99_26, cv_99_27, cv_99_28, cv_99_29, cv_99_30, cv_99_31, cv_99_32, cv_99_33, cv_99_34, cv_99_35, cv_99_36, cv_99_37, cv_99_38, cv_99_39, cv_99_40, cv_99_41, cv_99_42, cv_99_43, cv_99_44, cv_99_45, cv_99_46, e1, e2, e3, hb, hc, hb2, hc2, hb3, hc3]
    refine c119 hp hcc (fun Q' hQ' => rf (d := 22) i3 i5 i6 hN hG i9 hp (fun a ha => it_up_f _ _ _ (by omega)) (by rw [it_up_s, if_neg (by decide)]) (by rw [it_up_s, if_neg (by decide)]) hQ') (fun mi' hm' => ?_)
    obtain ⟨f1, f2⟩ := i11 p hp
    obtain ⟨g1, g2, g3⟩ := f1 c hcc
    rw [win_at (by omega) (by omega)] at g1
    have hval : (@ite _ (0 < mi (41 + 14 * p + 4) c) (Classical.propDecidable _) (sx4 (xs (i + 3)) (mi (41 + 14 * p + 1) c) (mi (41 + 14 * p + 2) c) (mi (41 + 14 * p + 3) c) (mi (41 + 14 * p + 4) c)) (-1)) = (if (it_fold (kn p) sp (it_win 27 34 mi) (it_win 17 25 mi) (it_win 25 27 mi)).1 c = 0 then -1 else sx4 (xs (i + 3)) ((it_fold (kn p) sp (it_win 27 34 mi) (it_win 17 25 mi) (it_win 25 27 mi)).2.1 c) ((it_fold (kn p) sp (it_win 27 34 mi) (it_win 17 25 mi) (it_win 25 27 mi)).2.2.1 c) ((it_fold (kn p) sp (it_win 27 34 mi) (it_win 17 25 mi) (it_win 25 27 mi)).2.2.2.1 c) (ii ((it_fold (kn p) sp (it_win 27 34 mi) (it_win 17 25 mi) (it_win 25 27 mi)).1 c))) := by
      by_cases h0 : (it_fold (kn p) sp (it_win 27 34 mi) (it_win 17 25 mi) (it_win 25 27 mi)).1 c = 0
      · rw [if_pos h0]
        refine @if_neg _ (Classical.propDecidable _) ?_ _ _ _
        rw [g1, h0]
        decide
      · rw [if_neg h0]
        obtain ⟨q1, q2, q3⟩ := g3 h0
        rw [win_at (by omega) (by omega)] at q1 q2 q3
        rw [q1, q2, q3, g1]
        refine @if_pos _ (Classical.propDecidable _) ?_ _ _ _
        exact (ii_lt (a := 0) (by decide) (by omega)).mpr (by omega)
    rw [hval]
    simp only [↓reduceIte, true_and, and_true, vok_int, vok_b0, vok_b1, vok_bb, r_backI, r_backV, bb_eq0, Nat.reduceAdd, Nat.reduceMul, Nat.reduceEqDiff, not_true_eq_false, not_false_eq_true, if_true, if_false, false_and, and_false, c17, c98, w0_711]
    exact hK _ _ _ _ _ _ _ (fr_code hI0 hm') (by omega) (by omega)
  · simp only [c37n h, c119n h, ↓reduceIte, true_and, and_true, vok_int, vok_b0, vok_b1, vok_bb, r_backI, r_backV, bb_eq0, Nat.reduceAdd, Nat.reduceMul, Nat.reduceEqDiff, not_true_eq_false, not_false_eq_true, if_true, if_false, false_and, and_false, c17, c98, w0_689, w0_690, w0_691, w0_693, w0_694, w0_695, w0_696, w0_697, w0_699, w0_700, w0_701, w0_702, w0_703, w0_705, w0_706, w0_707, w0_708, w0_711, isa_0, ln_0, cv_0, isk_8, cv_8_0, cv_8_1, cv_8_2, cv_8_3, cv_8_4, cv_8_5, cv_8_6, cv_8_7, cv_8_8, isk_99, cv_99_0, cv_99_1, cv_99_2, cv_99_3, cv_99_4, cv_99_5, cv_99_6, cv_99_7, cv_99_8, cv_99_9, cv_99_10, cv_99_11, cv_99_12, cv_99_13, cv_99_14, cv_99_15, cv_99_16, cv_99_17, cv_99_18, cv_99_19, cv_99_20, cv_99_21, cv_99_22, cv_99_23, cv_99_24, cv_99_25, cv_99_26, cv_99_27, cv_99_28, cv_99_29, cv_99_30, cv_99_31, cv_99_32, cv_99_33, cv_99_34, cv_99_35, cv_99_36, cv_99_37, cv_99_38, cv_99_39, cv_99_40, cv_99_41, cv_99_42, cv_99_43, cv_99_44, cv_99_45, cv_99_46, e1, e2, e3, hb, hc, hb2, hc2, hb3, hc3]
    exact hK _ _ _ _ _ _ _ (inv_code hI0) (by omega) (by omega)
theorem op15 (hL : L ≤ 3072) (hi : i + 6 ≤ L) (hI : it_Inv mi rw) (hK : it_K L xs i g z Q) : iw 30 0 753 [.ref 0, .ref 8, .ref 99, .ref 134, .int (ii i), l5, l6] [] (it_mem L xs mi rw o g z) Q := by
  have hI0 := hI
  obtain ⟨i1, i2, ⟨-, -, -, i3⟩, i4, i5, i6, cnt, kn, vw, tm, sp, hN, hG, i9, i10, i11⟩ := hI
  have hb := sc_in (k := 1) hL hi (by decide)
  have hc := sc_cl (k := 1) hL hi (by decide)
  have hb2 := sc_in (k := 2) hL hi (by decide)
  have hc2 := sc_cl (k := 2) hL hi (by decide)
  have e1 : ii i + 1 = ii (i + 1) := ii_add (b := 1)
  have e2 : ii i + 2 = ii (i + 2) := ii_add (b := 2)
  simp only [w0_753, w0_754, w0_755, w0_757, w0_758, w0_759, w0_760, w0_761, w0_763, w0_764, w0_765, w0_766, isa_0, ln_0, cv_0, isk_8, cv_8_0, cv_8_1, cv_8_2, cv_8_3, cv_8_4, cv_8_5, cv_8_6, cv_8_7, cv_8_8, isk_99, cv_99_0, cv_99_1, cv_99_2, cv_99_3, cv_99_4, cv_99_5, cv_99_6, cv_99_7, cv_99_8, cv_99_9, cv_99_10, cv_99_11, cv_99_12, cv_99_13, cv_99_14, cv_99_15, cv_99_16, cv_99_17, cv_99_18, cv_99_19, cv_99_20, cv_99_21, cv_99_22, cv_99_23, cv_99_24, cv_99_25, cv_99_26, cv_99_27, cv_99_28, cv_99_29, cv_99_30, cv_99_31, cv_99_32, cv_99_33, cv_99_34, cv_99_35, cv_99_36, cv_99_37, cv_99_38, cv_99_39, cv_99_40, cv_99_41, cv_99_42, cv_99_43, cv_99_44, cv_99_45, cv_99_46, ↓reduceIte, true_and, and_true, vok_int, vok_b0, vok_b1, vok_bb, r_backI, r_backV, bb_eq0, Nat.reduceAdd, Nat.reduceMul, Nat.reduceEqDiff, not_true_eq_false, not_false_eq_true, if_true, if_false, false_and, and_false, c17, c98, e1, e2, hb, hc, hb2, hc2]
  by_cases h : (0 ≤ xs (i + 1) ∧ xs (i + 1) < 3) ∧ (0 ≤ xs (i + 2) ∧ xs (i + 2) < 48)
  · obtain ⟨p, hp, ep⟩ := below (b := 3) rfl (by decide) h.1
    obtain ⟨c, hcc, ec⟩ := below (b := 48) rfl (by decide) h.2
    obtain ⟨f1, f2⟩ := i11 p hp
    obtain ⟨s1, s2⟩ := i9.1 p (c / 16) hp (by omega)
    rw [win_at (by omega) (by omega)] at s1 s2
    have hk : kn p (c / 16) < 100 := by
      have := hN.2.1 p (c / 16) hp (by omega)
      have := hN.1 (c / 16) (by omega)
      omega
    have hD : c % 16 < kn p (c / 16) → c ∈ ford (kn p) sp 48 (fun _ => 0) := fun hh => by
      have := ford_in (kn := kn p) (sp := sp) (fun o ho => Nat.le_trans (hN.2.1 p o hp ho) (hN.1 o ho)) (show c / 16 < 3 by omega) hh
      rw [Nat.div_add_mod] at this
      exact this
    have hx : c % 16 < kn p (c / 16) → mi (41 + 14 * p + 5) c = bb ((it_fold (kn p) sp (it_win 27 34 mi) (it_win 17 25 mi) (it_win 25 27 mi)).2.2.2.2 c) := fun hh => by
      have := f2 c hcc (hD hh)
      rw [win_at (by omega) (by omega)] at this
      exact this
    simp only [ep, ec, c40 hp hcc hk s1 hx, ↓reduceIte, true_and, and_true, vok_int, vok_b0, vok_b1, vok_bb, r_backI, r_backV, bb_eq0, Nat.reduceAdd, Nat.reduceMul, Nat.reduceEqDiff, not_true_eq_false, not_false_eq_true, if_true, if_false, false_and, and_false, c17, c98, w0_769, w0_770, w0_771, w0_773, w0_774, w0_775, w0_776, w0_777, w0_779, w0_780, w0_781, w0_782, isa_0, ln_0, cv_0, isk_8, cv_8_0, cv_8_1, cv_8_2, cv_8_3, cv_8_4, cv_8_5, cv_8_6, cv_8_7, cv_8_8, isk_99, cv_99_0, cv_99_1, cv_99_2, cv_99_3, cv_99_4, cv_99_5, cv_99_6, cv_99_7, cv_99_8, cv_99_9, cv_99_10, cv_99_11, cv_99_12, cv_99_13, cv_99_14, cv_99_15, cv_99_16, cv_99_17, cv_99_18, cv_99_19, cv_99_20, cv_99_21, cv_99_22, cv_99_23, cv_99_24, cv_99_25, cv_99_26, cv_99_27, cv_99_28, cv_99_29, cv_99_30, cv_99_31, cv_99_32, cv_99_33, cv_99_34, cv_99_35, cv_99_36, cv_99_37, cv_99_38, cv_99_39, cv_99_40, cv_99_41, cv_99_42, cv_99_43, cv_99_44, cv_99_45, cv_99_46, e1, e2, hb, hc, hb2, hc2]
    refine c121 hp hcc hk s2 hD (fun Q' hQ' => rf (d := 22) i3 i5 i6 hN hG i9 hp (fun a ha => it_up_f _ _ _ (by omega)) (by rw [it_up_s, if_neg (by decide)]) (by rw [it_up_s, if_neg (by decide)]) hQ') (fun mi' hm' => ?_)
    simp only [↓reduceIte, true_and, and_true, vok_int, vok_b0, vok_b1, vok_bb, r_backI, r_backV, bb_eq0, Nat.reduceAdd, Nat.reduceMul, Nat.reduceEqDiff, not_true_eq_false, not_false_eq_true, if_true, if_false, false_and, and_false, c17, c98, w0_785]
    exact hK _ _ _ _ _ _ _ (fr_code hI0 hm') (by omega) (by omega)
  · simp only [c40n h, c121n h, ↓reduceIte, true_and, and_true, vok_int, vok_b0, vok_b1, vok_bb, r_backI, r_backV, bb_eq0, Nat.reduceAdd, Nat.reduceMul, Nat.reduceEqDiff, not_true_eq_false, not_false_eq_true, if_true, if_false, false_and, and_false, c17, c98, w0_769, w0_770, w0_771, w0_773, w0_774, w0_775, w0_776, w0_777, w0_779, w0_780, w0_781, w0_782, w0_785, isa_0, ln_0, cv_0, isk_8, cv_8_0, cv_8_1, cv_8_2, cv_8_3, cv_8_4, cv_8_5, cv_8_6, cv_8_7, cv_8_8, isk_99, cv_99_0, cv_99_1, cv_99_2, cv_99_3, cv_99_4, cv_99_5, cv_99_6, cv_99_7, cv_99_8, cv_99_9, cv_99_10, cv_99_11, cv_99_12, cv_99_13, cv_99_14, cv_99_15, cv_99_16, cv_99_17, cv_99_18, cv_99_19, cv_99_20, cv_99_21, cv_99_22, cv_99_23, cv_99_24, cv_99_25, cv_99_26, cv_99_27, cv_99_28, cv_99_29, cv_99_30, cv_99_31, cv_99_32, cv_99_33, cv_99_34, cv_99_35, cv_99_36, cv_99_37, cv_99_38, cv_99_39, cv_99_40, cv_99_41, cv_99_42, cv_99_43, cv_99_44, cv_99_45, cv_99_46, e1, e2, hb, hc, hb2, hc2]
    exact hK _ _ _ _ _ _ _ (inv_code hI0) (by omega) (by omega)
end
