/-! send: the reference's, and the law's call. -/
section
variable {d : Nat} {Q : im_O → im_M → Prop} {L : Nat} {xs : Nat → Int32} {mi : Nat → Nat → Int32} {rw : Nat → Nat} {o : Nat → Int64} {g z : Nat}
theorem c109L {p t m q k v N : Nat} {x5 x6 : Value} (hp : p < 3) (ht : t < 3) (hq : q < 3) (hm : m < 6) (hs : mi 99 33 = ii m) (hk : mi 119 (3 * p + q) = ii k) (hv : mi 120 (9 * p + 3 * t + q) = ii v) (hvk : v ≤ k) (hkk : k ≤ 16) (hN : N < 1000) :
    iw d 109 72 [.ref 99, .int (ii p), .int (ii t), .int (ii N), .int (ii q), x5, x6] [] (it_mem L xs mi rw o g z) Q ↔ iw d 109 72 [.ref 99, .int (ii p), .int (ii t), .int (ii (N + (k - v))), .int (ii (q + 1)), .int (ii k), .int (ii v)] [] (it_mem L xs (it_up (it_up mi 124 (3 * m + q) (ii v)) 125 (3 * m + q) (ii k)) rw o g z) Q := by
  have e1 : ii q + 1 = ii (q + 1) := ii_add (b := 1)
  have e3 : ¬ (3 : Int32) ≤ ii q := by rw [lit_3, ii_le (by decide) (by omega)]; omega
  have m1 : (3 : Int32) * ii p = ii (3 * p) := ii_mul (a := 3)
  have m2 : (3 : Int32) * ii t = ii (3 * t) := ii_mul (a := 3)
  have m3 : (3 : Int32) * ii m = ii (3 * m) := ii_mul (a := 3)
  have m4 : (9 : Int32) * ii p = ii (9 * p) := ii_mul (a := 9)
  have a1 : (ii (3 * p + q)).toNatClampNeg = 3 * p + q := ii_clamp (by omega)
  have a2 : (ii (9 * p + 3 * t + q)).toNatClampNeg = 9 * p + 3 * t + q := ii_clamp (by omega)
  have a3 : (ii (3 * m + q)).toNatClampNeg = 3 * m + q := ii_clamp (by omega)
  have b1 : it_inb L 119 (ii (3 * p + q)) := ii_inb (by omega) (by rw [ln_119]; omega)
  have b2 : it_inb L 120 (ii (9 * p + 3 * t + q)) := ii_inb (by omega) (by rw [ln_120]; omega)
  have b3 : it_inb L 124 (ii (3 * m + q)) := ii_inb (by omega) (by rw [ln_124]; omega)
  have b4 : it_inb L 125 (ii (3 * m + q)) := ii_inb (by omega) (by rw [ln_125]; omega)
  have n1 : ∀ x, it_up mi 124 (3 * m + q) x 99 = mi 99 := fun x => it_up_f _ _ _ (by omega)
  by_cases h : v < k
  · have h1 : ¬ ii k ≤ ii v := by rw [ii_le (by omega) (by omega)]; omega
    have e2 : ii N + (ii k - ii v) = ii (N + (k - v)) := by rw [ii_sub hvk, ii_add]
    rw [w109_72]
    simp only [w109_74, w109_75, w109_78, w109_79, w109_82, w109_83, w109_84, w109_85, w109_87, w109_88, w109_89, w109_91, w109_92, w109_95, w109_97, w109_98, w109_99, w109_100, w109_101, w109_102, w109_103, w109_105, w109_106, w109_107, w109_109, w109_110, w109_113, w109_114, w109_115, w109_118, w109_119, w109_121, w109_122, w109_124, w109_126, w109_129, w109_131, w109_134, w109_136, w109_137, w109_138, w109_141, w109_142, w109_143, w109_146, w109_147, w109_149, w109_150, w109_152, w109_153, w109_154, w109_156, w109_158, w109_161, w109_163, w109_165, w109_166, w109_169, w109_170, w109_171, w109_172, w109_175, isk_99, cv_99_0, cv_99_1, cv_99_2, cv_99_3, cv_99_4, cv_99_5, cv_99_6, cv_99_7, cv_99_8, cv_99_9, cv_99_10, cv_99_11, cv_99_12, cv_99_13, cv_99_14, cv_99_15, cv_99_16, cv_99_17, cv_99_18, cv_99_19, cv_99_20, cv_99_21, cv_99_22, cv_99_23, cv_99_24, cv_99_25, cv_99_26, cv_99_27, cv_99_28, cv_99_29, cv_99_30, cv_99_31, cv_99_32, cv_99_33, cv_99_34, cv_99_35, cv_99_36, cv_99_37, cv_99_38, cv_99_39, cv_99_40, cv_99_41, cv_99_42, cv_99_43, cv_99_44, cv_99_45, cv_99_46, isa_119, ln_119, cv_119, isa_120, ln_120, cv_120, isa_124, ln_124, cv_124, isa_125, ln_125, cv_125, ↓reduceIte, true_and, and_true, vok_int, vok_b0, vok_b1, vok_bb, r_backI, r_backV, bb_eq0, Nat.reduceAdd, Nat.reduceMul, Nat.reduceEqDiff, not_true_eq_false, not_false_eq_true, if_true, if_false, false_and, and_false, c17, c98, e3, m1, m2, m3, m4, ii_add, a1, a2, a3, b1, b2, b3, b4, hk, hv, h1, n1, hs, e2, e1, Nat.reduceLeDiff]
  · have h1 : ii k ≤ ii v := by rw [ii_le (by omega) (by omega)]; omega
    have e : v = k := by omega
    subst e
    have e2 : ii N + 0 = ii (N + (v - v)) := by rw [Nat.sub_self]; exact ii_add (b := 0)
    rw [w109_72]
    simp only [w109_74, w109_75, w109_78, w109_79, w109_82, w109_83, w109_84, w109_85, w109_87, w109_88, w109_89, w109_91, w109_92, w109_95, w109_97, w109_98, w109_99, w109_100, w109_101, w109_102, w109_103, w109_105, w109_106, w109_107, w109_109, w109_110, w109_113, w109_114, w109_115, w109_118, w109_119, w109_121, w109_122, w109_124, w109_126, w109_129, w109_131, w109_134, w109_136, w109_137, w109_138, w109_141, w109_142, w109_143, w109_146, w109_147, w109_149, w109_150, w109_152, w109_153, w109_154, w109_156, w109_158, w109_161, w109_163, w109_165, w109_166, w109_169, w109_170, w109_171, w109_172, w109_175, isk_99, cv_99_0, cv_99_1, cv_99_2, cv_99_3, cv_99_4, cv_99_5, cv_99_6, cv_99_7, cv_99_8, cv_99_9, cv_99_10, cv_99_11, cv_99_12, cv_99_13, cv_99_14, cv_99_15, cv_99_16, cv_99_17, cv_99_18, cv_99_19, cv_99_20, cv_99_21, cv_99_22, cv_99_23, cv_99_24, cv_99_25, cv_99_26, cv_99_27, cv_99_28, cv_99_29, cv_99_30, cv_99_31, cv_99_32, cv_99_33, cv_99_34, cv_99_35, cv_99_36, cv_99_37, cv_99_38, cv_99_39, cv_99_40, cv_99_41, cv_99_42, cv_99_43, cv_99_44, cv_99_45, cv_99_46, isa_119, ln_119, cv_119, isa_120, ln_120, cv_120, isa_124, ln_124, cv_124, isa_125, ln_125, cv_125, ↓reduceIte, true_and, and_true, vok_int, vok_b0, vok_b1, vok_bb, r_backI, r_backV, bb_eq0, Nat.reduceAdd, Nat.reduceMul, Nat.reduceEqDiff, not_true_eq_false, not_false_eq_true, if_true, if_false, false_and, and_false, c17, c98, e3, m1, m2, m3, m4, ii_add, a1, a2, a3, b1, b2, b3, b4, hk, hv, h1, n1, hs, e2, e1, Nat.reduceLeDiff]
theorem c109A {a b : Int32} (h : ¬ ((0 ≤ a ∧ a < 3) ∧ (0 ≤ b ∧ b < 3) ∧ ¬ a = b)) : iw (d + 1) 109 0 [.ref 99, .int a, .int b, .retAddr 0, .retAddr 0, .retAddr 0, .retAddr 0] [] (it_mem L xs mi rw o g z) Q ↔ Q (.inl (some (.int 0))) (it_mem L xs (it_up (it_up mi 99 0 0) 99 0 1) rw o g z) := by
  by_cases h1 : 0 ≤ a ∧ a < 3
  · by_cases h2 : 0 ≤ b ∧ b < 3
    · have h3 : a = b := Classical.byContradiction fun q => h ⟨h1, h2, q⟩
      subst h3
      simp only [w109_0, w109_1, w109_2, w109_5, w109_6, w109_7, w109_10, w109_13, w109_14, w109_15, w109_18, w109_21, w109_22, w109_23, w109_26, w109_27, w109_28, w109_31, isk_99, cv_99_0, cv_99_1, cv_99_2, cv_99_3, cv_99_4, cv_99_5, cv_99_6, cv_99_7, cv_99_8, cv_99_9, cv_99_10, cv_99_11, cv_99_12, cv_99_13, cv_99_14, cv_99_15, cv_99_16, cv_99_17, cv_99_18, cv_99_19, cv_99_20, cv_99_21, cv_99_22, cv_99_23, cv_99_24, cv_99_25, cv_99_26, cv_99_27, cv_99_28, cv_99_29, cv_99_30, cv_99_31, cv_99_32, cv_99_33, cv_99_34, cv_99_35, cv_99_36, cv_99_37, cv_99_38, cv_99_39, cv_99_40, cv_99_41, cv_99_42, cv_99_43, cv_99_44, cv_99_45, cv_99_46, ↓reduceIte, true_and, and_true, vok_int, vok_b0, vok_b1, vok_bb, r_backI, r_backV, bb_eq0, Nat.reduceAdd, Nat.reduceMul, Nat.reduceEqDiff, not_true_eq_false, not_false_eq_true, if_true, if_false, false_and, and_false, c17, c98, wb3, eq_true h1, c87]
    · simp only [w109_0, w109_1, w109_2, w109_5, w109_6, w109_7, w109_10, w109_13, w109_14, w109_15, w109_18, w109_21, w109_22, w109_23, w109_26, w109_27, w109_28, w109_31, isk_99, cv_99_0, cv_99_1, cv_99_2, cv_99_3, cv_99_4, cv_99_5, cv_99_6, cv_99_7, cv_99_8, cv_99_9, cv_99_10, cv_99_11, cv_99_12, cv_99_13, cv_99_14, cv_99_15, cv_99_16, cv_99_17, cv_99_18, cv_99_19, cv_99_20, cv_99_21, cv_99_22, cv_99_23, cv_99_24, cv_99_25, cv_99_26, cv_99_27, cv_99_28, cv_99_29, cv_99_30, cv_99_31, cv_99_32, cv_99_33, cv_99_34, cv_99_35, cv_99_36, cv_99_37, cv_99_38, cv_99_39, cv_99_40, cv_99_41, cv_99_42, cv_99_43, cv_99_44, cv_99_45, cv_99_46, ↓reduceIte, true_and, and_true, vok_int, vok_b0, vok_b1, vok_bb, r_backI, r_backV, bb_eq0, Nat.reduceAdd, Nat.reduceMul, Nat.reduceEqDiff, not_true_eq_false, not_false_eq_true, if_true, if_false, false_and, and_false, c17, c98, wb3, eq_true h1, eq_false h2, c87]
  · simp only [w109_0, w109_1, w109_2, w109_5, w109_6, w109_7, w109_10, w109_13, w109_14, w109_15, w109_18, w109_21, w109_22, w109_23, w109_26, w109_27, w109_28, w109_31, isk_99, cv_99_0, cv_99_1, cv_99_2, cv_99_3, cv_99_4, cv_99_5, cv_99_6, cv_99_7, cv_99_8, cv_99_9, cv_99_10, cv_99_11, cv_99_12, cv_99_13, cv_99_14, cv_99_15, cv_99_16, cv_99_17, cv_99_18, cv_99_19, cv_99_20, cv_99_21, cv_99_22, cv_99_23, cv_99_24, cv_99_25, cv_99_26, cv_99_27, cv_99_28, cv_99_29, cv_99_30, cv_99_31, cv_99_32, cv_99_33, cv_99_34, cv_99_35, cv_99_36, cv_99_37, cv_99_38, cv_99_39, cv_99_40, cv_99_41, cv_99_42, cv_99_43, cv_99_44, cv_99_45, cv_99_46, ↓reduceIte, true_and, and_true, vok_int, vok_b0, vok_b1, vok_bb, r_backI, r_backV, bb_eq0, Nat.reduceAdd, Nat.reduceMul, Nat.reduceEqDiff, not_true_eq_false, not_false_eq_true, if_true, if_false, false_and, and_false, c17, c98, wb3, eq_false h1, c87]
theorem c109B {p t : Nat} (hp : p < 3) (ht : t < 3) (hne : p ≠ t) (hs : mi 99 33 = ii 6) : iw (d + 1) 109 0 [.ref 99, .int (ii p), .int (ii t), .retAddr 0, .retAddr 0, .retAddr 0, .retAddr 0] [] (it_mem L xs mi rw o g z) Q ↔ Q (.inl (some (.int 0))) (it_mem L xs (it_up (it_up mi 99 0 0) 99 0 2) rw o g z) := by
  have h3 : ¬ ii p = ii t := fun q => hne ((ii_inj (by omega) (by omega)).mp q)
  simp only [w109_0, w109_1, w109_2, w109_5, w109_6, w109_7, w109_10, w109_13, w109_14, w109_15, w109_18, w109_21, w109_22, w109_23, w109_26, w109_27, w109_28, w109_31, w109_32, w109_33, w109_36, w109_38, w109_41, w109_42, w109_43, w109_46, isk_99, cv_99_0, cv_99_1, cv_99_2, cv_99_3, cv_99_4, cv_99_5, cv_99_6, cv_99_7, cv_99_8, cv_99_9, cv_99_10, cv_99_11, cv_99_12, cv_99_13, cv_99_14, cv_99_15, cv_99_16, cv_99_17, cv_99_18, cv_99_19, cv_99_20, cv_99_21, cv_99_22, cv_99_23, cv_99_24, cv_99_25, cv_99_26, cv_99_27, cv_99_28, cv_99_29, cv_99_30, cv_99_31, cv_99_32, cv_99_33, cv_99_34, cv_99_35, cv_99_36, cv_99_37, cv_99_38, cv_99_39, cv_99_40, cv_99_41, cv_99_42, cv_99_43, cv_99_44, cv_99_45, cv_99_46, ↓reduceIte, true_and, and_true, vok_int, vok_b0, vok_b1, vok_bb, r_backI, r_backV, bb_eq0, Nat.reduceAdd, Nat.reduceMul, Nat.reduceEqDiff, not_true_eq_false, not_false_eq_true, if_true, if_false, false_and, and_false, c17, c98, wit (x := 2) (b := 2) rfl (by decide) hp, wit (x := 2) (b := 2) rfl (by decide) ht, h3, it_up_s, hs, lit_6, c87]
theorem c109C {p t m : Nat} {K W : Nat → Nat} (hp : p < 3) (ht : t < 3) (hne : p ≠ t) (hm : m < 6) (hs : mi 99 33 = ii m) (hk : ∀ q, q < 3 → mi 119 (3 * p + q) = ii (K q) ∧ mi 120 (9 * p + 3 * t + q) = ii (W q) ∧ W q ≤ K q ∧ K q ≤ 16) :
    iw (d + 1) 109 0 [.ref 99, .int (ii p), .int (ii t), .retAddr 0, .retAddr 0, .retAddr 0, .retAddr 0] [] (it_mem L xs mi rw o g z) Q ↔ Q (.inl (some (.int (ii (K 0 - W 0 + (K 1 - W 1) + (K 2 - W 2)))))) (it_mem L xs (it_up (fim (it_up mi 99 0 0) m p t K W) 99 33 (ii (m + 1))) rw o g z) := by
  have h3 : ¬ ii p = ii t := fun q => hne ((ii_inj (by omega) (by omega)).mp q)
  have h4 : ¬ ii m = ii 6 := fun q => by have := (ii_inj (by omega) (by omega)).mp q; omega
  have e : (ii m).toNatClampNeg = m := ii_clamp (by omega)
  have b1 : it_inb L 122 (ii m) := ii_inb (by omega) (by rw [ln_122]; omega)
  have b2 : it_inb L 123 (ii m) := ii_inb (by omega) (by rw [ln_123]; omega)
  have n1 : ∀ x, it_up (it_up mi 99 0 0) 122 m x 99 = it_up mi 99 0 0 99 := fun x => it_up_f _ _ _ (by omega)
  have e0 : (0 : Int32) = ii 0 := rfl
  simp only [w109_0, w109_1, w109_2, w109_5, w109_6, w109_7, w109_10, w109_13, w109_14, w109_15, w109_18, w109_21, w109_22, w109_23, w109_26, w109_27, w109_28, w109_31, w109_32, w109_33, w109_36, w109_38, w109_41, w109_42, w109_43, w109_46, w109_47, w109_48, w109_51, w109_52, w109_55, w109_56, w109_57, w109_58, w109_61, w109_62, w109_65, w109_66, w109_67, w109_68, w109_69, w109_70, isk_99, cv_99_0, cv_99_1, cv_99_2, cv_99_3, cv_99_4, cv_99_5, cv_99_6, cv_99_7, cv_99_8, cv_99_9, cv_99_10, cv_99_11, cv_99_12, cv_99_13, cv_99_14, cv_99_15, cv_99_16, cv_99_17, cv_99_18, cv_99_19, cv_99_20, cv_99_21, cv_99_22, cv_99_23, cv_99_24, cv_99_25, cv_99_26, cv_99_27, cv_99_28, cv_99_29, cv_99_30, cv_99_31, cv_99_32, cv_99_33, cv_99_34, cv_99_35, cv_99_36, cv_99_37, cv_99_38, cv_99_39, cv_99_40, cv_99_41, cv_99_42, cv_99_43, cv_99_44, cv_99_45, cv_99_46, isa_122, ln_122, cv_122, isa_123, ln_123, cv_123, ↓reduceIte, true_and, and_true, vok_int, vok_b0, vok_b1, vok_bb, r_backI, r_backV, bb_eq0, Nat.reduceAdd, Nat.reduceMul, Nat.reduceEqDiff, not_true_eq_false, not_false_eq_true, if_true, if_false, false_and, and_false, c17, c98, wit (x := 2) (b := 2) rfl (by decide) hp, wit (x := 2) (b := 2) rfl (by decide) ht, h3, it_up_s, hs, lit_6, h4, e, b1, b2, n1, Nat.reduceLeDiff]
  obtain ⟨k0, v0, l0, m0⟩ := hk 0 (by decide)
  obtain ⟨k1, v1, l1, m1⟩ := hk 1 (by decide)
  obtain ⟨k2, v2, l2, m2⟩ := hk 2 (by decide)
  rw [e0]
  rw [c109L hp ht (by decide) hm (by simp (disch := omega) only [it_up_f, it_up_s, Nat.reduceEqDiff, if_false]; exact hs) (by simp (disch := omega) only [it_up_f]; exact k0) (by simp (disch := omega) only [it_up_f]; exact v0) l0 m0 (by decide)]
  rw [c109L hp ht (by decide) hm (by simp (disch := omega) only [it_up_f, it_up_s, Nat.reduceEqDiff, if_false]; exact hs) (by simp (disch := omega) only [it_up_f]; exact k1) (by simp (disch := omega) only [it_up_f]; exact v1) l1 m1 (by omega)]
  rw [c109L hp ht (by decide) hm (by simp (disch := omega) only [it_up_f, it_up_s, Nat.reduceEqDiff, if_false]; exact hs) (by simp (disch := omega) only [it_up_f]; exact k2) (by simp (disch := omega) only [it_up_f]; exact v2) l2 m2 (by omega)]
  have e9 : (3 : Int32) ≤ ii (0 + 1 + 1 + 1) := by decide
  have e8 : ii m + 1 = ii (m + 1) := ii_add (b := 1)
  rw [w109_72]
  simp (disch := omega) only [w109_74, w109_75, w109_178, w109_179, w109_180, w109_183, w109_184, w109_185, w109_188, w109_189, isk_99, cv_99_0, cv_99_1, cv_99_2, cv_99_3, cv_99_4, cv_99_5, cv_99_6, cv_99_7, cv_99_8, cv_99_9, cv_99_10, cv_99_11, cv_99_12, cv_99_13, cv_99_14, cv_99_15, cv_99_16, cv_99_17, cv_99_18, cv_99_19, cv_99_20, cv_99_21, cv_99_22, cv_99_23, cv_99_24, cv_99_25, cv_99_26, cv_99_27, cv_99_28, cv_99_29, cv_99_30, cv_99_31, cv_99_32, cv_99_33, cv_99_34, cv_99_35, cv_99_36, cv_99_37, cv_99_38, cv_99_39, cv_99_40, cv_99_41, cv_99_42, cv_99_43, cv_99_44, cv_99_45, cv_99_46, ↓reduceIte, true_and, and_true, vok_int, vok_b0, vok_b1, vok_bb, r_backI, r_backV, bb_eq0, Nat.reduceAdd, Nat.reduceMul, Nat.reduceEqDiff, not_true_eq_false, not_false_eq_true, if_true, if_false, false_and, and_false, c17, c98, e9, Nat.zero_add, it_up_f, it_up_s, hs, e8]
  exact Iff.rfl
end
theorem fil_f {mi : Nat → Nat → Int32} {a p t b : Nat} {K V : Nat → Nat} (h : b < a ∨ a + 3 ≤ b) : fil mi a p t K V b = mi b := by
  unfold fil
  simp (disch := omega) only [it_up_f]
theorem fim_f {mi : Nat → Nat → Int32} {m p t b : Nat} {K V : Nat → Nat} (h : b < 122 ∨ 126 ≤ b) : fim mi m p t K V b = mi b := by
  unfold fim
  simp (disch := omega) only [it_up_f]
theorem win_fil {mi : Nat → Nat → Int32} {lo hi a p t : Nat} {K V : Nat → Nat} (h : hi ≤ a ∨ a + 3 ≤ lo) : it_win lo hi (fil mi a p t K V) = it_win lo hi mi := by
  funext b
  unfold it_win
  split
  · exact fil_f (by omega)
  · rfl
theorem win_fim {mi : Nat → Nat → Int32} {lo hi m p t : Nat} {K V : Nat → Nat} (h : hi ≤ 122 ∨ 126 ≤ lo) : it_win lo hi (fim mi m p t K V) = it_win lo hi mi := by
  funext b
  unfold it_win
  split
  · exact fim_f (by omega)
  · rfl
theorem lg_self (x : Int64) : lg_cmp x x = 0 := by
  unfold lg_cmp
  simp
theorem i_three {q : Nat} (hq : q < 3) : q = 0 ∨ q = 1 ∨ q = 2 := by omega
theorem pst_add {cnt : Nat → Nat} {kn : Nat → Nat → Nat} {rw : Nat → Nat} {n p t : Nat} {m m' r r' : Nat → Nat → Int32} {K W : Nat → Nat} (hp : p < 3) (ht : t < 3) (hne : p ≠ t) (hn : n < 6) (h : it_pst cnt kn rw (ii n) (ii n) m r) (hK : ∀ q, q < 3 → W q ≤ K q ∧ K q ≤ kn p q ∧ W q ≤ kn t q)
    (h1 : ∀ a b, a < rw n ∨ rw n + 3 ≤ a → m' a b = m a b) (h2 : m' (rw n) 2 = ii p ∧ m' (rw n) 3 = ii t ∧ ∀ q, q < 3 → m' (rw n + 1) q = ii (W q) ∧ m' (rw n + 2) q = ii (K q))
    (h3 : ∀ k, k < n → r' 122 k = r 122 k ∧ r' 123 k = r 123 k ∧ ∀ q, q < 3 → r' 124 (3 * k + q) = r 124 (3 * k + q) ∧ r' 125 (3 * k + q) = r 125 (3 * k + q)) (h4 : r' 122 n = ii p ∧ r' 123 n = ii t ∧ ∀ q, q < 3 → r' 124 (3 * n + q) = ii (W q) ∧ r' 125 (3 * n + q) = ii (K q)) : it_pst cnt kn rw (ii (n + 1)) (ii (n + 1)) m' r' := by
  obtain ⟨n', hn', e1, _, p1, p2, p3⟩ := h
  have en : n' = n := ((ii_inj (by omega) (by omega)).mp e1).symm
  subst en
  refine ⟨n' + 1, by omega, rfl, rfl, p1, p2, fun k hk => ?_⟩
  by_cases e : k = n'
  · subst e
    refine ⟨p, t, hp, ht, hne, h2.1, h2.2.1, h4.1, h4.2.1, fun q hq => ?_⟩
    obtain ⟨a1, a2, a3⟩ := hK q hq
    exact ⟨W q, K q, a1, a2, a3, (h2.2.2 q hq).1, (h2.2.2 q hq).2, (h4.2.2 q hq).1, (h4.2.2 q hq).2⟩
  · obtain ⟨f, u, f1, f2, f3, f4, f5, f6, f7, f8⟩ := p3 k (by omega)
    obtain ⟨i, hi, ei⟩ := p1 k (by omega)
    obtain ⟨j, hj, ej⟩ := p1 n' (by omega)
    have hij : i ≠ j := fun q => e (p2 k n' (by omega) (by omega) (by rw [ei, ej, q]))
    obtain ⟨g1, g2, g3⟩ := h3 k (by omega)
    refine ⟨f, u, f1, f2, f3, ?_, ?_, ?_, ?_, fun q hq => ?_⟩
    · rw [h1 _ _ (by omega)]; exact f4
    · rw [h1 _ _ (by omega)]; exact f5
    · rw [g1]; exact f6
    · rw [g2]; exact f7
    · obtain ⟨a, b, a1, a2, a3, a4, a5, a6, a7⟩ := f8 q hq
      refine ⟨a, b, a1, a2, a3, ?_, ?_, ?_, ?_⟩
      · rw [h1 _ _ (by omega)]; exact a4
      · rw [h1 _ _ (by omega)]; exact a5
      · rw [(g3 q hq).1]; exact a6
      · rw [(g3 q hq).2]; exact a7
section
variable {Q : im_O → im_M → Prop} {L : Nat} {xs : Nat → Int32} {mi : Nat → Nat → Int32} {rw : Nat → Nat} {o : Nat → Int64} {g z i : Nat} {l5 l6 : Value}
theorem op6 (hL : L ≤ 3072) (hi : i + 6 ≤ L) (hI : it_Inv mi rw) (hK : it_K L xs i g z Q) : iw 30 0 416 [.ref 0, .ref 8, .ref 99, .ref 134, .int (ii i), l5, l6] [] (it_mem L xs mi rw o g z) Q := by
  have hI0 := hI
  obtain ⟨i1, i2, i3, i4, i5, i6, cnt, kn, vw, tm, sp, hN, hG, i9, i10, i11⟩ := hI
  have hR := pst_isk i10
  have hP := i10
  obtain ⟨n, hn, s1, s2, p1, _⟩ := i10
  rw [s1, s2] at hP
  have hb := sc_in (k := 1) hL hi (by decide)
  have hc := sc_cl (k := 1) hL hi (by decide)
  have hb2 := sc_in (k := 2) hL hi (by decide)
  have hc2 := sc_cl (k := 2) hL hi (by decide)
  have e1 : ii i + 1 = ii (i + 1) := ii_add (b := 1)
  have e2 : ii i + 2 = ii (i + 2) := ii_add (b := 2)
  have b0 : it_inb L 134 0 := ii_inb (n := 0) (by decide) (by rw [ln_134]; decide)
  have x1 : ¬ (1 : Int32) = 0 := by decide
  have x2 : ¬ (2 : Int32) = 0 := by decide
  simp only [w0_416, w0_417, w0_418, w0_420, w0_421, w0_422, w0_423, w0_424, w0_426, w0_427, w0_428, w0_429, w0_430, isa_0, ln_0, cv_0, isk_8, cv_8_0, cv_8_1, cv_8_2, cv_8_3, cv_8_4, cv_8_5, cv_8_6, cv_8_7, cv_8_8, isk_99, cv_99_0, cv_99_1, cv_99_2, cv_99_3, cv_99_4, cv_99_5, cv_99_6, cv_99_7, cv_99_8, cv_99_9, cv_99_10, cv_99_11, cv_99_12, cv_99_13, cv_99_14, cv_99_15, cv_99_16, cv_99_17, cv_99_18, cv_99_19, cv_99_20, cv_99_21, cv_99_22, cv_99_23, cv_99_24, cv_99_25, cv_99_26, cv_99_27, cv_99_28, cv_99_29, cv_99_30, cv_99_31, cv_99_32, cv_99_33, cv_99_34, cv_99_35, cv_99_36, cv_99_37, cv_99_38, cv_99_39, cv_99_40, cv_99_41, cv_99_42, cv_99_43, cv_99_44, cv_99_45, cv_99_46, e1, e2, hb, hc, hb2, hc2, true_and]
  by_cases h : (0 ≤ xs (i + 1) ∧ xs (i + 1) < 3) ∧ (0 ≤ xs (i + 2) ∧ xs (i + 2) < 3) ∧ ¬ xs (i + 1) = xs (i + 2)
  · obtain ⟨p, hp, ep⟩ := below (b := 3) rfl (by decide) h.1
    obtain ⟨t, ht, et⟩ := below (b := 3) rfl (by decide) h.2.1
    have hne : p ≠ t := fun q => h.2.2 (by rw [ep, et, q])
    by_cases h6 : n = 6
    · subst h6
      simp only [ep, et, c71B hp ht hne s1, c109B hp ht hne s2, c82, ↓reduceIte, true_and, and_true, vok_int, vok_b0, vok_b1, vok_bb, r_backI, r_backV, bb_eq0, Nat.reduceAdd, Nat.reduceMul, Nat.reduceEqDiff, not_true_eq_false, not_false_eq_true, if_true, if_false, false_and, and_false, c17, c98, w0_430, w0_433, w0_435, w0_436, w0_437, w0_439, w0_440, w0_441, w0_442, w0_443, w0_445, w0_446, w0_447, w0_448, w0_451, w0_453, w0_454, w0_457, w0_459, w0_462, w0_463, w0_464, w0_466, w0_469, w0_470, w0_471, w0_472, w0_474, w0_475, w0_476, w0_479, w0_480, w0_481, isa_0, ln_0, cv_0, isk_8, cv_8_0, cv_8_1, cv_8_2, cv_8_3, cv_8_4, cv_8_5, cv_8_6, cv_8_7, cv_8_8, isk_99, cv_99_0, cv_99_1, cv_99_2, cv_99_3, cv_99_4, cv_99_5, cv_99_6, cv_99_7, cv_99_8, cv_99_9, cv_99_10, cv_99_11, cv_99_12, cv_99_13, cv_99_14, cv_99_15, cv_99_16, cv_99_17, cv_99_18, cv_99_19, cv_99_20, cv_99_21, cv_99_22, cv_99_23, cv_99_24, cv_99_25, cv_99_26, cv_99_27, cv_99_28, cv_99_29, cv_99_30, cv_99_31, cv_99_32, cv_99_33, cv_99_34, cv_99_35, cv_99_36, cv_99_37, cv_99_38, cv_99_39, cv_99_40, cv_99_41, cv_99_42, cv_99_43, cv_99_44, cv_99_45, cv_99_46, e1, e2, hb, hc, hb2, hc2, it_up_s, x2]
      exact hK _ _ _ _ _ _ _ (inv_code (inv_code hI0)) (by omega) (by omega)
    · obtain ⟨j, hj, ej⟩ := p1 n (by omega)
      have hv := fun q hq => hN.2.2.2.1 p t q hp ht hq
      have hcn := fun q hq => hN.2.1 p q hp hq
      have h16 := fun q hq => hN.1 q hq
      have k1 : ∀ q, q < 3 → mi (36 + 14 * p) q = ii (kn p q) ∧ mi (38 + 14 * p + t) q = ii (vw p t q) ∧ vw p t q ≤ kn p q ∧ kn p q ≤ 16 := by
        intro q hq
        have a1 := (i9.1 p q hp hq).1
        have a2 := (i9.2.1 p t q hp ht hq).1
        rw [win_at (by omega) (by omega)] at a1 a2
        have := hv q hq
        have := hcn q hq
        have := h16 q hq
        exact ⟨a1, a2, by omega, by omega⟩
      have k2 : ∀ q, q < 3 → fil (it_up mi 77 1 (ii (n + 1))) (rw n) p t (kn p) (vw p t) 119 (3 * p + q) = ii (kn p q) ∧ fil (it_up mi 77 1 (ii (n + 1))) (rw n) p t (kn p) (vw p t) 120 (9 * p + 3 * t + q) = ii (vw p t q) ∧ vw p t q ≤ kn p q ∧ kn p q ≤ 16 := by
        intro q hq
        have a1 := (i9.1 p q hp hq).2
        have a2 := (i9.2.1 p t q hp ht hq).2
        rw [win_at (by omega) (by omega)] at a1 a2
        have := k1 q hq
        refine ⟨?_, ?_, this.2.2⟩
        · rw [fil_f (by omega), it_up_f _ _ _ (by omega)]; exact a1
        · rw [fil_f (by omega), it_up_f _ _ _ (by omega)]; exact a2
      have k3 : fil (it_up mi 77 1 (ii (n + 1))) (rw n) p t (kn p) (vw p t) 99 33 = ii n := by rw [fil_f (by omega), it_up_f _ _ _ (by omega)]; exact s2
      have f0 : ∀ X, it_up (fim (it_up X 99 0 0) n p t (kn p) (vw p t)) 99 33 (ii (n + 1)) 99 0 = 0 := by
        intro X
        rw [it_up_s, if_neg (by decide), fim_f (by omega), it_up_same]
      simp only [ep, et, c71C hp ht hne (show n < 6 by omega) s1 (hR n (by omega)) (show 79 ≤ rw n by omega) k1, c109C hp ht hne (show n < 6 by omega) k3 k2, ↓reduceIte, true_and, and_true, vok_int, vok_b0, vok_b1, vok_bb, r_backI, r_backV, bb_eq0, Nat.reduceAdd, Nat.reduceMul, Nat.reduceEqDiff, not_true_eq_false, not_false_eq_true, if_true, if_false, false_and, and_false, c17, c98, w0_430, w0_433, w0_435, w0_436, w0_437, w0_439, w0_440, w0_441, w0_442, w0_443, w0_445, w0_446, w0_447, w0_448, w0_451, w0_453, w0_454, w0_457, w0_459, w0_462, w0_463, w0_464, w0_466, w0_469, w0_470, w0_471, w0_472, w0_474, w0_475, w0_476, w0_479, w0_480, w0_481, isa_0, ln_0, cv_0, isk_8, cv_8_0, cv_8_1, cv_8_2, cv_8_3, cv_8_4, cv_8_5, cv_8_6, cv_8_7, cv_8_8, isk_99, cv_99_0, cv_99_1, cv_99_2, cv_99_3, cv_99_4, cv_99_5, cv_99_6, cv_99_7, cv_99_8, cv_99_9, cv_99_10, cv_99_11, cv_99_12, cv_99_13, cv_99_14, cv_99_15, cv_99_16, cv_99_17, cv_99_18, cv_99_19, cv_99_20, cv_99_21, cv_99_22, cv_99_23, cv_99_24, cv_99_25, cv_99_26, cv_99_27, cv_99_28, cv_99_29, cv_99_30, cv_99_31, cv_99_32, cv_99_33, cv_99_34, cv_99_35, cv_99_36, cv_99_37, cv_99_38, cv_99_39, cv_99_40, cv_99_41, cv_99_42, cv_99_43, cv_99_44, cv_99_45, cv_99_46, isa_134, ln_134, cv_134, e1, e2, hb, hc, hb2, hc2, c82, f0, b0, k0, va_up_self, lg_self]
      refine hK _ _ _ _ _ _ _ ?_ (by omega) (by omega)
      simp (disch := omega) only [it_Inv, fim_f, fil_f, win_fim, win_fil, it_up_f, win_out, it_up_s, Nat.reduceEqDiff, if_false, if_true]
      refine ⟨i1, i2, i3, i4, i5, i6, cnt, kn, vw, tm, sp, hN, hG, i9, pst_add (K := kn p) (W := vw p t) hp ht hne (by omega) hP (fun q hq => ?_) (fun a b hab => ?_) ⟨?_, ?_, fun q hq => ?_⟩ (fun k hk => ⟨?_, ?_, fun q hq => ?_⟩) ⟨?_, ?_, fun q hq => ?_⟩, i11⟩
      · have := hv q hq
        omega
      · unfold it_win
        split
        · rw [fil_f hab, it_up_f _ _ _ (by omega)]
        · rfl
      · rw [win_at (by omega) (by omega)]
        unfold fil
        simp (disch := omega) only [it_up_f, it_up_s, Nat.reduceEqDiff, if_false, if_true]
      · rw [win_at (by omega) (by omega)]
        unfold fil
        simp (disch := omega) only [it_up_f, it_up_s, Nat.reduceEqDiff, if_false, if_true]
      · rw [win_at (by omega) (by omega), win_at (by omega) (by omega)]
        unfold fil
        rcases i_three hq with rfl | rfl | rfl <;> simp (disch := omega) only [it_up_f, it_up_s, Nat.reduceEqDiff, if_false, if_true, and_self]
      · rw [win_at (by omega) (by omega), win_at (by omega) (by omega)]
        unfold fim
        simp (disch := omega) only [it_up_f, it_up_j, fil_f]
      · rw [win_at (by omega) (by omega), win_at (by omega) (by omega)]
        unfold fim
        simp (disch := omega) only [it_up_f, it_up_j, fil_f]
      · rw [win_at (by omega) (by omega), win_at (by omega) (by omega), win_at (by omega) (by omega), win_at (by omega) (by omega)]
        unfold fim
        simp (disch := omega) only [it_up_f, it_up_j, fil_f, and_self]
      · rw [win_at (by omega) (by omega)]
        unfold fim
        simp (disch := omega) only [it_up_f, it_up_same]
      · rw [win_at (by omega) (by omega)]
        unfold fim
        simp (disch := omega) only [it_up_f, it_up_same]
      · rw [win_at (by omega) (by omega), win_at (by omega) (by omega)]
        unfold fim
        rcases i_three hq with rfl | rfl | rfl <;> simp (disch := omega) only [it_up_f, it_up_j, it_up_same, Nat.add_zero, and_self]
  · simp only [c71A h, c109A h, c82, ↓reduceIte, true_and, and_true, vok_int, vok_b0, vok_b1, vok_bb, r_backI, r_backV, bb_eq0, Nat.reduceAdd, Nat.reduceMul, Nat.reduceEqDiff, not_true_eq_false, not_false_eq_true, if_true, if_false, false_and, and_false, c17, c98, w0_430, w0_433, w0_435, w0_436, w0_437, w0_439, w0_440, w0_441, w0_442, w0_443, w0_445, w0_446, w0_447, w0_448, w0_451, w0_453, w0_454, w0_457, w0_459, w0_462, w0_463, w0_464, w0_466, w0_469, w0_470, w0_471, w0_472, w0_474, w0_475, w0_476, w0_479, w0_480, w0_481, isa_0, ln_0, cv_0, isk_8, cv_8_0, cv_8_1, cv_8_2, cv_8_3, cv_8_4, cv_8_5, cv_8_6, cv_8_7, cv_8_8, isk_99, cv_99_0, cv_99_1, cv_99_2, cv_99_3, cv_99_4, cv_99_5, cv_99_6, cv_99_7, cv_99_8, cv_99_9, cv_99_10, cv_99_11, cv_99_12, cv_99_13, cv_99_14, cv_99_15, cv_99_16, cv_99_17, cv_99_18, cv_99_19, cv_99_20, cv_99_21, cv_99_22, cv_99_23, cv_99_24, cv_99_25, cv_99_26, cv_99_27, cv_99_28, cv_99_29, cv_99_30, cv_99_31, cv_99_32, cv_99_33, cv_99_34, cv_99_35, cv_99_36, cv_99_37, cv_99_38, cv_99_39, cv_99_40, cv_99_41, cv_99_42, cv_99_43, cv_99_44, cv_99_45, cv_99_46, e1, e2, hb, hc, hb2, hc2, it_up_s, x1]
    exact hK _ _ _ _ _ _ _ (inv_code (inv_code hI0)) (by omega) (by omega)
end
