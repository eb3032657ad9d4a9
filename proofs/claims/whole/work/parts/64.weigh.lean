/-! Small methods of the fold; conditions weighed by the class. -/
theorem q_bb {Q : Int32 → Prop} {c : Prop} {x : Decidable (¬ c)} : (if ¬ c then Q 0 else Q 1) ↔ Q (bb c) := by
  by_cases h : c
  · rw [if_neg (fun q => q h), bb_t h]
  · rw [if_pos h, bb_f h]
section
variable {d : Nat} {Q : im_O → im_M → Prop} {L : Nat} {xs : Nat → Int32} {mi : Nat → Nat → Int32} {rw : Nat → Nat} {o : Nat → Int64} {g z : Nat}
theorem c25 {u k : Nat} (hu : u < 4) (hk : k < 4) : iw d 25 0 [.ref 16, .int (ii u), .int (ii k)] [] (it_mem L xs mi rw o g z) Q ↔ Q (.inl (some (.int (bb (mi 26 k ≤ mi 25 u))))) (it_mem L xs mi rw o g z) := by
  have b1 : it_inb L 25 (ii u) := ii_inb (by omega) (by rw [ln_25]; omega)
  have b2 : it_inb L 26 (ii k) := ii_inb (by omega) (by rw [ln_26]; omega)
  have e1 : (ii u).toNatClampNeg = u := ii_clamp (by omega)
  have e2 : (ii k).toNatClampNeg = k := ii_clamp (by omega)
  simp only [w25_0, w25_1, w25_4, w25_5, w25_6, w25_7, w25_10, w25_11, w25_12, w25_15, w25_16, w25_19, w25_20, isk_16, cv_16_0, cv_16_1, cv_16_2, isa_25, ln_25, cv_25, isa_26, ln_26, cv_26, ↓reduceIte, true_and, and_true, vok_int, vok_b0, vok_b1, vok_bb, r_backI, r_backV, bb_eq0, Nat.reduceAdd, Nat.reduceMul, Nat.reduceEqDiff, not_true_eq_false, not_false_eq_true, if_true, if_false, false_and, and_false, c17, c98, b1, b2, e1, e2]
  by_cases h : mi 25 u < mi 26 k
  · rw [if_pos h, bb_f (i_nle.mpr h)]
  · rw [if_neg h, bb_t (i_nlt.mp h)]
theorem c26 {F i : Nat} (hF : it_isk 6 F = true) (hi : i < 48) : iw d 26 0 [.ref F, .int (ii i)] [] (it_mem L xs mi rw o g z) Q ↔ Q (.inl (some (.int (bb (0 < mi (F + 4) i))))) (it_mem L xs mi rw o g z) := by
  have b1 : it_inb L (F + 4) (ii i) := ii_inb (by omega) (by rw [lng_6_3 hF]; omega)
  have e1 : (ii i).toNatClampNeg = i := ii_clamp (by omega)
  simp only [w26_0, w26_1, w26_4, w26_5, w26_6, w26_9, w26_10, w26_13, w26_14, ↓reduceIte, true_and, and_true, vok_int, vok_b0, vok_b1, vok_bb, r_backI, r_backV, bb_eq0, Nat.reduceAdd, Nat.reduceMul, Nat.reduceEqDiff, not_true_eq_false, not_false_eq_true, if_true, if_false, false_and, and_false, c17, c98, hF, cvg_6_3 hF, isag_6_3 hF, cvag_6_3 hF, b1, e1]
  by_cases h : mi (F + 4) i ≤ 0
  · rw [if_pos h, bb_f (i_nlt.mpr h)]
  · rw [if_neg h, bb_t (i_nle.mp h)]
theorem c27 {F i : Nat} (hF : it_isk 6 F = true) (hi : i < 48) : iw d 27 0 [.ref F, .int (ii i)] [] (it_mem L xs mi rw o g z) Q ↔ Q (.inl (some (.ref (F + 7)))) (it_mem L xs (it_up (it_up (it_up mi (F + 7) 0 (mi (F + 1) i)) (F + 7) 1 (mi (F + 2) i)) (F + 7) 2 (mi (F + 3) i)) rw o g z) := by
  have b1 : it_inb L (F + 1) (ii i) := ii_inb (by omega) (by rw [lng_6_0 hF]; omega)
  have b2 : it_inb L (F + 2) (ii i) := ii_inb (by omega) (by rw [lng_6_1 hF]; omega)
  have b3 : it_inb L (F + 3) (ii i) := ii_inb (by omega) (by rw [lng_6_2 hF]; omega)
  have e1 : (ii i).toNatClampNeg = i := ii_clamp (by omega)
  have n1 : ∀ X j x, it_up X (F + 7) j x (F + 2) = X (F + 2) := fun X j x => it_up_f _ _ _ (by omega)
  have n2 : ∀ X j x, it_up X (F + 7) j x (F + 3) = X (F + 3) := fun X j x => it_up_f _ _ _ (by omega)
  simp only [w27_0, w27_1, w27_4, w27_5, w27_8, w27_9, w27_10, w27_13, w27_14, w27_17, w27_18, w27_21, w27_22, w27_23, w27_26, w27_27, w27_30, w27_31, w27_34, w27_35, w27_36, w27_39, w27_40, w27_43, ↓reduceIte, true_and, and_true, vok_int, vok_b0, vok_b1, vok_bb, r_backI, r_backV, bb_eq0, Nat.reduceAdd, Nat.reduceMul, Nat.reduceEqDiff, not_true_eq_false, not_false_eq_true, if_true, if_false, false_and, and_false, c17, c98, hF, iskg_6_6 hF, cvg_6_0 hF, cvg_6_1 hF, cvg_6_2 hF, cvg_6_6 hF, isag_6_0 hF, isag_6_1 hF, isag_6_2 hF, cvag_6_0 hF, cvag_6_1 hF, cvag_6_2 hF, b1, b2, b3, e1, n1, n2]
theorem c31 : iw d 31 0 [.ref 17] [] (it_mem L xs mi rw o g z) Q ↔ Q (.inl (some (.int (mi 18 0)))) (it_mem L xs mi rw o g z) := by
  have b1 : it_inb L 18 0 := ii_inb (n := 0) (by decide) (by rw [ln_18]; decide)
  simp only [w31_0, w31_1, w31_4, w31_5, w31_6, isk_17, cv_17_0, cv_17_1, cv_17_2, cv_17_3, cv_17_4, cv_17_5, isa_18, ln_18, cv_18, ↓reduceIte, true_and, and_true, vok_int, vok_b0, vok_b1, vok_bb, r_backI, r_backV, bb_eq0, Nat.reduceAdd, Nat.reduceMul, Nat.reduceEqDiff, not_true_eq_false, not_false_eq_true, if_true, if_false, false_and, and_false, c17, c98, b1, k0]
theorem c30 {s : Nat} {k v : Int32} (hs : it_isk 5 s = true) : iw d 30 0 [.ref s, .int k, .int v] [] (it_mem L xs mi rw o g z) Q ↔ Q (.inl (some (.int (bb (hfit k v (mi s 0) (mi s 1) (mi s 2) (mi s 3) (mi s 4)))))) (it_mem L xs mi rw o g z) := by
  have e1 : v ≤ mi s 1 ↔ ¬ mi s 1 < v := i_nlt.symm
  have e2 : mi s 1 ≤ v ↔ ¬ v < mi s 1 := i_nlt.symm
  have e3 : Q (.inl (some (.int 0))) (it_mem L xs mi rw o g z) ↔ Q (.inl (some (.int (bb False)))) (it_mem L xs mi rw o g z) := by rw [bb_F]
  simp only [w30_0, w30_1, w30_52, w30_53, w30_56, w30_57, w30_60, w30_61, w30_64, w30_65, w30_66, w30_67, w30_70, w30_71, w30_74, w30_75, w30_78, w30_79, w30_80, w30_81, w30_84, w30_85, w30_88, w30_89, w30_92, w30_93, w30_94, w30_95, w30_98, w30_99, w30_102, w30_103, w30_106, w30_107, w30_108, w30_109, w30_112, w30_113, w30_116, w30_117, w30_120, w30_121, w30_122, w30_123, w30_126, w30_127, w30_130, w30_131, w30_134, w30_135, w30_136, w30_137, w30_140, w30_141, w30_144, w30_147, w30_148, w30_151, w30_152, w30_153, w30_154, w30_157, w30_158, w30_161, w30_162, w30_165, w30_166, w30_167, w30_168, w30_171, w30_172, w30_175, w30_176, w30_179, w30_180, w30_181, w30_182, ↓reduceIte, true_and, and_true, vok_int, vok_b0, vok_b1, vok_bb, r_backI, r_backV, bb_eq0, Nat.reduceAdd, Nat.reduceMul, Nat.reduceEqDiff, not_true_eq_false, not_false_eq_true, if_true, if_false, false_and, and_false, c17, c98, hs, cvg_5_0 hs, cvg_5_1 hs, cvg_5_2 hs, cvg_5_3 hs, cvg_5_4 hs, e1, e2]
  unfold hfit
  by_cases h3 : k = 3
  · rw [if_pos h3, if_pos h3]
    exact q_bb (Q := fun x => Q (.inl (some (.int x))) (it_mem L xs mi rw o g z))
  rw [if_neg h3, if_neg h3]
  by_cases h4 : k = 4
  · rw [if_pos h4, if_pos h4]
    exact q_bb (Q := fun x => Q (.inl (some (.int x))) (it_mem L xs mi rw o g z))
  rw [if_neg h4, if_neg h4]
  by_cases h5 : k = 5
  · rw [if_pos h5, if_pos h5]
    exact q_bb (Q := fun x => Q (.inl (some (.int x))) (it_mem L xs mi rw o g z))
  rw [if_neg h5, if_neg h5]
  by_cases h6 : k = 6
  · rw [if_pos h6, if_pos h6]
    exact q_bb (Q := fun x => Q (.inl (some (.int x))) (it_mem L xs mi rw o g z))
  rw [if_neg h6, if_neg h6]
  by_cases h7 : k = 7
  · rw [if_pos h7, if_pos h7]
    exact q_bb (Q := fun x => Q (.inl (some (.int x))) (it_mem L xs mi rw o g z))
  rw [if_neg h7, if_neg h7]
  by_cases h8 : k = 8
  · rw [if_pos h8, if_pos h8]
    exact q_bb (Q := fun x => Q (.inl (some (.int x))) (it_mem L xs mi rw o g z))
  rw [if_neg h8, if_neg h8]
  by_cases h9 : k = 9
  · rw [if_pos h9, if_pos h9]
    exact q_bb (Q := fun x => Q (.inl (some (.int x))) (it_mem L xs mi rw o g z))
  rw [if_neg h9, if_neg h9]
  by_cases h10 : k = 10
  · rw [if_pos h10, if_pos h10]
    exact q_bb (Q := fun x => Q (.inl (some (.int x))) (it_mem L xs mi rw o g z))
  rw [if_neg h10, if_neg h10]
  by_cases h11 : k = 11
  · rw [if_pos h11, if_pos h11]
    exact q_bb (Q := fun x => Q (.inl (some (.int x))) (it_mem L xs mi rw o g z))
  rw [if_neg h11, if_neg h11]
  exact e3
theorem c29L {a s e : Nat} {x : Int32} (ha : it_isk 1 a = true) (hs : it_isk 5 s = true) (he : e ≤ it_ln L (a + 1)) (he2 : it_ln L (a + 2) = it_ln L (a + 1)) (he3 : e ≤ 120) : ∀ (n j : Nat) (ans : Int32) (v : Value), n + j = e → (iw (d + 1) 29 6 [.ref a, .int x, .int (ii e), .ref s, .int ans, .int (ii j), v] [] (it_mem L xs mi rw o g z) Q ↔ Q (.inl (some (.int (bb (hrun (hst (mi (a + 1)) (mi (a + 2)) (mi s 0) (mi s 1) (mi s 2) (mi s 3) (mi s 4)) n j ans &&& 1 = 1))))) (it_mem L xs mi rw o g z)) := by
  intro n
  induction n with
  | zero =>
    intro j ans v hj
    have e1 : ii e ≤ ii j := (ii_le (by omega) (by omega)).mpr (by omega)
    rw [w29_6]
    simp only [w29_8, w29_9, w29_127, w29_129, w29_130, w29_131, w29_132, w29_135, w29_136, w29_139, w29_140, ↓reduceIte, true_and, and_true, vok_int, vok_b0, vok_b1, vok_bb, r_backI, r_backV, bb_eq0, Nat.reduceAdd, Nat.reduceMul, Nat.reduceEqDiff, not_true_eq_false, not_false_eq_true, if_true, if_false, false_and, and_false, c17, c98, e1, hrun]
    exact q_bb (Q := fun x => Q (.inl (some (.int x))) (it_mem L xs mi rw o g z))
  | succ n ih =>
    intro j ans v hj
    have e1 : ¬ ii e ≤ ii j := by rw [ii_le (by omega) (by omega)]; omega
    have e2 : ii j + 1 = ii (j + 1) := ii_add (b := 1)
    have e3 : (ii j).toNatClampNeg = j := ii_clamp (by omega)
    have b1 : it_inb L (a + 1) (ii j) := ii_inb (by omega) (by omega)
    have b2 : it_inb L (a + 2) (ii j) := ii_inb (by omega) (by omega)
    rw [w29_6]
    simp only [w29_8, w29_9, w29_12, w29_14, w29_15, w29_16, w29_18, w29_19, w29_22, w29_24, w29_25, w29_52, w29_54, w29_55, w29_56, w29_58, w29_61, w29_63, w29_64, w29_65, w29_67, w29_69, w29_70, w29_71, w29_73, w29_76, w29_78, w29_79, w29_80, w29_82, w29_83, w29_85, w29_88, w29_90, w29_91, w29_92, w29_93, w29_94, w29_97, w29_99, w29_100, w29_101, w29_104, w29_106, w29_107, w29_110, w29_113, w29_114, w29_117, w29_118, w29_119, w29_121, w29_124, ↓reduceIte, true_and, and_true, vok_int, vok_b0, vok_b1, vok_bb, r_backI, r_backV, bb_eq0, Nat.reduceAdd, Nat.reduceMul, Nat.reduceEqDiff, not_true_eq_false, not_false_eq_true, if_true, if_false, false_and, and_false, c17, c98, e1, ha, cvg_1_0 ha, cvg_1_1 ha, isag_1_0 ha, isag_1_1 ha, cvag_1_0 ha, cvag_1_1 ha, b1, b2, e3, e2, c30 hs, hs]
    unfold hrun
    by_cases h0 : mi (a + 1) j = 0
    · rw [if_pos h0, ih (j + 1) _ _ (by omega)]
      unfold hst
      rw [if_pos h0]
    rw [if_neg h0]
    by_cases h1 : mi (a + 1) j = 1
    · rw [if_pos h1, ih (j + 1) _ _ (by omega)]
      unfold hst
      rw [if_neg h0, if_pos h1]
    rw [if_neg h1]
    by_cases h2 : mi (a + 1) j = 2
    · rw [if_pos h2, ih (j + 1) _ _ (by omega)]
      unfold hst
      rw [if_neg h0, if_neg h1, if_pos h2]
    rw [if_neg h2]
    by_cases h3 : hfit (mi (a + 1) j) (mi (a + 2) j) (mi s 0) (mi s 1) (mi s 2) (mi s 3) (mi s 4)
    · rw [if_neg (fun q => bb_eq0.mp q h3), ih (j + 1) _ _ (by omega)]
      have e9 : hst (mi (a + 1)) (mi (a + 2)) (mi s 0) (mi s 1) (mi s 2) (mi s 3) (mi s 4) ans j = ans <<< (1 &&& 31) ||| 1 := by
        unfold hst
        rw [if_neg h0, if_neg h1, if_neg h2, bb_t h3]
      rw [e9]
    · rw [if_pos (bb_eq0.mpr h3), ih (j + 1) _ _ (by omega)]
      have e9 : hst (mi (a + 1)) (mi (a + 2)) (mi s 0) (mi s 1) (mi s 2) (mi s 3) (mi s 4) ans j = ans <<< (1 &&& 31) ||| 0 := by
        unfold hst
        rw [if_neg h0, if_neg h1, if_neg h2, bb_f h3]
      rw [e9]
theorem c29 {a s b e : Nat} {v4 v5 v6 : Value} (ha : it_isk 1 a = true) (hs : it_isk 5 s = true) (hbe : b ≤ e) (he : e ≤ it_ln L (a + 1)) (he2 : it_ln L (a + 2) = it_ln L (a + 1)) (he3 : e ≤ 120) : iw (d + 1) 29 0 [.ref a, .int (ii b), .int (ii e), .ref s, v4, v5, v6] [] (it_mem L xs mi rw o g z) Q ↔ Q (.inl (some (.int (bb (hC (mi (a + 1)) (mi (a + 2)) (mi s 0) (mi s 1) (mi s 2) (mi s 3) (mi s 4) b e))))) (it_mem L xs mi rw o g z) := by
  simp only [w29_0, w29_1, w29_3, w29_4, c29L ha hs he he2 he3 (e - b) b _ _ (by omega)]
  exact Iff.rfl
/-- the class's rules are well laid -/
theorem c28L {s k : Nat} {goal : Int32} (hs : it_isk 5 s = true) (hk : k ≤ 30) (hr : mi 17 5 = ii k) (hw : ∀ r, r < k → ∃ a b, mi 20 r = ii a ∧ mi 21 r = ii b ∧ a ≤ b ∧ b ≤ 120) : ∀ (n r : Nat), n + r = k → (iw (d + 2) 28 2 [.ref 17, .ref s, .int goal, .int (ii r)] [] (it_mem L xs mi rw o g z) Q ↔ Q (.inl (some (.int (bb (∃ q, r ≤ q ∧ q < k ∧ mi 18 q = mi s 0 ∧ mi 19 q = goal ∧ hC (mi 23) (mi 24) (mi s 0) (mi s 1) (mi s 2) (mi s 3) (mi s 4) (mi 20 q).toNatClampNeg (mi 21 q).toNatClampNeg))))) (it_mem L xs mi rw o g z)) := by
  intro n
  induction n with
  | zero =>
    intro r hn
    have e1 : ii k ≤ ii r := (ii_le (by omega) (by omega)).mpr (by omega)
    rw [w28_2]
    simp only [w28_3, w28_4, w28_7, w28_64, w28_65, isk_17, cv_17_0, cv_17_1, cv_17_2, cv_17_3, cv_17_4, cv_17_5, ↓reduceIte, true_and, and_true, vok_int, vok_b0, vok_b1, vok_bb, r_backI, r_backV, bb_eq0, Nat.reduceAdd, Nat.reduceMul, Nat.reduceEqDiff, not_true_eq_false, not_false_eq_true, if_true, if_false, false_and, and_false, c17, c98, hr, e1]
    rw [bb_f]
    rintro ⟨q, h1, h2, _⟩
    omega
  | succ n ih =>
    intro r hn
    have e1 : ¬ ii k ≤ ii r := by rw [ii_le (by omega) (by omega)]; omega
    have e2 : ii r + 1 = ii (r + 1) := ii_add (b := 1)
    have e3 : (ii r).toNatClampNeg = r := ii_clamp (by omega)
    have b1 : it_inb L 18 (ii r) := ii_inb (by omega) (by rw [ln_18]; omega)
    have b2 : it_inb L 19 (ii r) := ii_inb (by omega) (by rw [ln_19]; omega)
    have b3 : it_inb L 20 (ii r) := ii_inb (by omega) (by rw [ln_20]; omega)
    have b4 : it_inb L 21 (ii r) := ii_inb (by omega) (by rw [ln_21]; omega)
    obtain ⟨a, b, w1, w2, w3, w4⟩ := hw r (by omega)
    have ea : (ii a).toNatClampNeg = a := ii_clamp (by omega)
    have eb : (ii b).toNatClampNeg = b := ii_clamp (by omega)
    have h29 := fun (Q : im_O → im_M → Prop) => c29 (d := d) (L := L) (xs := xs) (mi := mi) (rw := rw) (o := o) (g := g) (z := z) (Q := Q) (b := a) (e := b) (v4 := .retAddr 0) (v5 := .retAddr 0) (v6 := .retAddr 0) isk_22 hs w3 (by rw [show it_ln L (22 + 1) = 120 from rfl]; exact w4) rfl w4
    have hnext : (∃ q, r ≤ q ∧ q < k ∧ mi 18 q = mi s 0 ∧ mi 19 q = goal ∧ hC (mi 23) (mi 24) (mi s 0) (mi s 1) (mi s 2) (mi s 3) (mi s 4) (mi 20 q).toNatClampNeg (mi 21 q).toNatClampNeg) ↔ (mi 18 r = mi s 0 ∧ mi 19 r = goal ∧ hC (mi 23) (mi 24) (mi s 0) (mi s 1) (mi s 2) (mi s 3) (mi s 4) a b) ∨ (∃ q, r + 1 ≤ q ∧ q < k ∧ mi 18 q = mi s 0 ∧ mi 19 q = goal ∧ hC (mi 23) (mi 24) (mi s 0) (mi s 1) (mi s 2) (mi s 3) (mi s 4) (mi 20 q).toNatClampNeg (mi 21 q).toNatClampNeg) := by
      constructor
      · rintro ⟨q, h1, h2, h3, h4, h5⟩
        by_cases e : q = r
        · subst e
          rw [w1, w2, ea, eb] at h5
          exact Or.inl ⟨h3, h4, h5⟩
        · exact Or.inr ⟨q, by omega, h2, h3, h4, h5⟩
      · rintro (⟨h3, h4, h5⟩ | ⟨q, h1, h2, h3⟩)
        · refine ⟨r, by omega, by omega, h3, h4, ?_⟩
          rw [w1, w2, ea, eb]
          exact h5
        · exact ⟨q, by omega, h2, h3⟩
    rw [w28_2, hnext]
    have hih := ih (r + 1) (by omega)
    by_cases h1 : mi 18 r = mi s 0
    · by_cases h2 : mi 19 r = goal
      · by_cases h3 : hC (mi 23) (mi 24) (mi s 0) (mi s 1) (mi s 2) (mi s 3) (mi s 4) a b
        · have hz : ¬ bb (hC (mi 23) (mi 24) (mi s 0) (mi s 1) (mi s 2) (mi s 3) (mi s 4) a b) = 0 := fun q => bb_eq0.mp q h3
          simp only [w28_3, w28_4, w28_7, w28_10, w28_11, w28_14, w28_15, w28_16, w28_17, w28_20, w28_23, w28_24, w28_27, w28_28, w28_29, w28_30, w28_33, w28_34, w28_37, w28_38, w28_41, w28_42, w28_43, w28_44, w28_47, w28_48, w28_49, w28_50, w28_53, w28_56, w28_57, isk_17, cv_17_0, cv_17_1, cv_17_2, cv_17_3, cv_17_4, cv_17_5, isa_18, ln_18, cv_18, isa_19, ln_19, cv_19, isa_20, ln_20, cv_20, isa_21, ln_21, cv_21, isk_22, cv_22_0, cv_22_1, cv_22_2, ↓reduceIte, true_and, and_true, vok_int, vok_b0, vok_b1, vok_bb, r_backI, r_backV, bb_eq0, Nat.reduceAdd, Nat.reduceMul, Nat.reduceEqDiff, not_true_eq_false, not_false_eq_true, if_true, if_false, false_and, and_false, c17, c98, hs, cvg_5_0 hs, hr, e1, b1, b2, b3, b4, e3, h1, h2, w1, w2, h29, hz, h3]
          rw [bb_t (Or.inl trivial)]
        · have hz : bb (hC (mi 23) (mi 24) (mi s 0) (mi s 1) (mi s 2) (mi s 3) (mi s 4) a b) = 0 := bb_f h3
          simp only [w28_3, w28_4, w28_7, w28_10, w28_11, w28_14, w28_15, w28_16, w28_17, w28_20, w28_23, w28_24, w28_27, w28_28, w28_29, w28_30, w28_33, w28_34, w28_37, w28_38, w28_41, w28_42, w28_43, w28_44, w28_47, w28_48, w28_49, w28_50, w28_53, w28_56, w28_57, w28_58, w28_61, isk_17, cv_17_0, cv_17_1, cv_17_2, cv_17_3, cv_17_4, cv_17_5, isa_18, ln_18, cv_18, isa_19, ln_19, cv_19, isa_20, ln_20, cv_20, isa_21, ln_21, cv_21, isk_22, cv_22_0, cv_22_1, cv_22_2, ↓reduceIte, true_and, and_true, vok_int, vok_b0, vok_b1, vok_bb, r_backI, r_backV, bb_eq0, Nat.reduceAdd, Nat.reduceMul, Nat.reduceEqDiff, not_true_eq_false, not_false_eq_true, if_true, if_false, false_and, and_false, c17, c98, hs, cvg_5_0 hs, hr, e1, b1, b2, b3, b4, e3, h1, h2, w1, w2, h29, hz, h3, e2, hih, false_or]
      · simp only [w28_3, w28_4, w28_7, w28_10, w28_11, w28_14, w28_15, w28_16, w28_17, w28_20, w28_23, w28_24, w28_27, w28_28, w28_29, w28_30, w28_33, w28_34, w28_37, w28_38, w28_41, w28_42, w28_43, w28_44, w28_47, w28_48, w28_49, w28_50, w28_53, w28_56, w28_57, w28_58, w28_61, isk_17, cv_17_0, cv_17_1, cv_17_2, cv_17_3, cv_17_4, cv_17_5, isa_18, ln_18, cv_18, isa_19, ln_19, cv_19, isa_20, ln_20, cv_20, isa_21, ln_21, cv_21, isk_22, cv_22_0, cv_22_1, cv_22_2, ↓reduceIte, true_and, and_true, vok_int, vok_b0, vok_b1, vok_bb, r_backI, r_backV, bb_eq0, Nat.reduceAdd, Nat.reduceMul, Nat.reduceEqDiff, not_true_eq_false, not_false_eq_true, if_true, if_false, false_and, and_false, c17, c98, hs, cvg_5_0 hs, hr, e1, b1, b2, e3, h1, h2, e2, hih, false_or]
    · simp only [w28_3, w28_4, w28_7, w28_10, w28_11, w28_14, w28_15, w28_16, w28_17, w28_20, w28_23, w28_24, w28_27, w28_28, w28_29, w28_30, w28_33, w28_34, w28_37, w28_38, w28_41, w28_42, w28_43, w28_44, w28_47, w28_48, w28_49, w28_50, w28_53, w28_56, w28_57, w28_58, w28_61, isk_17, cv_17_0, cv_17_1, cv_17_2, cv_17_3, cv_17_4, cv_17_5, isa_18, ln_18, cv_18, isa_19, ln_19, cv_19, isa_20, ln_20, cv_20, isa_21, ln_21, cv_21, isk_22, cv_22_0, cv_22_1, cv_22_2, ↓reduceIte, true_and, and_true, vok_int, vok_b0, vok_b1, vok_bb, r_backI, r_backV, bb_eq0, Nat.reduceAdd, Nat.reduceMul, Nat.reduceEqDiff, not_true_eq_false, not_false_eq_true, if_true, if_false, false_and, and_false, c17, c98, hs, cvg_5_0 hs, hr, e1, b1, b2, e3, h1, e2, hih, false_or]
theorem c28 {s k : Nat} {goal : Int32} {v : Value} (hs : it_isk 5 s = true) (hk : k ≤ 30) (hr : mi 17 5 = ii k) (hw : ∀ r, r < k → ∃ a b, mi 20 r = ii a ∧ mi 21 r = ii b ∧ a ≤ b ∧ b ≤ 120) : iw (d + 2) 28 0 [.ref 17, .ref s, .int goal, v] [] (it_mem L xs mi rw o g z) Q ↔ Q (.inl (some (.int (bb (it_alw mi k (mi s 0) (mi s 1) (mi s 2) (mi s 3) (mi s 4) goal))))) (it_mem L xs mi rw o g z) := by
  have e0 : (0 : Int32) = ii 0 := rfl
  simp only [w28_0, w28_1]
  rw [e0, c28L hs hk hr hw k 0 (by omega)]
  have e : (∃ q, 0 ≤ q ∧ q < k ∧ mi 18 q = mi s 0 ∧ mi 19 q = goal ∧ hC (mi 23) (mi 24) (mi s 0) (mi s 1) (mi s 2) (mi s 3) (mi s 4) (mi 20 q).toNatClampNeg (mi 21 q).toNatClampNeg) = it_alw mi k (mi s 0) (mi s 1) (mi s 2) (mi s 3) (mi s 4) goal := by
    unfold it_alw
    simp only [Nat.zero_le, true_and]
  rw [e]
end
