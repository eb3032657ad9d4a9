/-! The reference's query. -/
section
variable {d : Nat} {Q : im_O → im_M → Prop} {L : Nat} {xs : Nat → Int32} {rw : Nat → Nat} {o : Nat → Int64} {g z : Nat}
variable {n : Nat} {T : Nat → Nat}
theorem c116 {i : Nat} {S : FST} {D : Nat → Prop} {m : Nat → Nat → Int32} (hi : i < 48) (hn : n ≤ 120) (h5 : m 99 5 = ii n) (hx : ∀ j, j < n → m 102 j = ii (T j)) (hz : ∀ j, n ≤ j → T j = 0) (hw : wll n T) (hS : it_MR 48 m S D)
    (hQ : ∀ m', (∀ a, a < 104 ∨ 107 ≤ a → m' a = m a) → Q (.inl (some (.int (bb (S.1 i ≠ 0 ∧ cqn n T (S.2.1 i) (S.2.2.1 i) (S.2.2.2.1 i)))))) (it_mem L xs m' rw o g z)) : iw (d + 3) 116 0 [.ref 99, .int (ii i)] [] (it_mem L xs m rw o g z) Q := by
  have ei : (ii i).toNatClampNeg = i := ii_clamp (by omega)
  have b6 : it_inb L 126 (ii i) := ii_inb (by omega) (by rw [ln_126]; omega)
  obtain ⟨s1, s2, s3⟩ := hS.1 i hi
  have z1 : ¬ (1 : Int32) = 0 := by decide
  by_cases h0 : S.1 i = 0
  · have hfin := hQ m (fun _ _ => rfl)
    rw [bb_f (fun q => q.1 h0)] at hfin
    have q6 : m 126 i = 0 := by rw [s1, bb_f (fun q => q h0)]
    simp only [w116_0, w116_1, w116_4, w116_5, w116_6, w116_38, w116_39, isk_99, cv_99_0, cv_99_1, cv_99_2, cv_99_3, cv_99_4, cv_99_5, cv_99_6, cv_99_7, cv_99_8, cv_99_9, cv_99_10, cv_99_11, cv_99_12, cv_99_13, cv_99_14, cv_99_15, cv_99_16, cv_99_17, cv_99_18, cv_99_19, cv_99_20, cv_99_21, cv_99_22, cv_99_23, cv_99_24, cv_99_25, cv_99_26, cv_99_27, cv_99_28, cv_99_29, cv_99_30, cv_99_31, cv_99_32, cv_99_33, cv_99_34, cv_99_35, cv_99_36, cv_99_37, cv_99_38, cv_99_39, cv_99_40, cv_99_41, cv_99_42, cv_99_43, cv_99_44, cv_99_45, cv_99_46, isa_126, ln_126, cv_126, ↓reduceIte, true_and, and_true, vok_int, vok_b0, vok_b1, vok_bb, r_backI, r_backV, bb_eq0, Nat.reduceAdd, Nat.reduceMul, Nat.reduceEqDiff, not_true_eq_false, not_false_eq_true, if_true, if_false, false_and, and_false, c17, c98, b6, ei, q6]
    exact hfin
  · have q6 : m 126 i = 1 := by rw [s1, bb_t h0]
    obtain ⟨g1, g2, g3, -⟩ := s3 h0
    by_cases hn0 : n = 0
    · have hfin := hQ m (fun _ _ => rfl)
      rw [bb_t ⟨h0, Or.inl hn0⟩] at hfin
      have e0 : ii n = 0 := by rw [hn0]; rfl
      simp only [w116_0, w116_1, w116_4, w116_5, w116_6, w116_9, w116_10, w116_13, w116_34, w116_35, w116_38, w116_39, isk_99, cv_99_0, cv_99_1, cv_99_2, cv_99_3, cv_99_4, cv_99_5, cv_99_6, cv_99_7, cv_99_8, cv_99_9, cv_99_10, cv_99_11, cv_99_12, cv_99_13, cv_99_14, cv_99_15, cv_99_16, cv_99_17, cv_99_18, cv_99_19, cv_99_20, cv_99_21, cv_99_22, cv_99_23, cv_99_24, cv_99_25, cv_99_26, cv_99_27, cv_99_28, cv_99_29, cv_99_30, cv_99_31, cv_99_32, cv_99_33, cv_99_34, cv_99_35, cv_99_36, cv_99_37, cv_99_38, cv_99_39, cv_99_40, cv_99_41, cv_99_42, cv_99_43, cv_99_44, cv_99_45, cv_99_46, isa_126, ln_126, cv_126, ↓reduceIte, true_and, and_true, vok_int, vok_b0, vok_b1, vok_bb, r_backI, r_backV, bb_eq0, Nat.reduceAdd, Nat.reduceMul, Nat.reduceEqDiff, not_true_eq_false, not_false_eq_true, if_true, if_false, false_and, and_false, c17, c98, b6, ei, q6, z1, h5, eq_true e0]
      exact hfin
    · have e0 : ¬ ii n = 0 := fun q => hn0 ((ii_inj (b := 0) (by omega) (by decide)).mp q)
      obtain ⟨hq, c, hc⟩ := hw.resolve_left hn0
      have hx2 : it_hx 102 n i T true (-1) 0 (m 127 i, m 128 i, m 129 i) m := ⟨Or.inl rfl, hn, hx, hz, hi, rfl, rfl, rfl, Or.inr ⟨rfl, rfl⟩⟩
      have e00 : (0 : Int32) = ii 0 := rfl
      simp only [w116_0, w116_1, w116_4, w116_5, w116_6, w116_9, w116_10, w116_13, w116_16, w116_17, w116_18, w116_21, w116_22, w116_23, w116_26, w116_27, w116_28, isk_99, cv_99_0, cv_99_1, cv_99_2, cv_99_3, cv_99_4, cv_99_5, cv_99_6, cv_99_7, cv_99_8, cv_99_9, cv_99_10, cv_99_11, cv_99_12, cv_99_13, cv_99_14, cv_99_15, cv_99_16, cv_99_17, cv_99_18, cv_99_19, cv_99_20, cv_99_21, cv_99_22, cv_99_23, cv_99_24, cv_99_25, cv_99_26, cv_99_27, cv_99_28, cv_99_29, cv_99_30, cv_99_31, cv_99_32, cv_99_33, cv_99_34, cv_99_35, cv_99_36, cv_99_37, cv_99_38, cv_99_39, cv_99_40, cv_99_41, cv_99_42, cv_99_43, cv_99_44, cv_99_45, cv_99_46, isa_102, ln_102, cv_102, isa_126, ln_126, cv_126, ↓reduceIte, true_and, and_true, vok_int, vok_b0, vok_b1, vok_bb, r_backI, r_backV, bb_eq0, Nat.reduceAdd, Nat.reduceMul, Nat.reduceEqDiff, not_true_eq_false, not_false_eq_true, if_true, if_false, false_and, and_false, c17, c98, b6, ei, q6, z1, h5, e0]
      have h106 := c106 (d := d) (Q := iw_back (d + 3) 116 28 [.ref 99, .int (ii i)] [] Q) (L := L) (xs := xs) (rw := rw) (o := o) (g := g) (z := z) (p := 0) (v6 := .retAddr 0) (v7 := .retAddr 0) (v8 := .retAddr 0) (v9 := .retAddr 0) (v10 := .retAddr 0) (v11 := .retAddr 0) (v12 := .retAddr 0) hx2 (Nat.zero_le _) hc (Or.inl (by rw [hq]; exact Nat.le_refl _)) (fun m1 f1 => ?_)
      · exact h106
      · have hfin := hQ m1 f1
        have hv : c.2 (fun k v => hfit k v (m 127 i) (m 128 i) (m 129 i) (-1) 0) ↔ cqn n T (S.2.1 i) (S.2.2.1 i) (S.2.2.2.1 i) := by rw [g1, g2, g3]; exact cq_val hn0 hc _ _ _ _ _
        by_cases hcq : cqn n T (S.2.1 i) (S.2.2.1 i) (S.2.2.2.1 i)
        · rw [bb_t ⟨h0, hcq⟩] at hfin
          rw [bb_t (hv.mpr hcq)]
          simp only [↓reduceIte, true_and, and_true, vok_int, vok_b0, vok_b1, vok_bb, r_backI, r_backV, bb_eq0, Nat.reduceAdd, Nat.reduceMul, Nat.reduceEqDiff, not_true_eq_false, not_false_eq_true, if_true, if_false, false_and, and_false, c17, c98, w116_31, w116_34, w116_35, w116_38, w116_39, z1]
          exact hfin
        · rw [bb_f (fun q => hcq q.2)] at hfin
          rw [bb_f (fun q => hcq (hv.mp q))]
          simp only [↓reduceIte, true_and, and_true, vok_int, vok_b0, vok_b1, vok_bb, r_backI, r_backV, bb_eq0, Nat.reduceAdd, Nat.reduceMul, Nat.reduceEqDiff, not_true_eq_false, not_false_eq_true, if_true, if_false, false_and, and_false, c17, c98, w116_31, w116_34, w116_35, w116_38, w116_39]
          exact hfin
theorem c115L {S : FST} {D : Nat → Prop} {m0 : Nat → Nat → Int32} {v1 : Value} (hn : n ≤ 120) (h5 : m0 99 5 = ii n) (hx : ∀ j, j < n → m0 102 j = ii (T j)) (hz : ∀ j, n ≤ j → T j = 0) (hw : wll n T) (hS : it_MR 48 m0 S D)
    (hQ : ∀ m', (∀ a, a ≠ 99 → a < 104 ∨ (107 ≤ a ∧ a ≠ 133) → m' a = m0 a) → (∀ k, k ≠ 45 → m' 99 k = m0 99 k) → m' 99 45 = ii (srch (fun i => S.1 i ≠ 0 ∧ cqn n T (S.2.1 i) (S.2.2.1 i) (S.2.2.2.1 i)) S.2.2.1 48).1 → (∀ j, j < (srch (fun i => S.1 i ≠ 0 ∧ cqn n T (S.2.1 i) (S.2.2.1 i) (S.2.2.2.1 i)) S.2.2.1 48).1 → m' 133 j = ii ((srch (fun i => S.1 i ≠ 0 ∧ cqn n T (S.2.1 i) (S.2.2.1 i) (S.2.2.2.1 i)) S.2.2.1 48).2 j)) → Q (.inl (some (.int (ii (srch (fun i => S.1 i ≠ 0 ∧ cqn n T (S.2.1 i) (S.2.2.1 i) (S.2.2.2.1 i)) S.2.2.1 48).1)))) (it_mem L xs m' rw o g z)) :
    ∀ (k i : Nat) (m : Nat → Nat → Int32), i + k = 48 → (∀ a, a ≠ 99 → a < 104 ∨ (107 ≤ a ∧ a ≠ 133) → m a = m0 a) → (∀ k, k ≠ 45 → m 99 k = m0 99 k) → m 99 45 = ii (srch (fun i => S.1 i ≠ 0 ∧ cqn n T (S.2.1 i) (S.2.2.1 i) (S.2.2.2.1 i)) S.2.2.1 i).1 → (∀ j, j < (srch (fun i => S.1 i ≠ 0 ∧ cqn n T (S.2.1 i) (S.2.2.1 i) (S.2.2.2.1 i)) S.2.2.1 i).1 → m 133 j = ii ((srch (fun i => S.1 i ≠ 0 ∧ cqn n T (S.2.1 i) (S.2.2.1 i) (S.2.2.2.1 i)) S.2.2.1 i).2 j)) →
      iw (d + 4) 115 117 [.ref 99, v1, .int (ii i)] [] (it_mem L xs m rw o g z) Q := by
  intro k
  induction k with
  | zero =>
    intro i m hi hm h9 h1 h2
    obtain rfl : i = 48 := by omega
    have e1 : (48 : Int32) ≤ ii 48 := by decide
    rw [w115_117]
    simp only [w115_118, w115_120, w115_142, w115_143, w115_146, isk_99, cv_99_0, cv_99_1, cv_99_2, cv_99_3, cv_99_4, cv_99_5, cv_99_6, cv_99_7, cv_99_8, cv_99_9, cv_99_10, cv_99_11, cv_99_12, cv_99_13, cv_99_14, cv_99_15, cv_99_16, cv_99_17, cv_99_18, cv_99_19, cv_99_20, cv_99_21, cv_99_22, cv_99_23, cv_99_24, cv_99_25, cv_99_26, cv_99_27, cv_99_28, cv_99_29, cv_99_30, cv_99_31, cv_99_32, cv_99_33, cv_99_34, cv_99_35, cv_99_36, cv_99_37, cv_99_38, cv_99_39, cv_99_40, cv_99_41, cv_99_42, cv_99_43, cv_99_44, cv_99_45, cv_99_46, ↓reduceIte, true_and, and_true, vok_int, vok_b0, vok_b1, vok_bb, r_backI, r_backV, bb_eq0, Nat.reduceAdd, Nat.reduceMul, Nat.reduceEqDiff, not_true_eq_false, not_false_eq_true, if_true, if_false, false_and, and_false, c17, c98, e1, h1]
    exact hQ m hm h9 h1 h2
  | succ k ih =>
    intro i m hi hm h9 h1 h2
    have hi48 : i < 48 := by omega
    have e1 : ¬ (48 : Int32) ≤ ii i := by rw [lit_48, ii_le (by decide) (by omega)]; omega
    have e2 : ii i + 1 = ii (i + 1) := ii_add (b := 1)
    obtain ⟨o1, o2⟩ := srch_ok (cond := fun i => S.1 i ≠ 0 ∧ cqn n T (S.2.1 i) (S.2.2.1 i) (S.2.2.2.1 i)) (pr := S.2.2.1) i
    rw [w115_117]
    simp only [w115_118, w115_120, w115_123, w115_124, w115_125, isk_99, cv_99_0, cv_99_1, cv_99_2, cv_99_3, cv_99_4, cv_99_5, cv_99_6, cv_99_7, cv_99_8, cv_99_9, cv_99_10, cv_99_11, cv_99_12, cv_99_13, cv_99_14, cv_99_15, cv_99_16, cv_99_17, cv_99_18, cv_99_19, cv_99_20, cv_99_21, cv_99_22, cv_99_23, cv_99_24, cv_99_25, cv_99_26, cv_99_27, cv_99_28, cv_99_29, cv_99_30, cv_99_31, cv_99_32, cv_99_33, cv_99_34, cv_99_35, cv_99_36, cv_99_37, cv_99_38, cv_99_39, cv_99_40, cv_99_41, cv_99_42, cv_99_43, cv_99_44, cv_99_45, cv_99_46, ↓reduceIte, true_and, and_true, vok_int, vok_b0, vok_b1, vok_bb, r_backI, r_backV, bb_eq0, Nat.reduceAdd, Nat.reduceMul, Nat.reduceEqDiff, not_true_eq_false, not_false_eq_true, if_true, if_false, false_and, and_false, c17, c98, e1]
    refine c116 (S := S) (D := D) hi48 hn (by rw [h9 5 (by decide)]; exact h5) (fun j hj => by rw [hm 102 (by decide) (by omega)]; exact hx j hj) hz hw (MR_cong hS (fun a q1 q2 => hm a (by omega) (by omega)) (fun _ h => h)) (fun m1 f1 => ?_)
    have hm1 : ∀ a, a ≠ 99 → a < 104 ∨ (107 ≤ a ∧ a ≠ 133) → m1 a = m0 a := fun a q1 q2 => by rw [f1 a (by omega), hm a q1 q2]
    have h91 : ∀ k, k ≠ 45 → m1 99 k = m0 99 k := fun k hk => by rw [f1 99 (by omega), h9 k hk]
    have h11 : m1 99 45 = ii (srch (fun i => S.1 i ≠ 0 ∧ cqn n T (S.2.1 i) (S.2.2.1 i) (S.2.2.2.1 i)) S.2.2.1 i).1 := by rw [f1 99 (by omega)]; exact h1
    have h21 : ∀ j, j < (srch (fun i => S.1 i ≠ 0 ∧ cqn n T (S.2.1 i) (S.2.2.1 i) (S.2.2.2.1 i)) S.2.2.1 i).1 → m1 133 j = ii ((srch (fun i => S.1 i ≠ 0 ∧ cqn n T (S.2.1 i) (S.2.2.1 i) (S.2.2.2.1 i)) S.2.2.1 i).2 j) := fun j hj => by rw [f1 133 (by omega)]; exact h2 j hj
    by_cases hcd : S.1 i ≠ 0 ∧ cqn n T (S.2.1 i) (S.2.2.1 i) (S.2.2.2.1 i)
    · rw [bb_t hcd]
      simp only [↓reduceIte, true_and, and_true, vok_int, vok_b0, vok_b1, vok_bb, r_backI, r_backV, bb_eq0, Nat.reduceAdd, Nat.reduceMul, Nat.reduceEqDiff, not_true_eq_false, not_false_eq_true, if_true, if_false, false_and, and_false, c17, c98, w115_128, w115_131, w115_132, w115_133, isk_99, cv_99_0, cv_99_1, cv_99_2, cv_99_3, cv_99_4, cv_99_5, cv_99_6, cv_99_7, cv_99_8, cv_99_9, cv_99_10, cv_99_11, cv_99_12, cv_99_13, cv_99_14, cv_99_15, cv_99_16, cv_99_17, cv_99_18, cv_99_19, cv_99_20, cv_99_21, cv_99_22, cv_99_23, cv_99_24, cv_99_25, cv_99_26, cv_99_27, cv_99_28, cv_99_29, cv_99_30, cv_99_31, cv_99_32, cv_99_33, cv_99_34, cv_99_35, cv_99_36, cv_99_37, cv_99_38, cv_99_39, cv_99_40, cv_99_41, cv_99_42, cv_99_43, cv_99_44, cv_99_45, cv_99_46, n_m1_0, n_m1_1, n_m1_2, n_m1_3, n_m1_4, n_m1_5, n_m1_6, n_0_m1, n_0_1, n_0_2, n_0_3, n_0_4, n_0_5, n_0_6, n_1_m1, n_1_0, n_1_2, n_1_3, n_1_4, n_1_5, n_1_6, n_2_m1, n_2_0, n_2_1, n_2_3, n_2_4, n_2_5, n_2_6, n_3_m1, n_3_0, n_3_1, n_3_2, n_3_4, n_3_5, n_3_6, n_4_m1, n_4_0, n_4_1, n_4_2, n_4_3, n_4_5, n_4_6, n_5_m1, n_5_0, n_5_1, n_5_2, n_5_3, n_5_4, n_5_6, n_6_m1, n_6_0, n_6_1, n_6_2, n_6_3, n_6_4, n_6_5]
      have p128 : ∀ x, x < 48 → S.1 x ≠ 0 → m1 128 x = S.2.2.1 x := fun x hx48 hx0 => by rw [hm1 128 (by decide) (by omega)]; exact ((hS.1 x hx48).2.2 hx0).2.1
      refine c117 (K := (srch (fun i => S.1 i ≠ 0 ∧ cqn n T (S.2.1 i) (S.2.2.1 i) (S.2.2.2.1 i)) S.2.2.1 i).1) (pr := S.2.2.1) (f := (srch (fun i => S.1 i ≠ 0 ∧ cqn n T (S.2.1 i) (S.2.2.1 i) (S.2.2.2.1 i)) S.2.2.1 i).2) (by omega) hi48 h11 (p128 i hi48 hcd.1) (fun j hj => ?_) (fun m2 k1 k9 k2 k3 => ?_)
      · obtain ⟨s1, s2, s3⟩ := o2 j hj
        exact ⟨h21 j hj, by omega, p128 _ (by omega) s2⟩
      · simp only [↓reduceIte, true_and, and_true, vok_int, vok_b0, vok_b1, vok_bb, r_backI, r_backV, bb_eq0, Nat.reduceAdd, Nat.reduceMul, Nat.reduceEqDiff, not_true_eq_false, not_false_eq_true, if_true, if_false, false_and, and_false, c17, c98, w115_136, w115_139, e2]
        refine ih (i + 1) m2 (by omega) (fun a q1 q2 => by rw [k1 a q1 (by omega), hm1 a q1 q2]) (fun k hk => by rw [k9 k hk, h91 k hk]) ?_ ?_
        · rw [srch_t hcd]; exact k2
        · rw [srch_t hcd]
          intro j hj
          exact k3 j (by dsimp only at hj; omega)
    · rw [bb_f hcd]
      simp only [↓reduceIte, true_and, and_true, vok_int, vok_b0, vok_b1, vok_bb, r_backI, r_backV, bb_eq0, Nat.reduceAdd, Nat.reduceMul, Nat.reduceEqDiff, not_true_eq_false, not_false_eq_true, if_true, if_false, false_and, and_false, c17, c98, w115_128, w115_131, w115_132, w115_133, w115_136, w115_139, e2]
      exact ih (i + 1) m1 (by omega) hm1 h91 (by rw [srch_f hcd]; exact h11) (by rw [srch_f hcd]; exact h21)
/-- what the reference's query leaves as it is -/
def it_qf (mi m' : Nat → Nat → Int32) : Prop := (∀ a, a ≠ 99 → ¬ (102 ≤ a ∧ a ≤ 106) → ¬ (126 ≤ a ∧ a ≤ 133) → m' a = mi a) ∧ (∀ k, k ≠ 0 → k ≠ 3 → k ≠ 5 → k ≠ 7 → k ≠ 8 → k ≠ 9 → k ≠ 10 → k ≠ 45 → m' 99 k = mi 99 k) ∧ m' 99 3 = 0
theorem c115 {a : Int32} {t : List Nat} {mi : Nat → Nat → Int32} {S : Nat → FST} {D : Nat → Nat → Prop} {v2 : Value} (ht : t.length ≤ 40) (h3 : mi 99 3 = ii t.length) (hch : ∀ c, c ∈ t → 32 ≤ c ∧ c ≤ 126) (hd : ∀ j, j < t.length → mi 101 j = ii (t.getD j 0))
    (hf : ∀ (p : Nat) (m1 : Nat → Nat → Int32) (Q' : im_O → im_M → Prop), p < 3 → (∀ a, 107 ≤ a → m1 a = mi a) → m1 99 16 = mi 99 16 → m1 99 20 = mi 99 20 → (∀ mi', (∀ a, a < 104 ∨ (107 ≤ a ∧ a ≤ 125) ∨ 133 ≤ a → mi' a = m1 a) → it_MR 48 mi' (S p) (D p) → Q' (.inl none) (it_mem L xs mi' rw o g z)) → iw (d + 3) 102 0 [.ref 99, .int (ii p), .retAddr 0, .retAddr 0, .retAddr 0, .retAddr 0, .retAddr 0] [] (it_mem L xs m1 rw o g z) Q')
    (hA : ¬ (0 ≤ a ∧ a < 3) → ∀ m', it_qf mi m' → m' 99 0 = 1 → m' 99 10 = -1 → m' 99 45 = 0 → Q (.inl (some (.int 0))) (it_mem L xs m' rw o g z))
    (hB : (0 ≤ a ∧ a < 3) → ¬ wll (t.filter (· ≠ 32)).length (chs t) → ∀ m', it_qf mi m' → m' 99 0 = 1 → m' 99 10 = ii (pC true (chs t) (t.filter (· ≠ 32)).length 6 0).1 → m' 99 45 = 0 → Q (.inl (some (.int 0))) (it_mem L xs m' rw o g z))
    (hC : ∀ p, p < 3 → a = ii p → wll (t.filter (· ≠ 32)).length (chs t) → ∀ m', it_qf mi m' → m' 99 0 = 0 → m' 99 10 = -1 → m' 99 45 = ii (srch (fun i => (S p).1 i ≠ 0 ∧ cqn (t.filter (· ≠ 32)).length (chs t) ((S p).2.1 i) ((S p).2.2.1 i) ((S p).2.2.2.1 i)) (S p).2.2.1 48).1 → (∀ j, j < (srch (fun i => (S p).1 i ≠ 0 ∧ cqn (t.filter (· ≠ 32)).length (chs t) ((S p).2.1 i) ((S p).2.2.1 i) ((S p).2.2.2.1 i)) (S p).2.2.1 48).1 → m' 133 j = ii ((srch (fun i => (S p).1 i ≠ 0 ∧ cqn (t.filter (· ≠ 32)).length (chs t) ((S p).2.1 i) ((S p).2.2.1 i) ((S p).2.2.2.1 i)) (S p).2.2.1 48).2 j)) → Q (.inl (some (.int (ii (srch (fun i => (S p).1 i ≠ 0 ∧ cqn (t.filter (· ≠ 32)).length (chs t) ((S p).2.1 i) ((S p).2.2.1 i) ((S p).2.2.2.1 i)) (S p).2.2.1 48).1)))) (it_mem L xs m' rw o g z)) :
    iw (d + 4) 115 0 [.ref 99, .int a, v2] [] (it_mem L xs mi rw o g z) Q := by
  have hn120 : (t.filter (· ≠ 32)).length ≤ 40 := Nat.le_trans (List.length_filter_le _ _) ht
  have h30 : it_up mi 99 0 0 99 3 = ii t.length := by rw [it_up_s, if_neg (by decide)]; exact h3
  simp only [w115_0, w115_1, w115_2, w115_5, w115_6, w115_7, w115_10, w115_11, w115_14, isk_99, cv_99_0, cv_99_1, cv_99_2, cv_99_3, cv_99_4, cv_99_5, cv_99_6, cv_99_7, cv_99_8, cv_99_9, cv_99_10, cv_99_11, cv_99_12, cv_99_13, cv_99_14, cv_99_15, cv_99_16, cv_99_17, cv_99_18, cv_99_19, cv_99_20, cv_99_21, cv_99_22, cv_99_23, cv_99_24, cv_99_25, cv_99_26, cv_99_27, cv_99_28, cv_99_29, cv_99_30, cv_99_31, cv_99_32, cv_99_33, cv_99_34, cv_99_35, cv_99_36, cv_99_37, cv_99_38, cv_99_39, cv_99_40, cv_99_41, cv_99_42, cv_99_43, cv_99_44, cv_99_45, cv_99_46, isa_101, ln_101, cv_101, ↓reduceIte, true_and, and_true, vok_int, vok_b0, vok_b1, vok_bb, r_backI, r_backV, bb_eq0, Nat.reduceAdd, Nat.reduceMul, Nat.reduceEqDiff, not_true_eq_false, not_false_eq_true, if_true, if_false, false_and, and_false, c17, c98, h30]
  refine c88 (t := t) (Or.inr rfl) rfl (by omega) (by rw [ln_101]; exact ht) (fun c hc => by have := hch c hc; omega) (fun j hj => by rw [it_up_f _ _ _ (by decide)]; exact hd j hj) (fun m1 f1 f9 f5 f7 f8 fx => ?_)
  generalize hnn : (t.filter (· ≠ 32)).length = n at *
  have g1 : ∀ a, a ≠ 99 → a ≠ 102 → m1 a = mi a := fun a q1 q2 => by rw [f1 a q1 q2, it_up_f _ _ _ q1]
  have g9 : ∀ k, k ≠ 0 → k ≠ 5 → k ≠ 7 → k ≠ 8 → m1 99 k = mi 99 k := fun k q0 q1 q2 q3 => by rw [f9 k q1 q2 q3, it_up_s, if_neg q0]
  have g0 : m1 99 0 = 0 := by rw [f9 0 (by decide) (by decide) (by decide), it_up_same]
  have hz : ∀ j, n ≤ j → chs t j = 0 := fun j hj => chs_z (by rw [hnn]; exact hj)
  simp only [↓reduceIte, true_and, and_true, vok_int, vok_b0, vok_b1, vok_bb, r_backI, r_backV, bb_eq0, Nat.reduceAdd, Nat.reduceMul, Nat.reduceEqDiff, not_true_eq_false, not_false_eq_true, if_true, if_false, false_and, and_false, c17, c98, w115_17, w115_18, w115_19, w115_22, w115_23, w115_24, w115_27, w115_28, w115_29, w115_32, w115_33, w115_34, w115_37, isk_99, cv_99_0, cv_99_1, cv_99_2, cv_99_3, cv_99_4, cv_99_5, cv_99_6, cv_99_7, cv_99_8, cv_99_9, cv_99_10, cv_99_11, cv_99_12, cv_99_13, cv_99_14, cv_99_15, cv_99_16, cv_99_17, cv_99_18, cv_99_19, cv_99_20, cv_99_21, cv_99_22, cv_99_23, cv_99_24, cv_99_25, cv_99_26, cv_99_27, cv_99_28, cv_99_29, cv_99_30, cv_99_31, cv_99_32, cv_99_33, cv_99_34, cv_99_35, cv_99_36, cv_99_37, cv_99_38, cv_99_39, cv_99_40, cv_99_41, cv_99_42, cv_99_43, cv_99_44, cv_99_45, cv_99_46, wb3]
  by_cases h : 0 ≤ a ∧ a < 3
  · obtain ⟨p, hp, rfl⟩ := below (b := 3) rfl (by decide) h
    simp only [eq_true h, ↓reduceIte, true_and, and_true, vok_int, vok_b0, vok_b1, vok_bb, r_backI, r_backV, bb_eq0, Nat.reduceAdd, Nat.reduceMul, Nat.reduceEqDiff, not_true_eq_false, not_false_eq_true, if_true, if_false, false_and, and_false, c17, c98, w115_37, w115_40, w115_41, w115_42, w115_45, w115_46, w115_47, w115_48, w115_51, w115_52, isk_99, cv_99_0, cv_99_1, cv_99_2, cv_99_3, cv_99_4, cv_99_5, cv_99_6, cv_99_7, cv_99_8, cv_99_9, cv_99_10, cv_99_11, cv_99_12, cv_99_13, cv_99_14, cv_99_15, cv_99_16, cv_99_17, cv_99_18, cv_99_19, cv_99_20, cv_99_21, cv_99_22, cv_99_23, cv_99_24, cv_99_25, cv_99_26, cv_99_27, cv_99_28, cv_99_29, cv_99_30, cv_99_31, cv_99_32, cv_99_33, cv_99_34, cv_99_35, cv_99_36, cv_99_37, cv_99_38, cv_99_39, cv_99_40, cv_99_41, cv_99_42, cv_99_43, cv_99_44, cv_99_45, cv_99_46]
    have q5 : it_up (it_up (it_up (it_up m1 99 3 0) 99 45 0) 99 10 (-1)) 99 9 1 99 5 = ii n := by
      rw [it_up_s, if_neg (by decide), it_up_s, if_neg (by decide), it_up_s, if_neg (by decide), it_up_s, if_neg (by decide)]
      exact f5
    have q7 : it_up (it_up (it_up (it_up m1 99 3 0) 99 45 0) 99 10 (-1)) 99 9 1 99 7 = ii 0 := by
      rw [it_up_s, if_neg (by decide), it_up_s, if_neg (by decide), it_up_s, if_neg (by decide), it_up_s, if_neg (by decide)]
      exact f7
    have q8 : it_up (it_up (it_up (it_up m1 99 3 0) 99 45 0) 99 10 (-1)) 99 9 1 99 8 = 0 := by
      rw [it_up_s, if_neg (by decide), it_up_s, if_neg (by decide), it_up_s, if_neg (by decide), it_up_s, if_neg (by decide)]
      exact f8
    have q10 : it_up (it_up (it_up (it_up m1 99 3 0) 99 45 0) 99 10 (-1)) 99 9 1 99 10 = -1 := by
      rw [it_up_s, if_neg (by decide), it_up_same]
    have q45 : it_up (it_up (it_up (it_up m1 99 3 0) 99 45 0) 99 10 (-1)) 99 9 1 99 45 = 0 := by
      rw [it_up_s, if_neg (by decide), it_up_s, if_neg (by decide), it_up_same]
    have q3 : it_up (it_up (it_up (it_up m1 99 3 0) 99 45 0) 99 10 (-1)) 99 9 1 99 3 = 0 := by
      rw [it_up_s, if_neg (by decide), it_up_s, if_neg (by decide), it_up_s, if_neg (by decide), it_up_same]
    have q0 : it_up (it_up (it_up (it_up m1 99 3 0) 99 45 0) 99 10 (-1)) 99 9 1 99 0 = 0 := by
      rw [it_up_s, if_neg (by decide), it_up_s, if_neg (by decide), it_up_s, if_neg (by decide), it_up_s, if_neg (by decide)]
      exact g0
    have qk : ∀ k, k ≠ 0 → k ≠ 3 → k ≠ 5 → k ≠ 7 → k ≠ 8 → k ≠ 9 → k ≠ 10 → k ≠ 45 → it_up (it_up (it_up (it_up m1 99 3 0) 99 45 0) 99 10 (-1)) 99 9 1 99 k = mi 99 k := fun k c0 c3 c5 c7 c8 c9 c10 c45 => by
      rw [it_up_s, if_neg c9, it_up_s, if_neg c10, it_up_s, if_neg c45, it_up_s, if_neg c3]
      exact g9 k c0 c5 c7 c8
    have qa : ∀ a, a ≠ 99 → a ≠ 102 → it_up (it_up (it_up (it_up m1 99 3 0) 99 45 0) 99 10 (-1)) 99 9 1 a = mi a := fun a c1 c2 => by
      rw [it_up_f _ _ _ c1, it_up_f _ _ _ c1, it_up_f _ _ _ c1, it_up_f _ _ _ c1]
      exact g1 a c1 c2
    have qx : it_mx n (chs t) true (it_up (it_up (it_up (it_up m1 99 3 0) 99 45 0) 99 10 (-1)) 99 9 1) := by
      refine ⟨by omega, q5, by rw [it_up_same, bb_t rfl], fun j hj => ?_, hz, chs_lt hch⟩
      rw [it_up_f _ _ _ (by decide), it_up_f _ _ _ (by decide), it_up_f _ _ _ (by decide), it_up_f _ _ _ (by decide)]
      exact fx j hj
    generalize hM : it_up (it_up (it_up (it_up m1 99 3 0) 99 45 0) 99 10 (-1)) 99 9 1 = M at *
    -- behind the reading
    have tail : ∀ m2, it_mf M m2 → ∀ q, q ≤ n → m2 99 7 = ii q → (m2 99 8 = 1 ∨ m2 99 8 = 0) → (wll n (chs t) ↔ (m2 99 8 = 0 ∧ q = n)) → (¬ wll n (chs t) → q = (pC true (chs t) n 6 0).1) → iw (d + 4) 115 62 [.ref 99, .int (ii p), v2] [] (it_mem L xs m2 rw o g z) Q := by
      intro m2 k1 q hq k7 k8 kw kq
      have k5 : m2 99 5 = ii n := by rw [k1.2 5 (by decide) (by decide)]; exact q5
      have qf2 : ∀ m3, (∀ a, a ≠ 99 → ¬ (102 ≤ a ∧ a ≤ 106) → ¬ (126 ≤ a ∧ a ≤ 133) → m3 a = m2 a) → (∀ k, k ≠ 0 → k ≠ 3 → k ≠ 5 → k ≠ 7 → k ≠ 8 → k ≠ 9 → k ≠ 10 → k ≠ 45 → m3 99 k = m2 99 k) → m3 99 3 = m2 99 3 → it_qf mi m3 := by
        intro m3 l1 l2 l3
        refine ⟨fun a c1 c2 c3 => ?_, fun k c0 c3 c5 c7 c8 c9 c10 c45 => ?_, ?_⟩
        · rw [l1 a c1 c2 c3, k1.1 a c1 (by omega), qa a c1 (by omega)]
        · rw [l2 k c0 c3 c5 c7 c8 c9 c10 c45, k1.2 k c7 c8, qk k c0 c3 c5 c7 c8 c9 c10 c45]
        · rw [l3, k1.2 3 (by decide) (by decide), q3]
      by_cases hw : wll n (chs t)
      · obtain ⟨w8, wq⟩ := kw.mp hw
        have e1 : ii n ≤ ii q := by rw [wq]; exact (ii_le (by omega) (by omega)).mpr (Nat.le_refl _)
        have up0 : it_up m2 99 8 0 = m2 := up_id w8
        simp only [w115_62, w115_63, w115_64, w115_67, w115_70, w115_71, w115_74, w115_75, w115_78, w115_81, w115_82, w115_85, w115_86, w115_89, w115_90, w115_93, w115_96, w115_97, w115_98, w115_101, w115_104, w115_105, w115_106, w115_109, w115_110, w115_111, w115_112, isk_99, cv_99_0, cv_99_1, cv_99_2, cv_99_3, cv_99_4, cv_99_5, cv_99_6, cv_99_7, cv_99_8, cv_99_9, cv_99_10, cv_99_11, cv_99_12, cv_99_13, cv_99_14, cv_99_15, cv_99_16, cv_99_17, cv_99_18, cv_99_19, cv_99_20, cv_99_21, cv_99_22, cv_99_23, cv_99_24, cv_99_25, cv_99_26, cv_99_27, cv_99_28, cv_99_29, cv_99_30, cv_99_31, cv_99_32, cv_99_33, cv_99_34, cv_99_35, cv_99_36, cv_99_37, cv_99_38, cv_99_39, cv_99_40, cv_99_41, cv_99_42, cv_99_43, cv_99_44, cv_99_45, cv_99_46, ↓reduceIte, true_and, and_true, vok_int, vok_b0, vok_b1, vok_bb, r_backI, r_backV, bb_eq0, Nat.reduceAdd, Nat.reduceMul, Nat.reduceEqDiff, not_true_eq_false, not_false_eq_true, if_true, if_false, false_and, and_false, c17, c98, w8, k7, k5, e1, up0]
        refine hf p m2 _ hp (fun a ha => by rw [k1.1 a (by omega) (by omega), qa a (by omega) (by omega)]) (by rw [k1.2 16 (by decide) (by decide), qk 16 (by decide) (by decide) (by decide) (by decide) (by decide) (by decide) (by decide) (by decide)]) (by rw [k1.2 20 (by decide) (by decide), qk 20 (by decide) (by decide) (by decide) (by decide) (by decide) (by decide) (by decide) (by decide)]) (fun m3 l1 l2 => ?_)
        have l9 : ∀ k, m3 99 k = m2 99 k := fun k => by rw [l1 99 (by omega)]
        simp only [↓reduceIte, true_and, and_true, vok_int, vok_b0, vok_b1, vok_bb, r_backI, r_backV, bb_eq0, Nat.reduceAdd, Nat.reduceMul, Nat.reduceEqDiff, not_true_eq_false, not_false_eq_true, if_true, if_false, false_and, and_false, c17, c98, w115_115, w115_116]
        have hgo := c115L (d := d) (Q := Q) (L := L) (xs := xs) (rw := rw) (o := o) (g := g) (z := z) (n := n) (T := chs t) (S := S p) (D := D p) (m0 := m3) (v1 := .int (ii p)) (by omega) (by rw [l9]; exact k5) (fun j hj => by rw [l1 102 (by omega), k1.1 102 (by decide) (by decide)]; exact qx.2.2.2.1 j hj) hz hw l2 (fun m4 r1 r9 r2 r3 => ?_) 48 0 m3 (by decide) (fun _ _ _ => rfl) (fun _ _ => rfl) (by rw [l9, k1.2 45 (by decide) (by decide), q45]; rfl) (fun j hj => absurd hj (Nat.not_lt_zero _))
        · exact hgo
        · refine hC p hp rfl hw m4 (qf2 m4 (fun a c1 c2 c3 => ?_) (fun k c0 c3 c5 c7 c8 c9 c10 c45 => ?_) ?_) ?_ ?_ r2 r3
          · rw [r1 a c1 (by omega), l1 a (by omega)]
          · rw [r9 k c45, l9]
          · rw [r9 3 (by decide), l9]
          · rw [r9 0 (by decide), l9, k1.2 0 (by decide) (by decide), q0]
          · rw [r9 10 (by decide), l9, k1.2 10 (by decide) (by decide), q10]
      · have hbad := fun h => hw (kw.mpr h)
        have hq9 := kq hw
        have fin : Q (.inl (some (.int 0))) (it_mem L xs (it_up (it_up (it_up m2 99 8 1) 99 10 (ii q)) 99 0 1) rw o g z) := by
          refine hB h hw _ (qf2 _ (fun a c1 _ _ => ?_) (fun k c0 c3 c5 c7 c8 c9 c10 c45 => ?_) ?_) (it_up_same _ _ _ _) ?_ ?_
          · rw [it_up_f _ _ _ c1, it_up_f _ _ _ c1, it_up_f _ _ _ c1]
          · rw [it_up_s, if_neg c0, it_up_s, if_neg c10, it_up_s, if_neg c8]
          · rw [it_up_s, if_neg (by decide), it_up_s, if_neg (by decide), it_up_s, if_neg (by decide)]
          · rw [it_up_s, if_neg (by decide), it_up_same, hq9]
          · rw [it_up_s, if_neg (by decide), it_up_s, if_neg (by decide), it_up_s, if_neg (by decide), k1.2 45 (by decide) (by decide), q45]
        have k71 : it_up m2 99 8 1 99 7 = ii q := by rw [it_up_s, if_neg (by decide)]; exact k7
        rcases k8 with k8 | k8
        · simp only [w115_62, w115_63, w115_64, w115_67, w115_70, w115_71, w115_74, w115_75, w115_78, w115_81, w115_82, w115_85, w115_86, w115_89, w115_90, w115_93, w115_96, w115_97, w115_98, w115_101, w115_104, w115_105, w115_106, w115_109, isk_99, cv_99_0, cv_99_1, cv_99_2, cv_99_3, cv_99_4, cv_99_5, cv_99_6, cv_99_7, cv_99_8, cv_99_9, cv_99_10, cv_99_11, cv_99_12, cv_99_13, cv_99_14, cv_99_15, cv_99_16, cv_99_17, cv_99_18, cv_99_19, cv_99_20, cv_99_21, cv_99_22, cv_99_23, cv_99_24, cv_99_25, cv_99_26, cv_99_27, cv_99_28, cv_99_29, cv_99_30, cv_99_31, cv_99_32, cv_99_33, cv_99_34, cv_99_35, cv_99_36, cv_99_37, cv_99_38, cv_99_39, cv_99_40, cv_99_41, cv_99_42, cv_99_43, cv_99_44, cv_99_45, cv_99_46, ↓reduceIte, true_and, and_true, vok_int, vok_b0, vok_b1, vok_bb, r_backI, r_backV, bb_eq0, Nat.reduceAdd, Nat.reduceMul, Nat.reduceEqDiff, not_true_eq_false, not_false_eq_true, if_true, if_false, false_and, and_false, c17, c98, n_m1_0, n_m1_1, n_m1_2, n_m1_3, n_m1_4, n_m1_5, n_m1_6, n_0_m1, n_0_1, n_0_2, n_0_3, n_0_4, n_0_5, n_0_6, n_1_m1, n_1_0, n_1_2, n_1_3, n_1_4, n_1_5, n_1_6, n_2_m1, n_2_0, n_2_1, n_2_3, n_2_4, n_2_5, n_2_6, n_3_m1, n_3_0, n_3_1, n_3_2, n_3_4, n_3_5, n_3_6, n_4_m1, n_4_0, n_4_1, n_4_2, n_4_3, n_4_5, n_4_6, n_5_m1, n_5_0, n_5_1, n_5_2, n_5_3, n_5_4, n_5_6, n_6_m1, n_6_0, n_6_1, n_6_2, n_6_3, n_6_4, n_6_5, k8, it_up_same, k71, c87]
          exact fin
        · have e1 : ¬ ii n ≤ ii q := by
            rw [ii_le (by omega) (by omega)]
            intro h9
            exact hbad ⟨k8, by omega⟩
          simp only [w115_62, w115_63, w115_64, w115_67, w115_70, w115_71, w115_74, w115_75, w115_78, w115_81, w115_82, w115_85, w115_86, w115_89, w115_90, w115_93, w115_96, w115_97, w115_98, w115_101, w115_104, w115_105, w115_106, w115_109, isk_99, cv_99_0, cv_99_1, cv_99_2, cv_99_3, cv_99_4, cv_99_5, cv_99_6, cv_99_7, cv_99_8, cv_99_9, cv_99_10, cv_99_11, cv_99_12, cv_99_13, cv_99_14, cv_99_15, cv_99_16, cv_99_17, cv_99_18, cv_99_19, cv_99_20, cv_99_21, cv_99_22, cv_99_23, cv_99_24, cv_99_25, cv_99_26, cv_99_27, cv_99_28, cv_99_29, cv_99_30, cv_99_31, cv_99_32, cv_99_33, cv_99_34, cv_99_35, cv_99_36, cv_99_37, cv_99_38, cv_99_39, cv_99_40, cv_99_41, cv_99_42, cv_99_43, cv_99_44, cv_99_45, cv_99_46, ↓reduceIte, true_and, and_true, vok_int, vok_b0, vok_b1, vok_bb, r_backI, r_backV, bb_eq0, Nat.reduceAdd, Nat.reduceMul, Nat.reduceEqDiff, not_true_eq_false, not_false_eq_true, if_true, if_false, false_and, and_false, c17, c98, n_m1_0, n_m1_1, n_m1_2, n_m1_3, n_m1_4, n_m1_5, n_m1_6, n_0_m1, n_0_1, n_0_2, n_0_3, n_0_4, n_0_5, n_0_6, n_1_m1, n_1_0, n_1_2, n_1_3, n_1_4, n_1_5, n_1_6, n_2_m1, n_2_0, n_2_1, n_2_3, n_2_4, n_2_5, n_2_6, n_3_m1, n_3_0, n_3_1, n_3_2, n_3_4, n_3_5, n_3_6, n_4_m1, n_4_0, n_4_1, n_4_2, n_4_3, n_4_5, n_4_6, n_5_m1, n_5_0, n_5_1, n_5_2, n_5_3, n_5_4, n_5_6, n_6_m1, n_6_0, n_6_1, n_6_2, n_6_3, n_6_4, n_6_5, k8, k7, k5, e1, it_up_same, k71, c87]
          exact fin
    by_cases hn0 : n = 0
    · have e0 : ii n ≤ 0 := by rw [hn0]; decide
      simp only [w115_52, w115_55, isk_99, cv_99_0, cv_99_1, cv_99_2, cv_99_3, cv_99_4, cv_99_5, cv_99_6, cv_99_7, cv_99_8, cv_99_9, cv_99_10, cv_99_11, cv_99_12, cv_99_13, cv_99_14, cv_99_15, cv_99_16, cv_99_17, cv_99_18, cv_99_19, cv_99_20, cv_99_21, cv_99_22, cv_99_23, cv_99_24, cv_99_25, cv_99_26, cv_99_27, cv_99_28, cv_99_29, cv_99_30, cv_99_31, cv_99_32, cv_99_33, cv_99_34, cv_99_35, cv_99_36, cv_99_37, cv_99_38, cv_99_39, cv_99_40, cv_99_41, cv_99_42, cv_99_43, cv_99_44, cv_99_45, cv_99_46, ↓reduceIte, true_and, and_true, vok_int, vok_b0, vok_b1, vok_bb, r_backI, r_backV, bb_eq0, Nat.reduceAdd, Nat.reduceMul, Nat.reduceEqDiff, not_true_eq_false, not_false_eq_true, if_true, if_false, false_and, and_false, c17, c98, q5, e0]
      exact tail M mf_refl 0 (by omega) q7 (Or.inr q8) ⟨fun _ => ⟨q8, hn0.symm⟩, fun _ => Or.inl hn0⟩ (fun h => absurd (Or.inl hn0) h)
    · have e0 : ¬ ii n ≤ 0 := by rw [lit_0, ii_le (by omega) (by decide)]; omega
      simp only [w115_52, w115_55, w115_58, w115_59, isk_99, cv_99_0, cv_99_1, cv_99_2, cv_99_3, cv_99_4, cv_99_5, cv_99_6, cv_99_7, cv_99_8, cv_99_9, cv_99_10, cv_99_11, cv_99_12, cv_99_13, cv_99_14, cv_99_15, cv_99_16, cv_99_17, cv_99_18, cv_99_19, cv_99_20, cv_99_21, cv_99_22, cv_99_23, cv_99_24, cv_99_25, cv_99_26, cv_99_27, cv_99_28, cv_99_29, cv_99_30, cv_99_31, cv_99_32, cv_99_33, cv_99_34, cv_99_35, cv_99_36, cv_99_37, cv_99_38, cv_99_39, cv_99_40, cv_99_41, cv_99_42, cv_99_43, cv_99_44, cv_99_45, cv_99_46, ↓reduceIte, true_and, and_true, vok_int, vok_b0, vok_b1, vok_bb, r_backI, r_backV, bb_eq0, Nat.reduceAdd, Nat.reduceMul, Nat.reduceEqDiff, not_true_eq_false, not_false_eq_true, if_true, if_false, false_and, and_false, c17, c98, q5, e0]
      refine c92 qx (Nat.zero_le _) q7 q8 (fun m2 k1 k7 k8 => ?_)
      simp only [↓reduceIte, true_and, and_true, vok_int, vok_b0, vok_b1, vok_bb, r_backI, r_backV, bb_eq0, Nat.reduceAdd, Nat.reduceMul, Nat.reduceEqDiff, not_true_eq_false, not_false_eq_true, if_true, if_false, false_and, and_false, c17, c98]
      obtain ⟨p1, p2, p3⟩ := pC_ok (qq := true) hz 6 0 (Nat.zero_le _)
      refine tail m2 k1 _ p2 k7 ?_ ?_ (fun _ => rfl)
      · by_cases hb : (pC true (chs t) n 6 0).2 = none
        · rw [bb_t hb] at k8; exact Or.inl k8
        · rw [bb_f hb] at k8; exact Or.inr k8
      · constructor
        · rintro (hw | ⟨hw, c, hc⟩)
          · exact absurd hw hn0
          · exact ⟨by rw [k8, bb_f (fun h => by rw [hc] at h; cases h)], hw⟩
        · rintro ⟨h8, hq⟩
          refine Or.inr ⟨hq, ?_⟩
          cases hb : (pC true (chs t) n 6 0).2 with
          | none =>
            rw [hb, bb_t rfl, h8] at k8
            exact absurd k8 (by decide)
          | some c => exact ⟨c, rfl⟩
  · simp only [eq_false h, ↓reduceIte, true_and, and_true, vok_int, vok_b0, vok_b1, vok_bb, r_backI, r_backV, bb_eq0, Nat.reduceAdd, Nat.reduceMul, Nat.reduceEqDiff, not_true_eq_false, not_false_eq_true, if_true, if_false, false_and, and_false, c17, c98, w115_37, w115_40, w115_41, w115_42, w115_45, isk_99, cv_99_0, cv_99_1, cv_99_2, cv_99_3, cv_99_4, cv_99_5, cv_99_6, cv_99_7, cv_99_8, cv_99_9, cv_99_10, cv_99_11, cv_99_12, cv_99_13, cv_99_14, cv_99_15, cv_99_16, cv_99_17, cv_99_18, cv_99_19, cv_99_20, cv_99_21, cv_99_22, cv_99_23, cv_99_24, cv_99_25, cv_99_26, cv_99_27, cv_99_28, cv_99_29, cv_99_30, cv_99_31, cv_99_32, cv_99_33, cv_99_34, cv_99_35, cv_99_36, cv_99_37, cv_99_38, cv_99_39, cv_99_40, cv_99_41, cv_99_42, cv_99_43, cv_99_44, cv_99_45, cv_99_46, c87]
    refine hA h _ ⟨fun a c1 c2 _ => ?_, fun k c0 c3 c5 c7 c8 c9 c10 c45 => ?_, ?_⟩ (it_up_same _ _ _ _) ?_ ?_
    · rw [it_up_f _ _ _ c1, it_up_f _ _ _ c1, it_up_f _ _ _ c1, it_up_f _ _ _ c1]
      exact g1 a c1 (by omega)
    · rw [it_up_s, if_neg c0, it_up_s, if_neg c10, it_up_s, if_neg c45, it_up_s, if_neg c3]
      exact g9 k c0 c5 c7 c8
    · rw [it_up_s, if_neg (by decide), it_up_s, if_neg (by decide), it_up_s, if_neg (by decide), it_up_same]
    · rw [it_up_s, if_neg (by decide), it_up_same]
    · rw [it_up_s, if_neg (by decide), it_up_s, if_neg (by decide), it_up_same]
end
