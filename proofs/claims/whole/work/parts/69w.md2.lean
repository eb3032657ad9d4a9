/-! The reference's readCondition: a row of signs instead of calls. -/
section
variable {L : Nat} {xs : Nat → Int32} {rw : Nat → Nat} {o : Nat → Int64} {g z : Nat} {d : Nat} {Q : im_O → im_M → Prop}
variable {n : Nat} {T : Nat → Nat} {qq : Bool}
/-- where a test is wanted -/
def it_HD (d L : Nat) (xs : Nat → Int32) (rw : Nat → Nat) (o : Nat → Int64) (g z : Nat) (Q : im_O → im_M → Prop) (N : Nat) (mi : Nat → Nat → Int32) : Prop := ∀ v3 v4, iw (d + 3) 92 4 [.ref 99, .int (ii N), .int 1, v3, v4] [] (it_mem L xs mi rw o g z) Q
/-- behind a test -/
def it_P1 (d L : Nat) (xs : Nat → Int32) (rw : Nat → Nat) (o : Nat → Int64) (g z : Nat) (Q : im_O → im_M → Prop) (N : Nat) (mi : Nat → Nat → Int32) : Prop := ∀ v3 v4, iw (d + 3) 92 87 [.ref 99, .int (ii N), .int 1, v3, v4] [] (it_mem L xs mi rw o g z) Q
/-- the text is ill -/
def it_IL (L : Nat) (xs : Nat → Int32) (rw : Nat → Nat) (o : Nat → Int64) (g z : Nat) (Q : im_O → im_M → Prop) (q : Nat) (mi : Nat → Nat → Int32) : Prop := ∀ mi', it_mf mi mi' → mi' 99 7 = ii q → mi' 99 8 = 1 → Q (.inl none) (it_mem L xs mi' rw o g z)
/-- the state at a place, signs st on the row -/
def it_at (n : Nat) (T : Nat → Nat) (qq : Bool) (p N : Nat) (st : Nat → Nat) (mi : Nat → Nat → Int32) : Prop := it_mx n T qq mi ∧ p ≤ n ∧ mi 99 7 = ii p ∧ mi 99 8 = 0 ∧ ∀ j, j < N → mi 103 j = ii (st j) ∧ st j < 128
theorem m_push {p N : Nat} {st : Nat → Nat} {mi : Nat → Nat → Int32} (h : it_at n T qq p N st mi) (hN : N < 6) (hc : T p = 33 ∨ T p = 40) (hp : p < n) (hk : ∀ mi', it_mf mi mi' → it_at n T qq (p + 1) (N + 1) (va_up st N (T p)) mi' → it_HD d L xs rw o g z Q (N + 1) mi') : it_HD d L xs rw o g z Q N mi := by
  obtain ⟨hx, hpn, h7, h8, hs⟩ := h
  intro v3 v4
  have hT := hx.2.2.2.2.2 p
  have up0 : it_up mi 99 8 0 = mi := up_id h8
  have a1 : ii (T p) = 33 ↔ T p = 33 := by rw [lit_33, ii_inj (by omega) (by decide)]
  have a2 : ii (T p) = 40 ↔ T p = 40 := by rw [lit_40, ii_inj (by omega) (by decide)]
  have n6 : ¬ ii N = 6 := by rw [lit_6, ii_inj (by omega) (by decide)]; omega
  have eN : (ii N).toNatClampNeg = N := ii_clamp (by omega)
  have eN1 : ii N + 1 = ii (N + 1) := ii_add (b := 1)
  have e1 : ii p + 1 = ii (p + 1) := ii_add (b := 1)
  have bN : it_inb L 103 (ii N) := ii_inb (by omega) (by rw [ln_103]; omega)
  have hv : vp_nar .char (ii (T p)) = ii (T p) := vp_nar_ch (by omega)
  have n7 : ∀ k x, it_up mi 103 k x 99 7 = ii p := fun k x => by rw [it_up_f _ _ _ (by decide)]; exact h7
  have hf : it_mf mi (it_up (it_up mi 103 N (ii (T p))) 99 7 (ii (p + 1))) := mf_trans mf_o (mf_9 (Or.inl rfl))
  have hfin := hk _ hf ⟨mx_fr hx hf, by omega, it_up_same _ _ _ _, by rw [it_up_s, if_neg (by decide), it_up_f _ _ _ (by decide)]; exact h8, fun j hj => by
    rw [it_up_f _ _ _ (by decide), it_up_s]
    by_cases e : j = N
    · subst e; rw [if_pos rfl, va_up_self]; exact ⟨rfl, hT⟩
    · rw [if_neg e, va_up_ne _ _ e]; exact hs j (by omega)⟩
  rw [w92_4]
  rcases hc with hc | hc
  · simp only [w92_5, w92_8, w92_9, w92_12, w92_15, w92_16, w92_19, w92_20, w92_21, w92_23, w92_26, w92_27, w92_29, w92_32, w92_33, w92_34, w92_36, w92_39, w92_40, w92_43, w92_44, w92_47, w92_48, w92_51, w92_54, w92_55, w92_58, w92_59, w92_60, w92_61, w92_64, w92_65, w92_66, w92_69, w92_70, w92_71, w92_74, isk_99, cv_99_0, cv_99_1, cv_99_2, cv_99_3, cv_99_4, cv_99_5, cv_99_6, cv_99_7, cv_99_8, cv_99_9, cv_99_10, cv_99_11, cv_99_12, cv_99_13, cv_99_14, cv_99_15, cv_99_16, cv_99_17, cv_99_18, cv_99_19, cv_99_20, cv_99_21, cv_99_22, cv_99_23, cv_99_24, cv_99_25, cv_99_26, cv_99_27, cv_99_28, cv_99_29, cv_99_30, cv_99_31, cv_99_32, cv_99_33, cv_99_34, cv_99_35, cv_99_36, cv_99_37, cv_99_38, cv_99_39, cv_99_40, cv_99_41, cv_99_42, cv_99_43, cv_99_44, cv_99_45, cv_99_46, isa_103, ln_103, cv_103, ↓reduceIte, true_and, and_true, vok_int, vok_b0, vok_b1, vok_bb, r_backI, r_backV, bb_eq0, Nat.reduceAdd, Nat.reduceMul, Nat.reduceEqDiff, not_true_eq_false, not_false_eq_true, if_true, if_false, false_and, and_false, c17, c98, n_m1_0, n_m1_1, n_m1_2, n_m1_3, n_m1_4, n_m1_5, n_m1_6, n_0_m1, n_0_1, n_0_2, n_0_3, n_0_4, n_0_5, n_0_6, n_1_m1, n_1_0, n_1_2, n_1_3, n_1_4, n_1_5, n_1_6, n_2_m1, n_2_0, n_2_1, n_2_3, n_2_4, n_2_5, n_2_6, n_3_m1, n_3_0, n_3_1, n_3_2, n_3_4, n_3_5, n_3_6, n_4_m1, n_4_0, n_4_1, n_4_2, n_4_3, n_4_5, n_4_6, n_5_m1, n_5_0, n_5_1, n_5_2, n_5_3, n_5_4, n_5_6, n_6_m1, n_6_0, n_6_1, n_6_2, n_6_3, n_6_4, n_6_5, h8, c91 hx hpn h7, a1, eq_true hc, n6, up0, bN, eN, eN1, hv, n7, e1, Nat.reduceLeDiff]
    exact hfin _ _
  · have n1 : ¬ T p = 33 := by omega
    simp only [w92_5, w92_8, w92_9, w92_12, w92_15, w92_16, w92_19, w92_20, w92_21, w92_23, w92_26, w92_27, w92_29, w92_32, w92_33, w92_34, w92_36, w92_39, w92_40, w92_43, w92_44, w92_47, w92_48, w92_51, w92_54, w92_55, w92_58, w92_59, w92_60, w92_61, w92_64, w92_65, w92_66, w92_69, w92_70, w92_71, w92_74, isk_99, cv_99_0, cv_99_1, cv_99_2, cv_99_3, cv_99_4, cv_99_5, cv_99_6, cv_99_7, cv_99_8, cv_99_9, cv_99_10, cv_99_11, cv_99_12, cv_99_13, cv_99_14, cv_99_15, cv_99_16, cv_99_17, cv_99_18, cv_99_19, cv_99_20, cv_99_21, cv_99_22, cv_99_23, cv_99_24, cv_99_25, cv_99_26, cv_99_27, cv_99_28, cv_99_29, cv_99_30, cv_99_31, cv_99_32, cv_99_33, cv_99_34, cv_99_35, cv_99_36, cv_99_37, cv_99_38, cv_99_39, cv_99_40, cv_99_41, cv_99_42, cv_99_43, cv_99_44, cv_99_45, cv_99_46, isa_103, ln_103, cv_103, ↓reduceIte, true_and, and_true, vok_int, vok_b0, vok_b1, vok_bb, r_backI, r_backV, bb_eq0, Nat.reduceAdd, Nat.reduceMul, Nat.reduceEqDiff, not_true_eq_false, not_false_eq_true, if_true, if_false, false_and, and_false, c17, c98, n_m1_0, n_m1_1, n_m1_2, n_m1_3, n_m1_4, n_m1_5, n_m1_6, n_0_m1, n_0_1, n_0_2, n_0_3, n_0_4, n_0_5, n_0_6, n_1_m1, n_1_0, n_1_2, n_1_3, n_1_4, n_1_5, n_1_6, n_2_m1, n_2_0, n_2_1, n_2_3, n_2_4, n_2_5, n_2_6, n_3_m1, n_3_0, n_3_1, n_3_2, n_3_4, n_3_5, n_3_6, n_4_m1, n_4_0, n_4_1, n_4_2, n_4_3, n_4_5, n_4_6, n_5_m1, n_5_0, n_5_1, n_5_2, n_5_3, n_5_4, n_5_6, n_6_m1, n_6_0, n_6_1, n_6_2, n_6_3, n_6_4, n_6_5, h8, c91 hx hpn h7, a1, a2, n1, eq_true hc, n6, up0, bN, eN, eN1, hv, n7, e1, Nat.reduceLeDiff]
    exact hfin _ _
theorem m_full {p : Nat} {st : Nat → Nat} {mi : Nat → Nat → Int32} (h : it_at n T qq p 6 st mi) (hc : T p = 33 ∨ T p = 40) (hk : it_IL L xs rw o g z Q p mi) : it_HD d L xs rw o g z Q 6 mi := by
  obtain ⟨hx, hpn, h7, h8, hs⟩ := h
  intro v3 v4
  have hT := hx.2.2.2.2.2 p
  have a1 : ii (T p) = 33 ↔ T p = 33 := by rw [lit_33, ii_inj (by omega) (by decide)]
  have a2 : ii (T p) = 40 ↔ T p = 40 := by rw [lit_40, ii_inj (by omega) (by decide)]
  have n6 : ii 6 = 6 := rfl
  have hfin := hk (it_up mi 99 8 1) (mf_9 (Or.inr rfl)) (by rw [it_up_s, if_neg (by decide)]; exact h7) (it_up_same _ _ _ _)
  rw [w92_4]
  rcases hc with hc | hc
  · simp only [w92_5, w92_8, w92_9, w92_12, w92_15, w92_16, w92_19, w92_20, w92_21, w92_23, w92_26, w92_27, w92_29, w92_32, w92_33, w92_34, w92_36, w92_39, w92_40, w92_43, w92_44, w92_47, w92_48, w92_51, isk_99, cv_99_0, cv_99_1, cv_99_2, cv_99_3, cv_99_4, cv_99_5, cv_99_6, cv_99_7, cv_99_8, cv_99_9, cv_99_10, cv_99_11, cv_99_12, cv_99_13, cv_99_14, cv_99_15, cv_99_16, cv_99_17, cv_99_18, cv_99_19, cv_99_20, cv_99_21, cv_99_22, cv_99_23, cv_99_24, cv_99_25, cv_99_26, cv_99_27, cv_99_28, cv_99_29, cv_99_30, cv_99_31, cv_99_32, cv_99_33, cv_99_34, cv_99_35, cv_99_36, cv_99_37, cv_99_38, cv_99_39, cv_99_40, cv_99_41, cv_99_42, cv_99_43, cv_99_44, cv_99_45, cv_99_46, ↓reduceIte, true_and, and_true, vok_int, vok_b0, vok_b1, vok_bb, r_backI, r_backV, bb_eq0, Nat.reduceAdd, Nat.reduceMul, Nat.reduceEqDiff, not_true_eq_false, not_false_eq_true, if_true, if_false, false_and, and_false, c17, c98, n_m1_0, n_m1_1, n_m1_2, n_m1_3, n_m1_4, n_m1_5, n_m1_6, n_0_m1, n_0_1, n_0_2, n_0_3, n_0_4, n_0_5, n_0_6, n_1_m1, n_1_0, n_1_2, n_1_3, n_1_4, n_1_5, n_1_6, n_2_m1, n_2_0, n_2_1, n_2_3, n_2_4, n_2_5, n_2_6, n_3_m1, n_3_0, n_3_1, n_3_2, n_3_4, n_3_5, n_3_6, n_4_m1, n_4_0, n_4_1, n_4_2, n_4_3, n_4_5, n_4_6, n_5_m1, n_5_0, n_5_1, n_5_2, n_5_3, n_5_4, n_5_6, n_6_m1, n_6_0, n_6_1, n_6_2, n_6_3, n_6_4, n_6_5, h8, c91 hx hpn h7, a1, eq_true hc, n6, it_up_same]
    rw [w92_4]
    simp only [w92_5, w92_8, w92_9, w92_12, w92_193, isk_99, cv_99_0, cv_99_1, cv_99_2, cv_99_3, cv_99_4, cv_99_5, cv_99_6, cv_99_7, cv_99_8, cv_99_9, cv_99_10, cv_99_11, cv_99_12, cv_99_13, cv_99_14, cv_99_15, cv_99_16, cv_99_17, cv_99_18, cv_99_19, cv_99_20, cv_99_21, cv_99_22, cv_99_23, cv_99_24, cv_99_25, cv_99_26, cv_99_27, cv_99_28, cv_99_29, cv_99_30, cv_99_31, cv_99_32, cv_99_33, cv_99_34, cv_99_35, cv_99_36, cv_99_37, cv_99_38, cv_99_39, cv_99_40, cv_99_41, cv_99_42, cv_99_43, cv_99_44, cv_99_45, cv_99_46, ↓reduceIte, true_and, and_true, vok_int, vok_b0, vok_b1, vok_bb, r_backI, r_backV, bb_eq0, Nat.reduceAdd, Nat.reduceMul, Nat.reduceEqDiff, not_true_eq_false, not_false_eq_true, if_true, if_false, false_and, and_false, c17, c98, n_m1_0, n_m1_1, n_m1_2, n_m1_3, n_m1_4, n_m1_5, n_m1_6, n_0_m1, n_0_1, n_0_2, n_0_3, n_0_4, n_0_5, n_0_6, n_1_m1, n_1_0, n_1_2, n_1_3, n_1_4, n_1_5, n_1_6, n_2_m1, n_2_0, n_2_1, n_2_3, n_2_4, n_2_5, n_2_6, n_3_m1, n_3_0, n_3_1, n_3_2, n_3_4, n_3_5, n_3_6, n_4_m1, n_4_0, n_4_1, n_4_2, n_4_3, n_4_5, n_4_6, n_5_m1, n_5_0, n_5_1, n_5_2, n_5_3, n_5_4, n_5_6, n_6_m1, n_6_0, n_6_1, n_6_2, n_6_3, n_6_4, n_6_5, it_up_same]
    exact hfin
  · have n1 : ¬ T p = 33 := by omega
    simp only [w92_5, w92_8, w92_9, w92_12, w92_15, w92_16, w92_19, w92_20, w92_21, w92_23, w92_26, w92_27, w92_29, w92_32, w92_33, w92_34, w92_36, w92_39, w92_40, w92_43, w92_44, w92_47, w92_48, w92_51, isk_99, cv_99_0, cv_99_1, cv_99_2, cv_99_3, cv_99_4, cv_99_5, cv_99_6, cv_99_7, cv_99_8, cv_99_9, cv_99_10, cv_99_11, cv_99_12, cv_99_13, cv_99_14, cv_99_15, cv_99_16, cv_99_17, cv_99_18, cv_99_19, cv_99_20, cv_99_21, cv_99_22, cv_99_23, cv_99_24, cv_99_25, cv_99_26, cv_99_27, cv_99_28, cv_99_29, cv_99_30, cv_99_31, cv_99_32, cv_99_33, cv_99_34, cv_99_35, cv_99_36, cv_99_37, cv_99_38, cv_99_39, cv_99_40, cv_99_41, cv_99_42, cv_99_43, cv_99_44, cv_99_45, cv_99_46, ↓reduceIte, true_and, and_true, vok_int, vok_b0, vok_b1, vok_bb, r_backI, r_backV, bb_eq0, Nat.reduceAdd, Nat.reduceMul, Nat.reduceEqDiff, not_true_eq_false, not_false_eq_true, if_true, if_false, false_and, and_false, c17, c98, n_m1_0, n_m1_1, n_m1_2, n_m1_3, n_m1_4, n_m1_5, n_m1_6, n_0_m1, n_0_1, n_0_2, n_0_3, n_0_4, n_0_5, n_0_6, n_1_m1, n_1_0, n_1_2, n_1_3, n_1_4, n_1_5, n_1_6, n_2_m1, n_2_0, n_2_1, n_2_3, n_2_4, n_2_5, n_2_6, n_3_m1, n_3_0, n_3_1, n_3_2, n_3_4, n_3_5, n_3_6, n_4_m1, n_4_0, n_4_1, n_4_2, n_4_3, n_4_5, n_4_6, n_5_m1, n_5_0, n_5_1, n_5_2, n_5_3, n_5_4, n_5_6, n_6_m1, n_6_0, n_6_1, n_6_2, n_6_3, n_6_4, n_6_5, h8, c91 hx hpn h7, a1, a2, n1, eq_true hc, n6, it_up_same]
    rw [w92_4]
    simp only [w92_5, w92_8, w92_9, w92_12, w92_193, isk_99, cv_99_0, cv_99_1, cv_99_2, cv_99_3, cv_99_4, cv_99_5, cv_99_6, cv_99_7, cv_99_8, cv_99_9, cv_99_10, cv_99_11, cv_99_12, cv_99_13, cv_99_14, cv_99_15, cv_99_16, cv_99_17, cv_99_18, cv_99_19, cv_99_20, cv_99_21, cv_99_22, cv_99_23, cv_99_24, cv_99_25, cv_99_26, cv_99_27, cv_99_28, cv_99_29, cv_99_30, cv_99_31, cv_99_32, cv_99_33, cv_99_34, cv_99_35, cv_99_36, cv_99_37, cv_99_38, cv_99_39, cv_99_40, cv_99_41, cv_99_42, cv_99_43, cv_99_44, cv_99_45, cv_99_46, ↓reduceIte, true_and, and_true, vok_int, vok_b0, vok_b1, vok_bb, r_backI, r_backV, bb_eq0, Nat.reduceAdd, Nat.reduceMul, Nat.reduceEqDiff, not_true_eq_false, not_false_eq_true, if_true, if_false, false_and, and_false, c17, c98, n_m1_0, n_m1_1, n_m1_2, n_m1_3, n_m1_4, n_m1_5, n_m1_6, n_0_m1, n_0_1, n_0_2, n_0_3, n_0_4, n_0_5, n_0_6, n_1_m1, n_1_0, n_1_2, n_1_3, n_1_4, n_1_5, n_1_6, n_2_m1, n_2_0, n_2_1, n_2_3, n_2_4, n_2_5, n_2_6, n_3_m1, n_3_0, n_3_1, n_3_2, n_3_4, n_3_5, n_3_6, n_4_m1, n_4_0, n_4_1, n_4_2, n_4_3, n_4_5, n_4_6, n_5_m1, n_5_0, n_5_1, n_5_2, n_5_3, n_5_4, n_5_6, n_6_m1, n_6_0, n_6_1, n_6_2, n_6_3, n_6_4, n_6_5, it_up_same]
    exact hfin
/-- the way out, ill -/
theorem m_out {q N : Nat} {mi : Nat → Nat → Int32} {v3 v4 : Value} (hx : it_mx n T qq mi) (hq : q ≤ n) (hN : N ≤ 6) (h7 : mi 99 7 = ii q) (h8 : mi 99 8 = 1) (hk : Q (.inl none) (it_mem L xs mi rw o g z)) : iw (d + 3) 92 87 [.ref 99, .int (ii N), .int 1, v3, v4] [] (it_mem L xs mi rw o g z) Q := by
  have up1 : it_up mi 99 8 1 = mi := up_id h8
  have last : ∀ (m : Int32) (w3 w4 : Value), iw (d + 3) 92 4 [.ref 99, .int (ii N), .int m, w3, w4] [] (it_mem L xs mi rw o g z) Q := by
    intro m w3 w4
    rw [w92_4]
    by_cases hm : m = 0
    · simp only [w92_5, w92_8, w92_9, w92_12, w92_193, isk_99, cv_99_0, cv_99_1, cv_99_2, cv_99_3, cv_99_4, cv_99_5, cv_99_6, cv_99_7, cv_99_8, cv_99_9, cv_99_10, cv_99_11, cv_99_12, cv_99_13, cv_99_14, cv_99_15, cv_99_16, cv_99_17, cv_99_18, cv_99_19, cv_99_20, cv_99_21, cv_99_22, cv_99_23, cv_99_24, cv_99_25, cv_99_26, cv_99_27, cv_99_28, cv_99_29, cv_99_30, cv_99_31, cv_99_32, cv_99_33, cv_99_34, cv_99_35, cv_99_36, cv_99_37, cv_99_38, cv_99_39, cv_99_40, cv_99_41, cv_99_42, cv_99_43, cv_99_44, cv_99_45, cv_99_46, ↓reduceIte, true_and, and_true, vok_int, vok_b0, vok_b1, vok_bb, r_backI, r_backV, bb_eq0, Nat.reduceAdd, Nat.reduceMul, Nat.reduceEqDiff, not_true_eq_false, not_false_eq_true, if_true, if_false, false_and, and_false, c17, c98, hm]
      exact hk
    · simp only [w92_5, w92_8, w92_9, w92_12, w92_193, isk_99, cv_99_0, cv_99_1, cv_99_2, cv_99_3, cv_99_4, cv_99_5, cv_99_6, cv_99_7, cv_99_8, cv_99_9, cv_99_10, cv_99_11, cv_99_12, cv_99_13, cv_99_14, cv_99_15, cv_99_16, cv_99_17, cv_99_18, cv_99_19, cv_99_20, cv_99_21, cv_99_22, cv_99_23, cv_99_24, cv_99_25, cv_99_26, cv_99_27, cv_99_28, cv_99_29, cv_99_30, cv_99_31, cv_99_32, cv_99_33, cv_99_34, cv_99_35, cv_99_36, cv_99_37, cv_99_38, cv_99_39, cv_99_40, cv_99_41, cv_99_42, cv_99_43, cv_99_44, cv_99_45, cv_99_46, ↓reduceIte, true_and, and_true, vok_int, vok_b0, vok_b1, vok_bb, r_backI, r_backV, bb_eq0, Nat.reduceAdd, Nat.reduceMul, Nat.reduceEqDiff, not_true_eq_false, not_false_eq_true, if_true, if_false, false_and, and_false, c17, c98, hm, h8, n_m1_0, n_m1_1, n_m1_2, n_m1_3, n_m1_4, n_m1_5, n_m1_6, n_0_m1, n_0_1, n_0_2, n_0_3, n_0_4, n_0_5, n_0_6, n_1_m1, n_1_0, n_1_2, n_1_3, n_1_4, n_1_5, n_1_6, n_2_m1, n_2_0, n_2_1, n_2_3, n_2_4, n_2_5, n_2_6, n_3_m1, n_3_0, n_3_1, n_3_2, n_3_4, n_3_5, n_3_6, n_4_m1, n_4_0, n_4_1, n_4_2, n_4_3, n_4_5, n_4_6, n_5_m1, n_5_0, n_5_1, n_5_2, n_5_3, n_5_4, n_5_6, n_6_m1, n_6_0, n_6_1, n_6_2, n_6_3, n_6_4, n_6_5]
      exact hk
  rw [w92_87]
  by_cases h1 : ii (T q) = 38
  · by_cases hn : ii N ≤ 0
    · simp only [w92_88, w92_91, w92_128, w92_129, w92_132, w92_134, w92_137, w92_138, w92_141, w92_143, w92_146, w92_147, w92_150, w92_151, w92_153, w92_154, w92_157, w92_160, w92_162, w92_165, w92_166, w92_167, w92_170, w92_171, w92_172, w92_175, w92_178, w92_179, w92_182, w92_183, w92_184, w92_187, w92_189, w92_190, isk_99, cv_99_0, cv_99_1, cv_99_2, cv_99_3, cv_99_4, cv_99_5, cv_99_6, cv_99_7, cv_99_8, cv_99_9, cv_99_10, cv_99_11, cv_99_12, cv_99_13, cv_99_14, cv_99_15, cv_99_16, cv_99_17, cv_99_18, cv_99_19, cv_99_20, cv_99_21, cv_99_22, cv_99_23, cv_99_24, cv_99_25, cv_99_26, cv_99_27, cv_99_28, cv_99_29, cv_99_30, cv_99_31, cv_99_32, cv_99_33, cv_99_34, cv_99_35, cv_99_36, cv_99_37, cv_99_38, cv_99_39, cv_99_40, cv_99_41, cv_99_42, cv_99_43, cv_99_44, cv_99_45, cv_99_46, ↓reduceIte, true_and, and_true, vok_int, vok_b0, vok_b1, vok_bb, r_backI, r_backV, bb_eq0, Nat.reduceAdd, Nat.reduceMul, Nat.reduceEqDiff, not_true_eq_false, not_false_eq_true, if_true, if_false, false_and, and_false, c17, c98, n_m1_0, n_m1_1, n_m1_2, n_m1_3, n_m1_4, n_m1_5, n_m1_6, n_0_m1, n_0_1, n_0_2, n_0_3, n_0_4, n_0_5, n_0_6, n_1_m1, n_1_0, n_1_2, n_1_3, n_1_4, n_1_5, n_1_6, n_2_m1, n_2_0, n_2_1, n_2_3, n_2_4, n_2_5, n_2_6, n_3_m1, n_3_0, n_3_1, n_3_2, n_3_4, n_3_5, n_3_6, n_4_m1, n_4_0, n_4_1, n_4_2, n_4_3, n_4_5, n_4_6, n_5_m1, n_5_0, n_5_1, n_5_2, n_5_3, n_5_4, n_5_6, n_6_m1, n_6_0, n_6_1, n_6_2, n_6_3, n_6_4, n_6_5, h8, c91 hx hq h7, h1, hn]
      exact last _ _ _
    · simp only [w92_88, w92_91, w92_128, w92_129, w92_132, w92_134, w92_137, w92_138, w92_141, w92_143, w92_146, w92_147, w92_150, w92_151, w92_153, w92_154, w92_157, w92_160, w92_162, w92_165, w92_166, w92_167, w92_170, w92_171, w92_172, w92_175, w92_178, w92_179, w92_182, w92_183, w92_184, w92_187, w92_189, w92_190, isk_99, cv_99_0, cv_99_1, cv_99_2, cv_99_3, cv_99_4, cv_99_5, cv_99_6, cv_99_7, cv_99_8, cv_99_9, cv_99_10, cv_99_11, cv_99_12, cv_99_13, cv_99_14, cv_99_15, cv_99_16, cv_99_17, cv_99_18, cv_99_19, cv_99_20, cv_99_21, cv_99_22, cv_99_23, cv_99_24, cv_99_25, cv_99_26, cv_99_27, cv_99_28, cv_99_29, cv_99_30, cv_99_31, cv_99_32, cv_99_33, cv_99_34, cv_99_35, cv_99_36, cv_99_37, cv_99_38, cv_99_39, cv_99_40, cv_99_41, cv_99_42, cv_99_43, cv_99_44, cv_99_45, cv_99_46, ↓reduceIte, true_and, and_true, vok_int, vok_b0, vok_b1, vok_bb, r_backI, r_backV, bb_eq0, Nat.reduceAdd, Nat.reduceMul, Nat.reduceEqDiff, not_true_eq_false, not_false_eq_true, if_true, if_false, false_and, and_false, c17, c98, n_m1_0, n_m1_1, n_m1_2, n_m1_3, n_m1_4, n_m1_5, n_m1_6, n_0_m1, n_0_1, n_0_2, n_0_3, n_0_4, n_0_5, n_0_6, n_1_m1, n_1_0, n_1_2, n_1_3, n_1_4, n_1_5, n_1_6, n_2_m1, n_2_0, n_2_1, n_2_3, n_2_4, n_2_5, n_2_6, n_3_m1, n_3_0, n_3_1, n_3_2, n_3_4, n_3_5, n_3_6, n_4_m1, n_4_0, n_4_1, n_4_2, n_4_3, n_4_5, n_4_6, n_5_m1, n_5_0, n_5_1, n_5_2, n_5_3, n_5_4, n_5_6, n_6_m1, n_6_0, n_6_1, n_6_2, n_6_3, n_6_4, n_6_5, h8, c91 hx hq h7, h1, hn, up1]
      exact last _ _ _
  · by_cases h2 : ii (T q) = 124
    · by_cases hn : ii N ≤ 0
      · simp only [w92_88, w92_91, w92_128, w92_129, w92_132, w92_134, w92_137, w92_138, w92_141, w92_143, w92_146, w92_147, w92_150, w92_151, w92_153, w92_154, w92_157, w92_160, w92_162, w92_165, w92_166, w92_167, w92_170, w92_171, w92_172, w92_175, w92_178, w92_179, w92_182, w92_183, w92_184, w92_187, w92_189, w92_190, isk_99, cv_99_0, cv_99_1, cv_99_2, cv_99_3, cv_99_4, cv_99_5, cv_99_6, cv_99_7, cv_99_8, cv_99_9, cv_99_10, cv_99_11, cv_99_12, cv_99_13, cv_99_14, cv_99_15, cv_99_16, cv_99_17, cv_99_18, cv_99_19, cv_99_20, cv_99_21, cv_99_22, cv_99_23, cv_99_24, cv_99_25, cv_99_26, cv_99_27, cv_99_28, cv_99_29, cv_99_30, cv_99_31, cv_99_32, cv_99_33, cv_99_34, cv_99_35, cv_99_36, cv_99_37, cv_99_38, cv_99_39, cv_99_40, cv_99_41, cv_99_42, cv_99_43, cv_99_44, cv_99_45, cv_99_46, ↓reduceIte, true_and, and_true, vok_int, vok_b0, vok_b1, vok_bb, r_backI, r_backV, bb_eq0, Nat.reduceAdd, Nat.reduceMul, Nat.reduceEqDiff, not_true_eq_false, not_false_eq_true, if_true, if_false, false_and, and_false, c17, c98, n_m1_0, n_m1_1, n_m1_2, n_m1_3, n_m1_4, n_m1_5, n_m1_6, n_0_m1, n_0_1, n_0_2, n_0_3, n_0_4, n_0_5, n_0_6, n_1_m1, n_1_0, n_1_2, n_1_3, n_1_4, n_1_5, n_1_6, n_2_m1, n_2_0, n_2_1, n_2_3, n_2_4, n_2_5, n_2_6, n_3_m1, n_3_0, n_3_1, n_3_2, n_3_4, n_3_5, n_3_6, n_4_m1, n_4_0, n_4_1, n_4_2, n_4_3, n_4_5, n_4_6, n_5_m1, n_5_0, n_5_1, n_5_2, n_5_3, n_5_4, n_5_6, n_6_m1, n_6_0, n_6_1, n_6_2, n_6_3, n_6_4, n_6_5, h8, c91 hx hq h7, h2, hn]
        exact last _ _ _
      · simp only [w92_88, w92_91, w92_128, w92_129, w92_132, w92_134, w92_137, w92_138, w92_141, w92_143, w92_146, w92_147, w92_150, w92_151, w92_153, w92_154, w92_157, w92_160, w92_162, w92_165, w92_166, w92_167, w92_170, w92_171, w92_172, w92_175, w92_178, w92_179, w92_182, w92_183, w92_184, w92_187, w92_189, w92_190, isk_99, cv_99_0, cv_99_1, cv_99_2, cv_99_3, cv_99_4, cv_99_5, cv_99_6, cv_99_7, cv_99_8, cv_99_9, cv_99_10, cv_99_11, cv_99_12, cv_99_13, cv_99_14, cv_99_15, cv_99_16, cv_99_17, cv_99_18, cv_99_19, cv_99_20, cv_99_21, cv_99_22, cv_99_23, cv_99_24, cv_99_25, cv_99_26, cv_99_27, cv_99_28, cv_99_29, cv_99_30, cv_99_31, cv_99_32, cv_99_33, cv_99_34, cv_99_35, cv_99_36, cv_99_37, cv_99_38, cv_99_39, cv_99_40, cv_99_41, cv_99_42, cv_99_43, cv_99_44, cv_99_45, cv_99_46, ↓reduceIte, true_and, and_true, vok_int, vok_b0, vok_b1, vok_bb, r_backI, r_backV, bb_eq0, Nat.reduceAdd, Nat.reduceMul, Nat.reduceEqDiff, not_true_eq_false, not_false_eq_true, if_true, if_false, false_and, and_false, c17, c98, n_m1_0, n_m1_1, n_m1_2, n_m1_3, n_m1_4, n_m1_5, n_m1_6, n_0_m1, n_0_1, n_0_2, n_0_3, n_0_4, n_0_5, n_0_6, n_1_m1, n_1_0, n_1_2, n_1_3, n_1_4, n_1_5, n_1_6, n_2_m1, n_2_0, n_2_1, n_2_3, n_2_4, n_2_5, n_2_6, n_3_m1, n_3_0, n_3_1, n_3_2, n_3_4, n_3_5, n_3_6, n_4_m1, n_4_0, n_4_1, n_4_2, n_4_3, n_4_5, n_4_6, n_5_m1, n_5_0, n_5_1, n_5_2, n_5_3, n_5_4, n_5_6, n_6_m1, n_6_0, n_6_1, n_6_2, n_6_3, n_6_4, n_6_5, h8, c91 hx hq h7, h2, hn, up1]
        exact last _ _ _
    · by_cases hn : ii N ≤ 0
      · simp only [w92_88, w92_91, w92_128, w92_129, w92_132, w92_134, w92_137, w92_138, w92_141, w92_143, w92_146, w92_147, w92_150, w92_151, w92_153, w92_154, w92_157, w92_160, w92_162, w92_165, w92_166, w92_167, w92_170, w92_171, w92_172, w92_175, w92_178, w92_179, w92_182, w92_183, w92_184, w92_187, w92_189, w92_190, isk_99, cv_99_0, cv_99_1, cv_99_2, cv_99_3, cv_99_4, cv_99_5, cv_99_6, cv_99_7, cv_99_8, cv_99_9, cv_99_10, cv_99_11, cv_99_12, cv_99_13, cv_99_14, cv_99_15, cv_99_16, cv_99_17, cv_99_18, cv_99_19, cv_99_20, cv_99_21, cv_99_22, cv_99_23, cv_99_24, cv_99_25, cv_99_26, cv_99_27, cv_99_28, cv_99_29, cv_99_30, cv_99_31, cv_99_32, cv_99_33, cv_99_34, cv_99_35, cv_99_36, cv_99_37, cv_99_38, cv_99_39, cv_99_40, cv_99_41, cv_99_42, cv_99_43, cv_99_44, cv_99_45, cv_99_46, ↓reduceIte, true_and, and_true, vok_int, vok_b0, vok_b1, vok_bb, r_backI, r_backV, bb_eq0, Nat.reduceAdd, Nat.reduceMul, Nat.reduceEqDiff, not_true_eq_false, not_false_eq_true, if_true, if_false, false_and, and_false, c17, c98, n_m1_0, n_m1_1, n_m1_2, n_m1_3, n_m1_4, n_m1_5, n_m1_6, n_0_m1, n_0_1, n_0_2, n_0_3, n_0_4, n_0_5, n_0_6, n_1_m1, n_1_0, n_1_2, n_1_3, n_1_4, n_1_5, n_1_6, n_2_m1, n_2_0, n_2_1, n_2_3, n_2_4, n_2_5, n_2_6, n_3_m1, n_3_0, n_3_1, n_3_2, n_3_4, n_3_5, n_3_6, n_4_m1, n_4_0, n_4_1, n_4_2, n_4_3, n_4_5, n_4_6, n_5_m1, n_5_0, n_5_1, n_5_2, n_5_3, n_5_4, n_5_6, n_6_m1, n_6_0, n_6_1, n_6_2, n_6_3, n_6_4, n_6_5, h8, c91 hx hq h7, h1, h2, hn]
        exact last _ _ _
      · simp only [w92_88, w92_91, w92_128, w92_129, w92_132, w92_134, w92_137, w92_138, w92_141, w92_143, w92_146, w92_147, w92_150, w92_151, w92_153, w92_154, w92_157, w92_160, w92_162, w92_165, w92_166, w92_167, w92_170, w92_171, w92_172, w92_175, w92_178, w92_179, w92_182, w92_183, w92_184, w92_187, w92_189, w92_190, isk_99, cv_99_0, cv_99_1, cv_99_2, cv_99_3, cv_99_4, cv_99_5, cv_99_6, cv_99_7, cv_99_8, cv_99_9, cv_99_10, cv_99_11, cv_99_12, cv_99_13, cv_99_14, cv_99_15, cv_99_16, cv_99_17, cv_99_18, cv_99_19, cv_99_20, cv_99_21, cv_99_22, cv_99_23, cv_99_24, cv_99_25, cv_99_26, cv_99_27, cv_99_28, cv_99_29, cv_99_30, cv_99_31, cv_99_32, cv_99_33, cv_99_34, cv_99_35, cv_99_36, cv_99_37, cv_99_38, cv_99_39, cv_99_40, cv_99_41, cv_99_42, cv_99_43, cv_99_44, cv_99_45, cv_99_46, ↓reduceIte, true_and, and_true, vok_int, vok_b0, vok_b1, vok_bb, r_backI, r_backV, bb_eq0, Nat.reduceAdd, Nat.reduceMul, Nat.reduceEqDiff, not_true_eq_false, not_false_eq_true, if_true, if_false, false_and, and_false, c17, c98, n_m1_0, n_m1_1, n_m1_2, n_m1_3, n_m1_4, n_m1_5, n_m1_6, n_0_m1, n_0_1, n_0_2, n_0_3, n_0_4, n_0_5, n_0_6, n_1_m1, n_1_0, n_1_2, n_1_3, n_1_4, n_1_5, n_1_6, n_2_m1, n_2_0, n_2_1, n_2_3, n_2_4, n_2_5, n_2_6, n_3_m1, n_3_0, n_3_1, n_3_2, n_3_4, n_3_5, n_3_6, n_4_m1, n_4_0, n_4_1, n_4_2, n_4_3, n_4_5, n_4_6, n_5_m1, n_5_0, n_5_1, n_5_2, n_5_3, n_5_4, n_5_6, n_6_m1, n_6_0, n_6_1, n_6_2, n_6_3, n_6_4, n_6_5, h8, c91 hx hq h7, h1, h2, hn, up1]
        exact last _ _ _
theorem m_fact {p N : Nat} {st : Nat → Nat} {mi : Nat → Nat → Int32} (h : it_at n T qq p N st mi) (hN : N ≤ 6) (h1 : ¬ T p = 33) (h2 : ¬ T p = 40) (hk0 : (pF qq T p).2 = none → it_IL L xs rw o g z Q (pF qq T p).1 mi) (hk1 : ∀ c, (pF qq T p).2 = some c → ∀ mi', it_mf mi mi' → it_at n T qq (pF qq T p).1 N st mi' → it_P1 d L xs rw o g z Q (stp st N) mi') : it_HD d L xs rw o g z Q N mi := by
  obtain ⟨hx, hpn, h7, h8, hs⟩ := h
  intro v3 v4
  have hz := hx.2.2.2.2.1
  have hT := hx.2.2.2.2.2 p
  have a1 : ii (T p) = 33 ↔ T p = 33 := by rw [lit_33, ii_inj (by omega) (by decide)]
  have a2 : ii (T p) = 40 ↔ T p = 40 := by rw [lit_40, ii_inj (by omega) (by decide)]
  obtain ⟨f1, f2, f3⟩ := pF_ok (qq := qq) hz p hpn
  have hsl := stp_le (st := st) N
  rw [w92_4]
  simp only [w92_5, w92_8, w92_9, w92_12, w92_15, w92_16, w92_19, w92_20, w92_21, w92_23, w92_26, w92_27, w92_29, w92_32, w92_33, w92_34, w92_36, w92_39, w92_40, w92_43, w92_44, w92_47, w92_48, w92_51, w92_54, w92_55, w92_58, w92_59, w92_60, w92_61, w92_64, w92_65, w92_66, w92_69, w92_70, w92_71, w92_74, w92_77, w92_78, isk_99, cv_99_0, cv_99_1, cv_99_2, cv_99_3, cv_99_4, cv_99_5, cv_99_6, cv_99_7, cv_99_8, cv_99_9, cv_99_10, cv_99_11, cv_99_12, cv_99_13, cv_99_14, cv_99_15, cv_99_16, cv_99_17, cv_99_18, cv_99_19, cv_99_20, cv_99_21, cv_99_22, cv_99_23, cv_99_24, cv_99_25, cv_99_26, cv_99_27, cv_99_28, cv_99_29, cv_99_30, cv_99_31, cv_99_32, cv_99_33, cv_99_34, cv_99_35, cv_99_36, cv_99_37, cv_99_38, cv_99_39, cv_99_40, cv_99_41, cv_99_42, cv_99_43, cv_99_44, cv_99_45, cv_99_46, ↓reduceIte, true_and, and_true, vok_int, vok_b0, vok_b1, vok_bb, r_backI, r_backV, bb_eq0, Nat.reduceAdd, Nat.reduceMul, Nat.reduceEqDiff, not_true_eq_false, not_false_eq_true, if_true, if_false, false_and, and_false, c17, c98, n_m1_0, n_m1_1, n_m1_2, n_m1_3, n_m1_4, n_m1_5, n_m1_6, n_0_m1, n_0_1, n_0_2, n_0_3, n_0_4, n_0_5, n_0_6, n_1_m1, n_1_0, n_1_2, n_1_3, n_1_4, n_1_5, n_1_6, n_2_m1, n_2_0, n_2_1, n_2_3, n_2_4, n_2_5, n_2_6, n_3_m1, n_3_0, n_3_1, n_3_2, n_3_4, n_3_5, n_3_6, n_4_m1, n_4_0, n_4_1, n_4_2, n_4_3, n_4_5, n_4_6, n_5_m1, n_5_0, n_5_1, n_5_2, n_5_3, n_5_4, n_5_6, n_6_m1, n_6_0, n_6_1, n_6_2, n_6_3, n_6_4, n_6_5, h8, c91 hx hpn h7, a1, a2, h1, h2]
  refine c93 hx hpn h7 h8 (fun m1 g1 g3 g7 g8 => ?_)
  have hs1 : ∀ j, j < N → m1 103 j = ii (st j) ∧ st j < 128 := fun j hj => by rw [g3]; exact hs j hj
  simp only [↓reduceIte, true_and, and_true, vok_int, vok_b0, vok_b1, vok_bb, r_backI, r_backV, bb_eq0, Nat.reduceAdd, Nat.reduceMul, Nat.reduceEqDiff, not_true_eq_false, not_false_eq_true, if_true, if_false, false_and, and_false, c17, c98, w92_81, w92_82, w92_83, w92_86, isk_99, cv_99_0, cv_99_1, cv_99_2, cv_99_3, cv_99_4, cv_99_5, cv_99_6, cv_99_7, cv_99_8, cv_99_9, cv_99_10, cv_99_11, cv_99_12, cv_99_13, cv_99_14, cv_99_15, cv_99_16, cv_99_17, cv_99_18, cv_99_19, cv_99_20, cv_99_21, cv_99_22, cv_99_23, cv_99_24, cv_99_25, cv_99_26, cv_99_27, cv_99_28, cv_99_29, cv_99_30, cv_99_31, cv_99_32, cv_99_33, cv_99_34, cv_99_35, cv_99_36, cv_99_37, cv_99_38, cv_99_39, cv_99_40, cv_99_41, cv_99_42, cv_99_43, cv_99_44, cv_99_45, cv_99_46, c95 hN hs1]
  have hx1 := mx_fr hx g1
  cases hb : (pF qq T p).2 with
  | none =>
    rw [hb, bb_t rfl] at g8
    exact m_out hx1 f2 (by omega) g7 g8 (hk0 hb m1 g1 g7 g8)
  | some c =>
    rw [hb, bb_f (fun h => by cases h)] at g8
    exact hk1 c hb m1 g1 ⟨hx1, f2, g7, g8, hs1⟩ _ _
theorem p_close {q N : Nat} {st : Nat → Nat} {mi : Nat → Nat → Int32} (h : it_at n T qq q (N + 1) st mi) (hN : N + 1 ≤ 6) (hc : T q = 41) (hk : ∀ mi', it_mf mi mi' → it_at n T qq (q + 1) (N + 1) st mi' → it_P1 d L xs rw o g z Q (stp st N) mi') : it_P1 d L xs rw o g z Q (N + 1) mi := by
  obtain ⟨hx, hpn, h7, h8, hs⟩ := h
  intro v3 v4
  have hz := hx.2.2.2.2.1
  have hqn : q < n := Nat.lt_of_not_le (fun h => by rw [hz q h] at hc; omega)
  have nN : ¬ ii (N + 1) ≤ 0 := by rw [lit_0, ii_le (by omega) (by decide)]; omega
  have e1 : ii q + 1 = ii (q + 1) := ii_add (b := 1)
  have eN : ii (N + 1) - 1 = ii N := by rw [lit_1, ii_sub (by omega)]; rfl
  have hf : it_mf mi (it_up mi 99 7 (ii (q + 1))) := mf_9 (Or.inl rfl)
  have hs1 : ∀ j, j < N + 1 → it_up mi 99 7 (ii (q + 1)) 103 j = ii (st j) ∧ st j < 128 := fun j hj => by rw [it_up_f _ _ _ (by decide)]; exact hs j hj
  have hfin := hk _ hf ⟨mx_fr hx hf, by omega, it_up_same _ _ _ _, by rw [it_up_s, if_neg (by decide)]; exact h8, hs1⟩
  have c41 : ii (T q) = 41 := by rw [hc]; rfl
  rw [w92_87]
  simp only [w92_88, w92_91, w92_94, w92_95, w92_98, w92_99, w92_102, w92_104, w92_107, w92_108, w92_109, w92_112, w92_113, w92_114, w92_117, w92_118, w92_119, w92_120, w92_121, w92_124, w92_125, isk_99, cv_99_0, cv_99_1, cv_99_2, cv_99_3, cv_99_4, cv_99_5, cv_99_6, cv_99_7, cv_99_8, cv_99_9, cv_99_10, cv_99_11, cv_99_12, cv_99_13, cv_99_14, cv_99_15, cv_99_16, cv_99_17, cv_99_18, cv_99_19, cv_99_20, cv_99_21, cv_99_22, cv_99_23, cv_99_24, cv_99_25, cv_99_26, cv_99_27, cv_99_28, cv_99_29, cv_99_30, cv_99_31, cv_99_32, cv_99_33, cv_99_34, cv_99_35, cv_99_36, cv_99_37, cv_99_38, cv_99_39, cv_99_40, cv_99_41, cv_99_42, cv_99_43, cv_99_44, cv_99_45, cv_99_46, ↓reduceIte, true_and, and_true, vok_int, vok_b0, vok_b1, vok_bb, r_backI, r_backV, bb_eq0, Nat.reduceAdd, Nat.reduceMul, Nat.reduceEqDiff, not_true_eq_false, not_false_eq_true, if_true, if_false, false_and, and_false, c17, c98, n_m1_0, n_m1_1, n_m1_2, n_m1_3, n_m1_4, n_m1_5, n_m1_6, n_0_m1, n_0_1, n_0_2, n_0_3, n_0_4, n_0_5, n_0_6, n_1_m1, n_1_0, n_1_2, n_1_3, n_1_4, n_1_5, n_1_6, n_2_m1, n_2_0, n_2_1, n_2_3, n_2_4, n_2_5, n_2_6, n_3_m1, n_3_0, n_3_1, n_3_2, n_3_4, n_3_5, n_3_6, n_4_m1, n_4_0, n_4_1, n_4_2, n_4_3, n_4_5, n_4_6, n_5_m1, n_5_0, n_5_1, n_5_2, n_5_3, n_5_4, n_5_6, n_6_m1, n_6_0, n_6_1, n_6_2, n_6_3, n_6_4, n_6_5, h8, nN, c91 hx hpn h7, c41, h7, e1, eN, c95 (N := N) (st := st) (show N ≤ 6 by omega) (fun j hj => hs1 j (by omega))]
  exact hfin _ _
theorem p_more {q N : Nat} {st : Nat → Nat} {mi : Nat → Nat → Int32} (h : it_at n T qq q N st mi) (hN : N ≤ 6) (hc : T q = 38 ∨ T q = 124) (hk : ∀ mi', it_mf mi mi' → it_at n T qq (q + 1) N st mi' → it_HD d L xs rw o g z Q N mi') : it_P1 d L xs rw o g z Q N mi := by
  obtain ⟨hx, hpn, h7, h8, hs⟩ := h
  intro v3 v4
  have hz := hx.2.2.2.2.1
  have hqn : q < n := Nat.lt_of_not_le (fun h => by rw [hz q h] at hc; omega)
  have e1 : ii q + 1 = ii (q + 1) := ii_add (b := 1)
  have hf : it_mf mi (it_up mi 99 7 (ii (q + 1))) := mf_9 (Or.inl rfl)
  have hfin := hk _ hf ⟨mx_fr hx hf, by omega, it_up_same _ _ _ _, by rw [it_up_s, if_neg (by decide)]; exact h8, fun j hj => by rw [it_up_f _ _ _ (by decide)]; exact hs j hj⟩
  rw [w92_87]
  rcases hc with hc | hc
  · have c1 : ii (T q) = 38 := by rw [hc]; rfl
    by_cases hn : ii N ≤ 0
    · simp only [w92_88, w92_91, w92_94, w92_95, w92_98, w92_99, w92_102, w92_104, w92_107, w92_108, w92_109, w92_112, w92_113, w92_114, w92_117, w92_118, w92_119, w92_120, w92_121, w92_124, w92_125, w92_128, w92_129, w92_132, w92_134, w92_137, w92_138, w92_141, w92_143, w92_146, w92_147, w92_150, w92_151, w92_153, w92_154, w92_157, w92_160, w92_162, w92_165, w92_166, w92_167, w92_170, w92_171, w92_172, w92_175, w92_178, w92_179, w92_182, w92_183, w92_184, w92_187, w92_189, w92_190, isk_99, cv_99_0, cv_99_1, cv_99_2, cv_99_3, cv_99_4, cv_99_5, cv_99_6, cv_99_7, cv_99_8, cv_99_9, cv_99_10, cv_99_11, cv_99_12, cv_99_13, cv_99_14, cv_99_15, cv_99_16, cv_99_17, cv_99_18, cv_99_19, cv_99_20, cv_99_21, cv_99_22, cv_99_23, cv_99_24, cv_99_25, cv_99_26, cv_99_27, cv_99_28, cv_99_29, cv_99_30, cv_99_31, cv_99_32, cv_99_33, cv_99_34, cv_99_35, cv_99_36, cv_99_37, cv_99_38, cv_99_39, cv_99_40, cv_99_41, cv_99_42, cv_99_43, cv_99_44, cv_99_45, cv_99_46, ↓reduceIte, true_and, and_true, vok_int, vok_b0, vok_b1, vok_bb, r_backI, r_backV, bb_eq0, Nat.reduceAdd, Nat.reduceMul, Nat.reduceEqDiff, not_true_eq_false, not_false_eq_true, if_true, if_false, false_and, and_false, c17, c98, n_m1_0, n_m1_1, n_m1_2, n_m1_3, n_m1_4, n_m1_5, n_m1_6, n_0_m1, n_0_1, n_0_2, n_0_3, n_0_4, n_0_5, n_0_6, n_1_m1, n_1_0, n_1_2, n_1_3, n_1_4, n_1_5, n_1_6, n_2_m1, n_2_0, n_2_1, n_2_3, n_2_4, n_2_5, n_2_6, n_3_m1, n_3_0, n_3_1, n_3_2, n_3_4, n_3_5, n_3_6, n_4_m1, n_4_0, n_4_1, n_4_2, n_4_3, n_4_5, n_4_6, n_5_m1, n_5_0, n_5_1, n_5_2, n_5_3, n_5_4, n_5_6, n_6_m1, n_6_0, n_6_1, n_6_2, n_6_3, n_6_4, n_6_5, h8, hn, c91 hx hpn h7, c1, h7, e1]
      exact hfin _ _
    · simp only [w92_88, w92_91, w92_94, w92_95, w92_98, w92_99, w92_102, w92_104, w92_107, w92_108, w92_109, w92_112, w92_113, w92_114, w92_117, w92_118, w92_119, w92_120, w92_121, w92_124, w92_125, w92_128, w92_129, w92_132, w92_134, w92_137, w92_138, w92_141, w92_143, w92_146, w92_147, w92_150, w92_151, w92_153, w92_154, w92_157, w92_160, w92_162, w92_165, w92_166, w92_167, w92_170, w92_171, w92_172, w92_175, w92_178, w92_179, w92_182, w92_183, w92_184, w92_187, w92_189, w92_190, isk_99, cv_99_0, cv_99_1, cv_99_2, cv_99_3, cv_99_4, cv_99_5, cv_99_6, cv_99_7, cv_99_8, cv_99_9, cv_99_10, cv_99_11, cv_99_12, cv_99_13, cv_99_14, cv_99_15, cv_99_16, cv_99_17, cv_99_18, cv_99_19, cv_99_20, cv_99_21, cv_99_22, cv_99_23, cv_99_24, cv_99_25, cv_99_26, cv_99_27, cv_99_28, cv_99_29, cv_99_30, cv_99_31, cv_99_32, cv_99_33, cv_99_34, cv_99_35, cv_99_36, cv_99_37, cv_99_38, cv_99_39, cv_99_40, cv_99_41, cv_99_42, cv_99_43, cv_99_44, cv_99_45, cv_99_46, ↓reduceIte, true_and, and_true, vok_int, vok_b0, vok_b1, vok_bb, r_backI, r_backV, bb_eq0, Nat.reduceAdd, Nat.reduceMul, Nat.reduceEqDiff, not_true_eq_false, not_false_eq_true, if_true, if_false, false_and, and_false, c17, c98, n_m1_0, n_m1_1, n_m1_2, n_m1_3, n_m1_4, n_m1_5, n_m1_6, n_0_m1, n_0_1, n_0_2, n_0_3, n_0_4, n_0_5, n_0_6, n_1_m1, n_1_0, n_1_2, n_1_3, n_1_4, n_1_5, n_1_6, n_2_m1, n_2_0, n_2_1, n_2_3, n_2_4, n_2_5, n_2_6, n_3_m1, n_3_0, n_3_1, n_3_2, n_3_4, n_3_5, n_3_6, n_4_m1, n_4_0, n_4_1, n_4_2, n_4_3, n_4_5, n_4_6, n_5_m1, n_5_0, n_5_1, n_5_2, n_5_3, n_5_4, n_5_6, n_6_m1, n_6_0, n_6_1, n_6_2, n_6_3, n_6_4, n_6_5, h8, hn, c91 hx hpn h7, c1, h7, e1]
      exact hfin _ _
  · have c1 : ii (T q) = 124 := by rw [hc]; rfl
    by_cases hn : ii N ≤ 0
    · simp only [w92_88, w92_91, w92_94, w92_95, w92_98, w92_99, w92_102, w92_104, w92_107, w92_108, w92_109, w92_112, w92_113, w92_114, w92_117, w92_118, w92_119, w92_120, w92_121, w92_124, w92_125, w92_128, w92_129, w92_132, w92_134, w92_137, w92_138, w92_141, w92_143, w92_146, w92_147, w92_150, w92_151, w92_153, w92_154, w92_157, w92_160, w92_162, w92_165, w92_166, w92_167, w92_170, w92_171, w92_172, w92_175, w92_178, w92_179, w92_182, w92_183, w92_184, w92_187, w92_189, w92_190, isk_99, cv_99_0, cv_99_1, cv_99_2, cv_99_3, cv_99_4, cv_99_5, cv_99_6, cv_99_7, cv_99_8, cv_99_9, cv_99_10, cv_99_11, cv_99_12, cv_99_13, cv_99_14, cv_99_15, cv_99_16, cv_99_17, cv_99_18, cv_99_19, cv_99_20, cv_99_21, cv_99_22, cv_99_23, cv_99_24, cv_99_25, cv_99_26, cv_99_27, cv_99_28, cv_99_29, cv_99_30, cv_99_31, cv_99_32, cv_99_33, cv_99_34, cv_99_35, cv_99_36, cv_99_37, cv_99_38, cv_99_39, cv_99_40, cv_99_41, cv_99_42, cv_99_43, cv_99_44, cv_99_45, cv_99_46, ↓reduceIte, true_and, and_true, vok_int, vok_b0, vok_b1, vok_bb, r_backI, r_backV, bb_eq0, Nat.reduceAdd, Nat.reduceMul, Nat.reduceEqDiff, not_true_eq_false, not_false_eq_true, if_true, if_false, false_and, and_false, c17, c98, n_m1_0, n_m1_1, n_m1_2, n_m1_3, n_m1_4, n_m1_5, n_m1_6, n_0_m1, n_0_1, n_0_2, n_0_3, n_0_4, n_0_5, n_0_6, n_1_m1, n_1_0, n_1_2, n_1_3, n_1_4, n_1_5, n_1_6, n_2_m1, n_2_0, n_2_1, n_2_3, n_2_4, n_2_5, n_2_6, n_3_m1, n_3_0, n_3_1, n_3_2, n_3_4, n_3_5, n_3_6, n_4_m1, n_4_0, n_4_1, n_4_2, n_4_3, n_4_5, n_4_6, n_5_m1, n_5_0, n_5_1, n_5_2, n_5_3, n_5_4, n_5_6, n_6_m1, n_6_0, n_6_1, n_6_2, n_6_3, n_6_4, n_6_5, h8, hn, c91 hx hpn h7, c1, h7, e1]
      exact hfin _ _
    · simp only [w92_88, w92_91, w92_94, w92_95, w92_98, w92_99, w92_102, w92_104, w92_107, w92_108, w92_109, w92_112, w92_113, w92_114, w92_117, w92_118, w92_119, w92_120, w92_121, w92_124, w92_125, w92_128, w92_129, w92_132, w92_134, w92_137, w92_138, w92_141, w92_143, w92_146, w92_147, w92_150, w92_151, w92_153, w92_154, w92_157, w92_160, w92_162, w92_165, w92_166, w92_167, w92_170, w92_171, w92_172, w92_175, w92_178, w92_179, w92_182, w92_183, w92_184, w92_187, w92_189, w92_190, isk_99, cv_99_0, cv_99_1, cv_99_2, cv_99_3, cv_99_4, cv_99_5, cv_99_6, cv_99_7, cv_99_8, cv_99_9, cv_99_10, cv_99_11, cv_99_12, cv_99_13, cv_99_14, cv_99_15, cv_99_16, cv_99_17, cv_99_18, cv_99_19, cv_99_20, cv_99_21, cv_99_22, cv_99_23, cv_99_24, cv_99_25, cv_99_26, cv_99_27, cv_99_28, cv_99_29, cv_99_30, cv_99_31, cv_99_32, cv_99_33, cv_99_34, cv_99_35, cv_99_36, cv_99_37, cv_99_38, cv_99_39, cv_99_40, cv_99_41, cv_99_42, cv_99_43, cv_99_44, cv_99_45, cv_99_46, ↓reduceIte, true_and, and_true, vok_int, vok_b0, vok_b1, vok_bb, r_backI, r_backV, bb_eq0, Nat.reduceAdd, Nat.reduceMul, Nat.reduceEqDiff, not_true_eq_false, not_false_eq_true, if_true, if_false, false_and, and_false, c17, c98, n_m1_0, n_m1_1, n_m1_2, n_m1_3, n_m1_4, n_m1_5, n_m1_6, n_0_m1, n_0_1, n_0_2, n_0_3, n_0_4, n_0_5, n_0_6, n_1_m1, n_1_0, n_1_2, n_1_3, n_1_4, n_1_5, n_1_6, n_2_m1, n_2_0, n_2_1, n_2_3, n_2_4, n_2_5, n_2_6, n_3_m1, n_3_0, n_3_1, n_3_2, n_3_4, n_3_5, n_3_6, n_4_m1, n_4_0, n_4_1, n_4_2, n_4_3, n_4_5, n_4_6, n_5_m1, n_5_0, n_5_1, n_5_2, n_5_3, n_5_4, n_5_6, n_6_m1, n_6_0, n_6_1, n_6_2, n_6_3, n_6_4, n_6_5, h8, hn, c91 hx hpn h7, c1, h7, e1]
      exact hfin _ _
/-- what stands there ends nothing -/
theorem p_ill {q N : Nat} {st : Nat → Nat} {mi : Nat → Nat → Int32} (h : it_at n T qq q (N + 1) st mi) (hN : N + 1 ≤ 6) (h1 : ¬ T q = 38) (h2 : ¬ T q = 124) (h3 : ¬ T q = 41) (hk : it_IL L xs rw o g z Q q mi) : it_P1 d L xs rw o g z Q (N + 1) mi := by
  obtain ⟨hx, hpn, h7, h8, hs⟩ := h
  intro v3 v4
  have hT := hx.2.2.2.2.2 q
  have nN : ¬ ii (N + 1) ≤ 0 := by rw [lit_0, ii_le (by omega) (by decide)]; omega
  have a1 : ¬ ii (T q) = 38 := by rw [lit_38, ii_inj (by omega) (by decide)]; exact h1
  have a2 : ¬ ii (T q) = 124 := by rw [lit_124, ii_inj (by omega) (by decide)]; exact h2
  have a3 : ¬ ii (T q) = 41 := by rw [lit_41, ii_inj (by omega) (by decide)]; exact h3
  have hfin := hk (it_up mi 99 8 1) (mf_9 (Or.inr rfl)) (by rw [it_up_s, if_neg (by decide)]; exact h7) (it_up_same _ _ _ _)
  rw [w92_87]
  simp only [w92_88, w92_91, w92_94, w92_95, w92_98, w92_99, w92_102, w92_104, w92_107, w92_108, w92_109, w92_112, w92_113, w92_114, w92_117, w92_118, w92_119, w92_120, w92_121, w92_124, w92_125, w92_128, w92_129, w92_132, w92_134, w92_137, w92_138, w92_141, w92_143, w92_146, w92_147, w92_150, w92_151, w92_153, w92_154, w92_157, w92_160, w92_162, w92_165, w92_166, w92_167, w92_170, w92_171, w92_172, w92_175, w92_178, w92_179, w92_182, w92_183, w92_184, w92_187, w92_189, w92_190, isk_99, cv_99_0, cv_99_1, cv_99_2, cv_99_3, cv_99_4, cv_99_5, cv_99_6, cv_99_7, cv_99_8, cv_99_9, cv_99_10, cv_99_11, cv_99_12, cv_99_13, cv_99_14, cv_99_15, cv_99_16, cv_99_17, cv_99_18, cv_99_19, cv_99_20, cv_99_21, cv_99_22, cv_99_23, cv_99_24, cv_99_25, cv_99_26, cv_99_27, cv_99_28, cv_99_29, cv_99_30, cv_99_31, cv_99_32, cv_99_33, cv_99_34, cv_99_35, cv_99_36, cv_99_37, cv_99_38, cv_99_39, cv_99_40, cv_99_41, cv_99_42, cv_99_43, cv_99_44, cv_99_45, cv_99_46, ↓reduceIte, true_and, and_true, vok_int, vok_b0, vok_b1, vok_bb, r_backI, r_backV, bb_eq0, Nat.reduceAdd, Nat.reduceMul, Nat.reduceEqDiff, not_true_eq_false, not_false_eq_true, if_true, if_false, false_and, and_false, c17, c98, n_m1_0, n_m1_1, n_m1_2, n_m1_3, n_m1_4, n_m1_5, n_m1_6, n_0_m1, n_0_1, n_0_2, n_0_3, n_0_4, n_0_5, n_0_6, n_1_m1, n_1_0, n_1_2, n_1_3, n_1_4, n_1_5, n_1_6, n_2_m1, n_2_0, n_2_1, n_2_3, n_2_4, n_2_5, n_2_6, n_3_m1, n_3_0, n_3_1, n_3_2, n_3_4, n_3_5, n_3_6, n_4_m1, n_4_0, n_4_1, n_4_2, n_4_3, n_4_5, n_4_6, n_5_m1, n_5_0, n_5_1, n_5_2, n_5_3, n_5_4, n_5_6, n_6_m1, n_6_0, n_6_1, n_6_2, n_6_3, n_6_4, n_6_5, h8, nN, c91 hx hpn h7, a1, a2, a3]
  rw [w92_4]
  simp only [w92_5, w92_193, ↓reduceIte, true_and, and_true, vok_int, vok_b0, vok_b1, vok_bb, r_backI, r_backV, bb_eq0, Nat.reduceAdd, Nat.reduceMul, Nat.reduceEqDiff, not_true_eq_false, not_false_eq_true, if_true, if_false, false_and, and_false, c17, c98]
  exact hfin
/-- the end of a condition in no sign -/
theorem p_end {q : Nat} {st : Nat → Nat} {mi : Nat → Nat → Int32} (h : it_at n T qq q 0 st mi) (h1 : ¬ T q = 38) (h2 : ¬ T q = 124) (hk : Q (.inl none) (it_mem L xs mi rw o g z)) : it_P1 d L xs rw o g z Q 0 mi := by
  obtain ⟨hx, hpn, h7, h8, hs⟩ := h
  intro v3 v4
  have hT := hx.2.2.2.2.2 q
  have nN : ii 0 ≤ 0 := by decide
  have a1 : ¬ ii (T q) = 38 := by rw [lit_38, ii_inj (by omega) (by decide)]; exact h1
  have a2 : ¬ ii (T q) = 124 := by rw [lit_124, ii_inj (by omega) (by decide)]; exact h2
  rw [w92_87]
  simp only [w92_88, w92_91, w92_94, w92_95, w92_98, w92_99, w92_102, w92_104, w92_107, w92_108, w92_109, w92_112, w92_113, w92_114, w92_117, w92_118, w92_119, w92_120, w92_121, w92_124, w92_125, w92_128, w92_129, w92_132, w92_134, w92_137, w92_138, w92_141, w92_143, w92_146, w92_147, w92_150, w92_151, w92_153, w92_154, w92_157, w92_160, w92_162, w92_165, w92_166, w92_167, w92_170, w92_171, w92_172, w92_175, w92_178, w92_179, w92_182, w92_183, w92_184, w92_187, w92_189, w92_190, isk_99, cv_99_0, cv_99_1, cv_99_2, cv_99_3, cv_99_4, cv_99_5, cv_99_6, cv_99_7, cv_99_8, cv_99_9, cv_99_10, cv_99_11, cv_99_12, cv_99_13, cv_99_14, cv_99_15, cv_99_16, cv_99_17, cv_99_18, cv_99_19, cv_99_20, cv_99_21, cv_99_22, cv_99_23, cv_99_24, cv_99_25, cv_99_26, cv_99_27, cv_99_28, cv_99_29, cv_99_30, cv_99_31, cv_99_32, cv_99_33, cv_99_34, cv_99_35, cv_99_36, cv_99_37, cv_99_38, cv_99_39, cv_99_40, cv_99_41, cv_99_42, cv_99_43, cv_99_44, cv_99_45, cv_99_46, ↓reduceIte, true_and, and_true, vok_int, vok_b0, vok_b1, vok_bb, r_backI, r_backV, bb_eq0, Nat.reduceAdd, Nat.reduceMul, Nat.reduceEqDiff, not_true_eq_false, not_false_eq_true, if_true, if_false, false_and, and_false, c17, c98, n_m1_0, n_m1_1, n_m1_2, n_m1_3, n_m1_4, n_m1_5, n_m1_6, n_0_m1, n_0_1, n_0_2, n_0_3, n_0_4, n_0_5, n_0_6, n_1_m1, n_1_0, n_1_2, n_1_3, n_1_4, n_1_5, n_1_6, n_2_m1, n_2_0, n_2_1, n_2_3, n_2_4, n_2_5, n_2_6, n_3_m1, n_3_0, n_3_1, n_3_2, n_3_4, n_3_5, n_3_6, n_4_m1, n_4_0, n_4_1, n_4_2, n_4_3, n_4_5, n_4_6, n_5_m1, n_5_0, n_5_1, n_5_2, n_5_3, n_5_4, n_5_6, n_6_m1, n_6_0, n_6_1, n_6_2, n_6_3, n_6_4, n_6_5, h8, nN, c91 hx hpn h7, a1, a2]
  rw [w92_4]
  simp only [w92_5, w92_193, ↓reduceIte, true_and, and_true, vok_int, vok_b0, vok_b1, vok_bb, r_backI, r_backV, bb_eq0, Nat.reduceAdd, Nat.reduceMul, Nat.reduceEqDiff, not_true_eq_false, not_false_eq_true, if_true, if_false, false_and, and_false, c17, c98]
  exact hk
/-- a reader f, with N signs on the row and no ! on top, and what the reference does -/
def it_MP (d L : Nat) (xs : Nat → Int32) (rw : Nat → Nat) (o : Nat → Int64) (g z : Nat) (Q : im_O → im_M → Prop) (n : Nat) (T : Nat → Nat) (qq : Bool) (N : Nat) (f : Nat → PR) : Prop :=
  ∀ (p : Nat) (st : Nat → Nat) (mi : Nat → Nat → Int32), it_at n T qq p N st mi → stp st N = N → ((f p).2 = none → it_IL L xs rw o g z Q (f p).1 mi) → (∀ c, (f p).2 = some c → ∀ mi', it_mf mi mi' → it_at n T qq (f p).1 N st mi' → it_P1 d L xs rw o g z Q N mi') → it_HD d L xs rw o g z Q N mi
theorem il_fr {q : Nat} {m1 m2 : Nat → Nat → Int32} (h : it_IL L xs rw o g z Q q m1) (hf : it_mf m1 m2) : it_IL L xs rw o g z Q q m2 := fun m3 g1 g7 g8 => h m3 (mf_trans hf g1) g7 g8
theorem mp_L {sep N : Nat} {op : CV → CV → CV} {f : Nat → PR} (hsep : sep = 38 ∨ sep = 124) (hN : N ≤ 6) (hf : it_MP d L xs rw o g z Q n T qq N f) : ∀ (m p : Nat) (c0 : CV) (st : Nat → Nat) (mi : Nat → Nat → Int32), it_at n T qq p N st mi → stp st N = N → ((pL T sep op f m p c0).2 = none → it_IL L xs rw o g z Q (pL T sep op f m p c0).1 mi) → (∀ c, (pL T sep op f m p c0).2 = some c → ∀ mi', it_mf mi mi' → it_at n T qq (pL T sep op f m p c0).1 N st mi' → it_P1 d L xs rw o g z Q N mi') → it_P1 d L xs rw o g z Q N mi := by
  intro m
  induction m with
  | zero => intro p c0 st mi h hst h0 h1; exact h1 c0 rfl mi mf_refl h
  | succ m ih =>
    intro p c0 st mi h hst h0 h1
    by_cases hT : T p = sep
    · refine p_more h hN (by rcases hsep with h | h; exact Or.inl (hT.trans h); exact Or.inr (hT.trans h)) (fun m1 g1 ga => ?_)
      cases hb : (f (p + 1)).2 with
      | none =>
        rw [pL_n hT hb] at h0
        exact hf (p + 1) st m1 ga hst (fun _ => il_fr (h0 rfl) g1) (fun c hc => by rw [hb] at hc; cases hc)
      | some b =>
        rw [pL_s hT hb] at h0 h1
        refine hf (p + 1) st m1 ga hst (fun hc => by rw [hb] at hc; cases hc) (fun c hc m2 g2 gb => ?_)
        exact ih _ _ st m2 gb hst (fun h => il_fr (h0 h) (mf_trans g1 g2)) (fun c hc m3 g3 gc => h1 c hc m3 (mf_trans (mf_trans g1 g2) g3) gc)
    · rw [pL_0 hT] at h0 h1
      exact h1 c0 rfl mi mf_refl h
theorem mp_S {sep N : Nat} {op : CV → CV → CV} {f : Nat → PR} (hsep : sep = 38 ∨ sep = 124) (hN : N ≤ 6) (hf : it_MP d L xs rw o g z Q n T qq N f) (k : Nat) : it_MP d L xs rw o g z Q n T qq N (pS T sep op f k) := by
  intro p st mi h hst h0 h1
  cases hb : (f p).2 with
  | none =>
    rw [pS_n hb] at h0
    exact hf p st mi h hst (fun _ => h0 rfl) (fun c hc => by rw [hb] at hc; cases hc)
  | some b =>
    rw [pS_s hb] at h0 h1
    refine hf p st mi h hst (fun hc => by rw [hb] at hc; cases hc) (fun c hc m1 g1 ga => ?_)
    exact mp_L hsep hN hf k _ b st m1 ga hst (fun h => il_fr (h0 h) g1) (fun c hc m2 g2 gb => h1 c hc m2 (mf_trans g1 g2) gb)
theorem mp_C {r N : Nat} (hN : N ≤ 6) (hf : it_MP d L xs rw o g z Q n T qq N (pT qq T n r)) : it_MP d L xs rw o g z Q n T qq N (pC qq T n r) := mp_S (Or.inr rfl) hN (mp_S (Or.inl rfl) hN hf n) n
theorem m_T : ∀ (r N p : Nat) (st : Nat → Nat) (mi : Nat → Nat → Int32), N + r = 6 → it_at n T qq p N st mi → ((pT qq T n r p).2 = none → it_IL L xs rw o g z Q (pT qq T n r p).1 mi) → (∀ c, (pT qq T n r p).2 = some c → ∀ mi', it_mf mi mi' → it_at n T qq (pT qq T n r p).1 N st mi' → it_P1 d L xs rw o g z Q (stp st N) mi') → it_HD d L xs rw o g z Q N mi := by
  intro r
  induction r with
  | zero =>
    intro N p st mi hN h h0 h1
    obtain rfl : N = 6 := by omega
    by_cases hc : T p = 33 ∨ T p = 40
    · rw [pT_0 hc] at h0
      exact m_full h hc (h0 rfl)
    · have c1 : ¬ T p = 33 := fun q => hc (Or.inl q)
      have c2 : ¬ T p = 40 := fun q => hc (Or.inr q)
      rw [pT_f c1 c2] at h0 h1
      exact m_fact h (by decide) c1 c2 h0 h1
  | succ r ih =>
    intro N p st mi hN h h0 h1
    have hz := h.1.2.2.2.2.1
    have down : ∀ (st' : Nat → Nat) (k : Nat) (m : Nat → Nat → Int32) (q : Nat), it_at n T qq q (N + 1) (va_up st N k) m → it_at n T qq q N st m := by
      intro st' k m q hq
      refine ⟨hq.1, hq.2.1, hq.2.2.1, hq.2.2.2.1, fun j hj => ?_⟩
      have := hq.2.2.2.2 j (by omega)
      rw [va_up_ne _ _ (by omega)] at this
      exact this
    have hcg : ∀ k, stp (va_up st N k) N = stp st N := fun k => stp_cg N (fun j hj => va_up_ne _ _ (by omega))
    by_cases hc : T p = 33
    · have hpn : p < n := Nat.lt_of_not_le (fun q => by rw [hz p q] at hc; omega)
      refine m_push h (by omega) (Or.inl hc) hpn (fun m1 g1 ga => ?_)
      rw [hc] at ga
      have hst : stp (va_up st N 33) (N + 1) = stp st N := by
        show (if va_up st N 33 N = 33 then stp (va_up st N 33) N else N + 1) = _
        rw [va_up_self, if_pos rfl, hcg]
      cases hb : (pT qq T n r (p + 1)).2 with
      | none =>
        rw [pT_nn hc hb] at h0
        exact ih (N + 1) (p + 1) _ m1 (by omega) ga (fun _ => il_fr (h0 rfl) g1) (fun c hc2 => by rw [hb] at hc2; cases hc2)
      | some b =>
        rw [pT_ns hc hb] at h0 h1
        refine ih (N + 1) (p + 1) _ m1 (by omega) ga (fun hc2 => by rw [hb] at hc2; cases hc2) (fun c hc2 m2 g2 gb => ?_)
        rw [hst]
        exact h1 (cvN b) rfl m2 (mf_trans g1 g2) (down st _ m2 _ gb)
    by_cases hc2 : T p = 40
    · have hpn : p < n := Nat.lt_of_not_le (fun q => by rw [hz p q] at hc2; omega)
      refine m_push h (by omega) (Or.inr hc2) hpn (fun m1 g1 ga => ?_)
      rw [hc2] at ga
      have hst : stp (va_up st N 40) (N + 1) = N + 1 := by
        show (if va_up st N 40 N = 33 then stp (va_up st N 40) N else N + 1) = _
        rw [va_up_self, if_neg (by decide)]
      have hMP : it_MP d L xs rw o g z Q n T qq (N + 1) (pT qq T n r) := fun p' st' m' ha hs' k0 k1 => ih (N + 1) p' st' m' (by omega) ha k0 (fun c hc m2 g2 gb => by rw [hs']; exact k1 c hc m2 g2 gb)
      cases hb : (pC qq T n r (p + 1)).2 with
      | none =>
        rw [pT_pn hc2 hb] at h0
        exact mp_C (by omega) hMP (p + 1) _ m1 ga hst (fun _ => il_fr (h0 rfl) g1) (fun c hc3 => by rw [hb] at hc3; cases hc3)
      | some b =>
        refine mp_C (by omega) hMP (p + 1) _ m1 ga hst (fun hc3 => by rw [hb] at hc3; cases hc3) (fun c hc3 m2 g2 gb => ?_)
        by_cases hq : T (pC qq T n r (p + 1)).1 = 41
        · rw [pT_ps hc2 hb hq] at h1
          refine p_close gb (by omega) hq (fun m3 g3 gc => ?_)
          rw [hcg]
          exact h1 b rfl m3 (mf_trans (mf_trans g1 g2) g3) (down st _ m3 _ gc)
        · rw [pT_pe hc2 hb hq] at h0
          exact p_ill gb (by omega) (pC_38 hz (by omega) hb) (pC_end hz (by omega) hb) hq (il_fr (h0 rfl) (mf_trans g1 g2))
    · rw [pT_f hc hc2] at h0 h1
      exact m_fact h (by omega) hc hc2 h0 h1
theorem c92 {p : Nat} {mi : Nat → Nat → Int32} {v1 v2 v3 v4 : Value} (hx : it_mx n T qq mi) (hp : p ≤ n) (h7 : mi 99 7 = ii p) (h8 : mi 99 8 = 0) (hQ : ∀ mi', it_mf mi mi' → mi' 99 7 = ii (pC qq T n 6 p).1 → mi' 99 8 = bb ((pC qq T n 6 p).2 = none) → Q (.inl none) (it_mem L xs mi' rw o g z)) : iw (d + 3) 92 0 [.ref 99, v1, v2, v3, v4] [] (it_mem L xs mi rw o g z) Q := by
  have hz := hx.2.2.2.2.1
  have e0 : (0 : Int32) = ii 0 := rfl
  have hMP : it_MP d L xs rw o g z Q n T qq 0 (pT qq T n 6) := fun p' st' m' ha hs' k0 k1 => m_T 6 0 p' st' m' (by decide) ha k0 (fun c hc m2 g2 gb => by rw [hs']; exact k1 c hc m2 g2 gb)
  have hgo : it_HD d L xs rw o g z Q 0 mi := by
    refine mp_C (by decide) hMP p (fun _ => 0) mi ⟨hx, hp, h7, h8, fun j hj => absurd hj (Nat.not_lt_zero _)⟩ rfl (fun hb m1 g1 g7 g8 => hQ m1 g1 g7 (by rw [g8, bb_t hb])) (fun c hc m1 g1 ga => ?_)
    refine p_end ga (pC_38 hz hp hc) (pC_end hz hp hc) (hQ m1 g1 ga.2.2.1 ?_)
    rw [ga.2.2.2.1, bb_f (fun h => by rw [hc] at h; cases h)]
  simp only [w92_0, w92_1, w92_2, w92_3]
  exact hgo _ _
end
