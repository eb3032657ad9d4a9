/-! The reference's reader: its small steps. -/
def it_mx (n : Nat) (T : Nat → Nat) (qq : Bool) (mi : Nat → Nat → Int32) : Prop :=
  n ≤ 120 ∧ mi 99 5 = ii n ∧ mi 99 9 = bb (qq = true) ∧ (∀ j, j < n → mi 102 j = ii (T j)) ∧ (∀ j, n ≤ j → T j = 0) ∧ ∀ j, T j < 128
def it_mf (mi mi' : Nat → Nat → Int32) : Prop := (∀ a, a ≠ 99 → a ≠ 103 → mi' a = mi a) ∧ ∀ k, k ≠ 7 → k ≠ 8 → mi' 99 k = mi 99 k
theorem mf_refl {mi : Nat → Nat → Int32} : it_mf mi mi := ⟨fun _ _ _ => rfl, fun _ _ _ => rfl⟩
theorem mf_trans {m1 m2 m3 : Nat → Nat → Int32} (h1 : it_mf m1 m2) (h2 : it_mf m2 m3) : it_mf m1 m3 := ⟨fun a q1 q2 => (h2.1 a q1 q2).trans (h1.1 a q1 q2), fun k q1 q2 => (h2.2 k q1 q2).trans (h1.2 k q1 q2)⟩
theorem mf_9 {mi : Nat → Nat → Int32} {k : Nat} {x : Int32} (hk : k = 7 ∨ k = 8) : it_mf mi (it_up mi 99 k x) := ⟨fun a q1 _ => it_up_f _ _ _ q1, fun j q1 q2 => by rw [it_up_s, if_neg (by omega)]⟩
theorem mf_o {mi : Nat → Nat → Int32} {k : Nat} {x : Int32} : it_mf mi (it_up mi 103 k x) := ⟨fun a _ q2 => it_up_f _ _ _ q2, fun j _ _ => by rw [it_up_f _ _ _ (by decide)]⟩
theorem mx_fr {n : Nat} {T : Nat → Nat} {qq : Bool} {mi mi' : Nat → Nat → Int32} (h : it_mx n T qq mi) (hf : it_mf mi mi') : it_mx n T qq mi' := by
  obtain ⟨h1, h2, h3, h4, h5, h6⟩ := h
  refine ⟨h1, by rw [hf.2 5 (by decide) (by decide)]; exact h2, by rw [hf.2 9 (by decide) (by decide)]; exact h3, fun j hj => ?_, h5, h6⟩
  rw [hf.1 102 (by decide) (by decide)]
  exact h4 j hj
section
variable {d : Nat} {Q : im_O → im_M → Prop} {L : Nat} {xs : Nat → Int32} {mi : Nat → Nat → Int32} {rw : Nat → Nat} {o : Nat → Int64} {g z : Nat}
variable {n : Nat} {T : Nat → Nat} {qq : Bool}
theorem c91 {p : Nat} (hx : it_mx n T qq mi) (hp : p ≤ n) (h7 : mi 99 7 = ii p) : iw d 91 0 [.ref 99] [] (it_mem L xs mi rw o g z) Q ↔ Q (.inl (some (.int (ii (T p))))) (it_mem L xs mi rw o g z) := by
  obtain ⟨h1, h2, h3, h4, hz, h6⟩ := hx
  have vk : it_vok .char (ii (T p)) := vok_ch (by have := h6 p; omega)
  by_cases hpn : p < n
  · have e1 : ¬ ii n ≤ ii p := by rw [ii_le (by omega) (by omega)]; omega
    have e2 : (ii p).toNatClampNeg = p := ii_clamp (by omega)
    have b1 : it_inb L 102 (ii p) := ii_inb (by omega) (by rw [ln_102]; omega)
    simp only [w91_0, w91_1, w91_4, w91_5, w91_8, w91_11, w91_12, w91_15, w91_16, w91_19, w91_20, w91_23, w91_24, isk_99, cv_99_0, cv_99_1, cv_99_2, cv_99_3, cv_99_4, cv_99_5, cv_99_6, cv_99_7, cv_99_8, cv_99_9, cv_99_10, cv_99_11, cv_99_12, cv_99_13, cv_99_14, cv_99_15, cv_99_16, cv_99_17, cv_99_18, cv_99_19, cv_99_20, cv_99_21, cv_99_22, cv_99_23, cv_99_24, cv_99_25, cv_99_26, cv_99_27, cv_99_28, cv_99_29, cv_99_30, cv_99_31, cv_99_32, cv_99_33, cv_99_34, cv_99_35, cv_99_36, cv_99_37, cv_99_38, cv_99_39, cv_99_40, cv_99_41, cv_99_42, cv_99_43, cv_99_44, cv_99_45, cv_99_46, isa_102, ln_102, cv_102, ↓reduceIte, true_and, and_true, vok_int, vok_b0, vok_b1, vok_bb, r_backI, r_backV, bb_eq0, Nat.reduceAdd, Nat.reduceMul, Nat.reduceEqDiff, not_true_eq_false, not_false_eq_true, if_true, if_false, false_and, and_false, c17, c98, h7, h2, e1, e2, b1, h4 p hpn, vk]
  · have e1 : ii n ≤ ii p := by rw [ii_le (by omega) (by omega)]; omega
    have e0 : T p = 0 := hz p (by omega)
    have v0 : it_vok .char 0 := by rw [e0] at vk; exact vk
    rw [e0]
    simp only [w91_0, w91_1, w91_4, w91_5, w91_8, w91_11, w91_12, w91_15, w91_16, w91_19, w91_20, w91_23, w91_24, isk_99, cv_99_0, cv_99_1, cv_99_2, cv_99_3, cv_99_4, cv_99_5, cv_99_6, cv_99_7, cv_99_8, cv_99_9, cv_99_10, cv_99_11, cv_99_12, cv_99_13, cv_99_14, cv_99_15, cv_99_16, cv_99_17, cv_99_18, cv_99_19, cv_99_20, cv_99_21, cv_99_22, cv_99_23, cv_99_24, cv_99_25, cv_99_26, cv_99_27, cv_99_28, cv_99_29, cv_99_30, cv_99_31, cv_99_32, cv_99_33, cv_99_34, cv_99_35, cv_99_36, cv_99_37, cv_99_38, cv_99_39, cv_99_40, cv_99_41, cv_99_42, cv_99_43, cv_99_44, cv_99_45, cv_99_46, ↓reduceIte, true_and, and_true, vok_int, vok_b0, vok_b1, vok_bb, r_backI, r_backV, bb_eq0, Nat.reduceAdd, Nat.reduceMul, Nat.reduceEqDiff, not_true_eq_false, not_false_eq_true, if_true, if_false, false_and, and_false, c17, c98, h7, h2, e1, v0]
    exact Iff.rfl
theorem c90i {p : Nat} {a b : Int32} {v : Value} (hx : it_mx n T qq mi) (hp : p ≤ n) (h7 : mi 99 7 = ii p) (h8 : mi 99 8 = 1) : iw (d + 1) 90 0 [.ref 99, .int a, .int b, v] [] (it_mem L xs mi rw o g z) Q ↔ Q (.inl (some (.int 0))) (it_mem L xs mi rw o g z) := by
  have e : it_up mi 99 8 1 = mi := up_id h8
  simp only [w90_0, w90_1, w90_4, w90_5, w90_6, w90_7, w90_10, w90_13, w90_14, w90_15, w90_18, w90_19, w90_20, w90_23, w90_24, w90_27, w90_28, w90_31, w90_32, w90_35, w90_38, w90_39, w90_40, w90_41, w90_42, w90_45, w90_46, w90_47, w90_50, w90_51, w90_52, w90_53, isk_99, cv_99_0, cv_99_1, cv_99_2, cv_99_3, cv_99_4, cv_99_5, cv_99_6, cv_99_7, cv_99_8, cv_99_9, cv_99_10, cv_99_11, cv_99_12, cv_99_13, cv_99_14, cv_99_15, cv_99_16, cv_99_17, cv_99_18, cv_99_19, cv_99_20, cv_99_21, cv_99_22, cv_99_23, cv_99_24, cv_99_25, cv_99_26, cv_99_27, cv_99_28, cv_99_29, cv_99_30, cv_99_31, cv_99_32, cv_99_33, cv_99_34, cv_99_35, cv_99_36, cv_99_37, cv_99_38, cv_99_39, cv_99_40, cv_99_41, cv_99_42, cv_99_43, cv_99_44, cv_99_45, cv_99_46, ↓reduceIte, true_and, and_true, vok_int, vok_b0, vok_b1, vok_bb, r_backI, r_backV, bb_eq0, Nat.reduceAdd, Nat.reduceMul, Nat.reduceEqDiff, not_true_eq_false, not_false_eq_true, if_true, if_false, false_and, and_false, c17, c98, n_m1_0, n_m1_1, n_m1_2, n_m1_3, n_m1_4, n_m1_5, n_m1_6, n_0_m1, n_0_1, n_0_2, n_0_3, n_0_4, n_0_5, n_0_6, n_1_m1, n_1_0, n_1_2, n_1_3, n_1_4, n_1_5, n_1_6, n_2_m1, n_2_0, n_2_1, n_2_3, n_2_4, n_2_5, n_2_6, n_3_m1, n_3_0, n_3_1, n_3_2, n_3_4, n_3_5, n_3_6, n_4_m1, n_4_0, n_4_1, n_4_2, n_4_3, n_4_5, n_4_6, n_5_m1, n_5_0, n_5_1, n_5_2, n_5_3, n_5_4, n_5_6, n_6_m1, n_6_0, n_6_1, n_6_2, n_6_3, n_6_4, n_6_5, c91 hx hp h7, h8, e]
theorem c90t {p lo hi : Nat} {a b : Int32} {v : Value} (hx : it_mx n T qq mi) (hp : p ≤ n) (h7 : mi 99 7 = ii p) (h8 : mi 99 8 = 0) (ha : a = ii lo) (hb : b = ii hi) (hl : lo < 128) (hh : hi < 128) (h : lo ≤ T p ∧ T p ≤ hi) : iw (d + 1) 90 0 [.ref 99, .int a, .int b, v] [] (it_mem L xs mi rw o g z) Q ↔ Q (.inl (some (.int (ii (T p - lo))))) (it_mem L xs (it_up mi 99 7 (ii (p + 1))) rw o g z) := by
  have e : it_up mi 99 8 0 = mi := up_id h8
  have h6 := hx.2.2.2.2.2 p
  have c1 : ¬ ii (T p) < ii lo := by rw [ii_lt (by omega) (by omega)]; omega
  have c2 : ii (T p) ≤ ii hi := by rw [ii_le (by omega) (by omega)]; omega
  have e1 : ii p + 1 = ii (p + 1) := ii_add (b := 1)
  have e2 : ii (T p) - ii lo = ii (T p - lo) := ii_sub h.1
  subst ha
  subst hb
  simp only [w90_0, w90_1, w90_4, w90_5, w90_6, w90_7, w90_10, w90_13, w90_14, w90_15, w90_18, w90_19, w90_20, w90_23, w90_24, w90_27, w90_28, w90_31, w90_32, w90_35, w90_38, w90_39, w90_40, w90_41, w90_42, w90_45, w90_46, w90_47, w90_50, w90_51, w90_52, w90_53, isk_99, cv_99_0, cv_99_1, cv_99_2, cv_99_3, cv_99_4, cv_99_5, cv_99_6, cv_99_7, cv_99_8, cv_99_9, cv_99_10, cv_99_11, cv_99_12, cv_99_13, cv_99_14, cv_99_15, cv_99_16, cv_99_17, cv_99_18, cv_99_19, cv_99_20, cv_99_21, cv_99_22, cv_99_23, cv_99_24, cv_99_25, cv_99_26, cv_99_27, cv_99_28, cv_99_29, cv_99_30, cv_99_31, cv_99_32, cv_99_33, cv_99_34, cv_99_35, cv_99_36, cv_99_37, cv_99_38, cv_99_39, cv_99_40, cv_99_41, cv_99_42, cv_99_43, cv_99_44, cv_99_45, cv_99_46, ↓reduceIte, true_and, and_true, vok_int, vok_b0, vok_b1, vok_bb, r_backI, r_backV, bb_eq0, Nat.reduceAdd, Nat.reduceMul, Nat.reduceEqDiff, not_true_eq_false, not_false_eq_true, if_true, if_false, false_and, and_false, c17, c98, c91 hx hp h7, h8, e, c1, c2, h7, e1, e2]
theorem c90f {p lo hi : Nat} {a b : Int32} {v : Value} (hx : it_mx n T qq mi) (hp : p ≤ n) (h7 : mi 99 7 = ii p) (h8 : mi 99 8 = 0) (ha : a = ii lo) (hb : b = ii hi) (hl : lo < 128) (hh : hi < 128) (h : ¬ (lo ≤ T p ∧ T p ≤ hi)) : iw (d + 1) 90 0 [.ref 99, .int a, .int b, v] [] (it_mem L xs mi rw o g z) Q ↔ Q (.inl (some (.int 0))) (it_mem L xs (it_up mi 99 8 1) rw o g z) := by
  have h6 := hx.2.2.2.2.2 p
  subst ha
  subst hb
  by_cases h1 : T p < lo
  · have c1 : ii (T p) < ii lo := (ii_lt (by omega) (by omega)).mpr h1
    simp only [w90_0, w90_1, w90_4, w90_5, w90_6, w90_7, w90_10, w90_13, w90_14, w90_15, w90_18, w90_19, w90_20, w90_23, w90_24, w90_27, w90_28, w90_31, w90_32, w90_35, w90_38, w90_39, w90_40, w90_41, w90_42, w90_45, w90_46, w90_47, w90_50, w90_51, w90_52, w90_53, isk_99, cv_99_0, cv_99_1, cv_99_2, cv_99_3, cv_99_4, cv_99_5, cv_99_6, cv_99_7, cv_99_8, cv_99_9, cv_99_10, cv_99_11, cv_99_12, cv_99_13, cv_99_14, cv_99_15, cv_99_16, cv_99_17, cv_99_18, cv_99_19, cv_99_20, cv_99_21, cv_99_22, cv_99_23, cv_99_24, cv_99_25, cv_99_26, cv_99_27, cv_99_28, cv_99_29, cv_99_30, cv_99_31, cv_99_32, cv_99_33, cv_99_34, cv_99_35, cv_99_36, cv_99_37, cv_99_38, cv_99_39, cv_99_40, cv_99_41, cv_99_42, cv_99_43, cv_99_44, cv_99_45, cv_99_46, ↓reduceIte, true_and, and_true, vok_int, vok_b0, vok_b1, vok_bb, r_backI, r_backV, bb_eq0, Nat.reduceAdd, Nat.reduceMul, Nat.reduceEqDiff, not_true_eq_false, not_false_eq_true, if_true, if_false, false_and, and_false, c17, c98, n_m1_0, n_m1_1, n_m1_2, n_m1_3, n_m1_4, n_m1_5, n_m1_6, n_0_m1, n_0_1, n_0_2, n_0_3, n_0_4, n_0_5, n_0_6, n_1_m1, n_1_0, n_1_2, n_1_3, n_1_4, n_1_5, n_1_6, n_2_m1, n_2_0, n_2_1, n_2_3, n_2_4, n_2_5, n_2_6, n_3_m1, n_3_0, n_3_1, n_3_2, n_3_4, n_3_5, n_3_6, n_4_m1, n_4_0, n_4_1, n_4_2, n_4_3, n_4_5, n_4_6, n_5_m1, n_5_0, n_5_1, n_5_2, n_5_3, n_5_4, n_5_6, n_6_m1, n_6_0, n_6_1, n_6_2, n_6_3, n_6_4, n_6_5, c91 hx hp h7, h8, c1, it_up_same]
  · have c1 : ¬ ii (T p) < ii lo := by rw [ii_lt (by omega) (by omega)]; omega
    have c2 : ¬ ii (T p) ≤ ii hi := by rw [ii_le (by omega) (by omega)]; omega
    simp only [w90_0, w90_1, w90_4, w90_5, w90_6, w90_7, w90_10, w90_13, w90_14, w90_15, w90_18, w90_19, w90_20, w90_23, w90_24, w90_27, w90_28, w90_31, w90_32, w90_35, w90_38, w90_39, w90_40, w90_41, w90_42, w90_45, w90_46, w90_47, w90_50, w90_51, w90_52, w90_53, isk_99, cv_99_0, cv_99_1, cv_99_2, cv_99_3, cv_99_4, cv_99_5, cv_99_6, cv_99_7, cv_99_8, cv_99_9, cv_99_10, cv_99_11, cv_99_12, cv_99_13, cv_99_14, cv_99_15, cv_99_16, cv_99_17, cv_99_18, cv_99_19, cv_99_20, cv_99_21, cv_99_22, cv_99_23, cv_99_24, cv_99_25, cv_99_26, cv_99_27, cv_99_28, cv_99_29, cv_99_30, cv_99_31, cv_99_32, cv_99_33, cv_99_34, cv_99_35, cv_99_36, cv_99_37, cv_99_38, cv_99_39, cv_99_40, cv_99_41, cv_99_42, cv_99_43, cv_99_44, cv_99_45, cv_99_46, ↓reduceIte, true_and, and_true, vok_int, vok_b0, vok_b1, vok_bb, r_backI, r_backV, bb_eq0, Nat.reduceAdd, Nat.reduceMul, Nat.reduceEqDiff, not_true_eq_false, not_false_eq_true, if_true, if_false, false_and, and_false, c17, c98, n_m1_0, n_m1_1, n_m1_2, n_m1_3, n_m1_4, n_m1_5, n_m1_6, n_0_m1, n_0_1, n_0_2, n_0_3, n_0_4, n_0_5, n_0_6, n_1_m1, n_1_0, n_1_2, n_1_3, n_1_4, n_1_5, n_1_6, n_2_m1, n_2_0, n_2_1, n_2_3, n_2_4, n_2_5, n_2_6, n_3_m1, n_3_0, n_3_1, n_3_2, n_3_4, n_3_5, n_3_6, n_4_m1, n_4_0, n_4_1, n_4_2, n_4_3, n_4_5, n_4_6, n_5_m1, n_5_0, n_5_1, n_5_2, n_5_3, n_5_4, n_5_6, n_6_m1, n_6_0, n_6_1, n_6_2, n_6_3, n_6_4, n_6_5, c91 hx hp h7, h8, c1, c2, it_up_same]
theorem c94 {a : Nat} (hx : it_mx n T qq mi) (ha : a < 128) : iw d 94 0 [.ref 99, .int (ii a)] [] (it_mem L xs mi rw o g z) Q ↔ Q (.inl (some (.int (bb (a = 112 ∨ a = 117 ∨ a = 110 ∨ (qq = true ∧ a = 115) ∨ (qq = false ∧ (a = 114 ∨ a = 111))))))) (it_mem L xs mi rw o g z) := by
  have h9 := hx.2.2.1
  have a1 : ii a = 110 ↔ a = 110 := by rw [lit_110, ii_inj (by omega) (by decide)]
  have a2 : ii a = 111 ↔ a = 111 := by rw [lit_111, ii_inj (by omega) (by decide)]
  have a3 : ii a = 112 ↔ a = 112 := by rw [lit_112, ii_inj (by omega) (by decide)]
  have a4 : ii a = 114 ↔ a = 114 := by rw [lit_114, ii_inj (by omega) (by decide)]
  have a5 : ii a = 115 ↔ a = 115 := by rw [lit_115, ii_inj (by omega) (by decide)]
  have a6 : ii a = 117 ↔ a = 117 := by rw [lit_117, ii_inj (by omega) (by decide)]
  by_cases e1 : a = 112
  · rw [bb_t (Or.inl e1)]
    simp only [w94_0, w94_1, w94_3, w94_6, w94_7, w94_9, w94_12, w94_13, w94_15, w94_18, w94_19, w94_20, w94_21, w94_24, w94_27, w94_28, w94_30, w94_33, w94_34, w94_37, w94_38, w94_41, w94_42, w94_44, w94_47, w94_48, w94_50, w94_53, w94_54, w94_57, w94_58, isk_99, cv_99_0, cv_99_1, cv_99_2, cv_99_3, cv_99_4, cv_99_5, cv_99_6, cv_99_7, cv_99_8, cv_99_9, cv_99_10, cv_99_11, cv_99_12, cv_99_13, cv_99_14, cv_99_15, cv_99_16, cv_99_17, cv_99_18, cv_99_19, cv_99_20, cv_99_21, cv_99_22, cv_99_23, cv_99_24, cv_99_25, cv_99_26, cv_99_27, cv_99_28, cv_99_29, cv_99_30, cv_99_31, cv_99_32, cv_99_33, cv_99_34, cv_99_35, cv_99_36, cv_99_37, cv_99_38, cv_99_39, cv_99_40, cv_99_41, cv_99_42, cv_99_43, cv_99_44, cv_99_45, cv_99_46, ↓reduceIte, true_and, and_true, vok_int, vok_b0, vok_b1, vok_bb, r_backI, r_backV, bb_eq0, Nat.reduceAdd, Nat.reduceMul, Nat.reduceEqDiff, not_true_eq_false, not_false_eq_true, if_true, if_false, false_and, and_false, c17, c98, a3, eq_true e1]
  by_cases e2 : a = 117
  · rw [bb_t (Or.inr (Or.inl e2))]
    simp only [w94_0, w94_1, w94_3, w94_6, w94_7, w94_9, w94_12, w94_13, w94_15, w94_18, w94_19, w94_20, w94_21, w94_24, w94_27, w94_28, w94_30, w94_33, w94_34, w94_37, w94_38, w94_41, w94_42, w94_44, w94_47, w94_48, w94_50, w94_53, w94_54, w94_57, w94_58, isk_99, cv_99_0, cv_99_1, cv_99_2, cv_99_3, cv_99_4, cv_99_5, cv_99_6, cv_99_7, cv_99_8, cv_99_9, cv_99_10, cv_99_11, cv_99_12, cv_99_13, cv_99_14, cv_99_15, cv_99_16, cv_99_17, cv_99_18, cv_99_19, cv_99_20, cv_99_21, cv_99_22, cv_99_23, cv_99_24, cv_99_25, cv_99_26, cv_99_27, cv_99_28, cv_99_29, cv_99_30, cv_99_31, cv_99_32, cv_99_33, cv_99_34, cv_99_35, cv_99_36, cv_99_37, cv_99_38, cv_99_39, cv_99_40, cv_99_41, cv_99_42, cv_99_43, cv_99_44, cv_99_45, cv_99_46, ↓reduceIte, true_and, and_true, vok_int, vok_b0, vok_b1, vok_bb, r_backI, r_backV, bb_eq0, Nat.reduceAdd, Nat.reduceMul, Nat.reduceEqDiff, not_true_eq_false, not_false_eq_true, if_true, if_false, false_and, and_false, c17, c98, a3, a6, e1, eq_true e2]
  by_cases e3 : a = 110
  · rw [bb_t (Or.inr (Or.inr (Or.inl e3)))]
    simp only [w94_0, w94_1, w94_3, w94_6, w94_7, w94_9, w94_12, w94_13, w94_15, w94_18, w94_19, w94_20, w94_21, w94_24, w94_27, w94_28, w94_30, w94_33, w94_34, w94_37, w94_38, w94_41, w94_42, w94_44, w94_47, w94_48, w94_50, w94_53, w94_54, w94_57, w94_58, isk_99, cv_99_0, cv_99_1, cv_99_2, cv_99_3, cv_99_4, cv_99_5, cv_99_6, cv_99_7, cv_99_8, cv_99_9, cv_99_10, cv_99_11, cv_99_12, cv_99_13, cv_99_14, cv_99_15, cv_99_16, cv_99_17, cv_99_18, cv_99_19, cv_99_20, cv_99_21, cv_99_22, cv_99_23, cv_99_24, cv_99_25, cv_99_26, cv_99_27, cv_99_28, cv_99_29, cv_99_30, cv_99_31, cv_99_32, cv_99_33, cv_99_34, cv_99_35, cv_99_36, cv_99_37, cv_99_38, cv_99_39, cv_99_40, cv_99_41, cv_99_42, cv_99_43, cv_99_44, cv_99_45, cv_99_46, ↓reduceIte, true_and, and_true, vok_int, vok_b0, vok_b1, vok_bb, r_backI, r_backV, bb_eq0, Nat.reduceAdd, Nat.reduceMul, Nat.reduceEqDiff, not_true_eq_false, not_false_eq_true, if_true, if_false, false_and, and_false, c17, c98, a1, a3, a6, e1, e2, eq_true e3]
  cases qq with
  | true =>
    have h9 : mi 99 9 = 1 := h9.trans (bb_t rfl)
    by_cases e4 : a = 115
    · rw [bb_t (Or.inr (Or.inr (Or.inr (Or.inl ⟨rfl, e4⟩))))]
      simp only [w94_0, w94_1, w94_3, w94_6, w94_7, w94_9, w94_12, w94_13, w94_15, w94_18, w94_19, w94_20, w94_21, w94_24, w94_27, w94_28, w94_30, w94_33, w94_34, w94_37, w94_38, w94_41, w94_42, w94_44, w94_47, w94_48, w94_50, w94_53, w94_54, w94_57, w94_58, isk_99, cv_99_0, cv_99_1, cv_99_2, cv_99_3, cv_99_4, cv_99_5, cv_99_6, cv_99_7, cv_99_8, cv_99_9, cv_99_10, cv_99_11, cv_99_12, cv_99_13, cv_99_14, cv_99_15, cv_99_16, cv_99_17, cv_99_18, cv_99_19, cv_99_20, cv_99_21, cv_99_22, cv_99_23, cv_99_24, cv_99_25, cv_99_26, cv_99_27, cv_99_28, cv_99_29, cv_99_30, cv_99_31, cv_99_32, cv_99_33, cv_99_34, cv_99_35, cv_99_36, cv_99_37, cv_99_38, cv_99_39, cv_99_40, cv_99_41, cv_99_42, cv_99_43, cv_99_44, cv_99_45, cv_99_46, ↓reduceIte, true_and, and_true, vok_int, vok_b0, vok_b1, vok_bb, r_backI, r_backV, bb_eq0, Nat.reduceAdd, Nat.reduceMul, Nat.reduceEqDiff, not_true_eq_false, not_false_eq_true, if_true, if_false, false_and, and_false, c17, c98, n_m1_0, n_m1_1, n_m1_2, n_m1_3, n_m1_4, n_m1_5, n_m1_6, n_0_m1, n_0_1, n_0_2, n_0_3, n_0_4, n_0_5, n_0_6, n_1_m1, n_1_0, n_1_2, n_1_3, n_1_4, n_1_5, n_1_6, n_2_m1, n_2_0, n_2_1, n_2_3, n_2_4, n_2_5, n_2_6, n_3_m1, n_3_0, n_3_1, n_3_2, n_3_4, n_3_5, n_3_6, n_4_m1, n_4_0, n_4_1, n_4_2, n_4_3, n_4_5, n_4_6, n_5_m1, n_5_0, n_5_1, n_5_2, n_5_3, n_5_4, n_5_6, n_6_m1, n_6_0, n_6_1, n_6_2, n_6_3, n_6_4, n_6_5, a1, a3, a5, a6, e1, e2, e3, h9, eq_true e4]
    · rw [bb_f (by rintro (h | h | h | h | h) <;> first | exact e1 h | exact e2 h | exact e3 h | exact e4 h.2 | (cases h.1))]
      simp only [w94_0, w94_1, w94_3, w94_6, w94_7, w94_9, w94_12, w94_13, w94_15, w94_18, w94_19, w94_20, w94_21, w94_24, w94_27, w94_28, w94_30, w94_33, w94_34, w94_37, w94_38, w94_41, w94_42, w94_44, w94_47, w94_48, w94_50, w94_53, w94_54, w94_57, w94_58, isk_99, cv_99_0, cv_99_1, cv_99_2, cv_99_3, cv_99_4, cv_99_5, cv_99_6, cv_99_7, cv_99_8, cv_99_9, cv_99_10, cv_99_11, cv_99_12, cv_99_13, cv_99_14, cv_99_15, cv_99_16, cv_99_17, cv_99_18, cv_99_19, cv_99_20, cv_99_21, cv_99_22, cv_99_23, cv_99_24, cv_99_25, cv_99_26, cv_99_27, cv_99_28, cv_99_29, cv_99_30, cv_99_31, cv_99_32, cv_99_33, cv_99_34, cv_99_35, cv_99_36, cv_99_37, cv_99_38, cv_99_39, cv_99_40, cv_99_41, cv_99_42, cv_99_43, cv_99_44, cv_99_45, cv_99_46, ↓reduceIte, true_and, and_true, vok_int, vok_b0, vok_b1, vok_bb, r_backI, r_backV, bb_eq0, Nat.reduceAdd, Nat.reduceMul, Nat.reduceEqDiff, not_true_eq_false, not_false_eq_true, if_true, if_false, false_and, and_false, c17, c98, n_m1_0, n_m1_1, n_m1_2, n_m1_3, n_m1_4, n_m1_5, n_m1_6, n_0_m1, n_0_1, n_0_2, n_0_3, n_0_4, n_0_5, n_0_6, n_1_m1, n_1_0, n_1_2, n_1_3, n_1_4, n_1_5, n_1_6, n_2_m1, n_2_0, n_2_1, n_2_3, n_2_4, n_2_5, n_2_6, n_3_m1, n_3_0, n_3_1, n_3_2, n_3_4, n_3_5, n_3_6, n_4_m1, n_4_0, n_4_1, n_4_2, n_4_3, n_4_5, n_4_6, n_5_m1, n_5_0, n_5_1, n_5_2, n_5_3, n_5_4, n_5_6, n_6_m1, n_6_0, n_6_1, n_6_2, n_6_3, n_6_4, n_6_5, a1, a3, a5, a6, e1, e2, e3, h9, e4]
  | false =>
    have h9 : mi 99 9 = 0 := h9.trans (bb_f (fun h => by cases h))
    by_cases e4 : a = 114
    · rw [bb_t (Or.inr (Or.inr (Or.inr (Or.inr ⟨rfl, Or.inl e4⟩))))]
      simp only [w94_0, w94_1, w94_3, w94_6, w94_7, w94_9, w94_12, w94_13, w94_15, w94_18, w94_19, w94_20, w94_21, w94_24, w94_27, w94_28, w94_30, w94_33, w94_34, w94_37, w94_38, w94_41, w94_42, w94_44, w94_47, w94_48, w94_50, w94_53, w94_54, w94_57, w94_58, isk_99, cv_99_0, cv_99_1, cv_99_2, cv_99_3, cv_99_4, cv_99_5, cv_99_6, cv_99_7, cv_99_8, cv_99_9, cv_99_10, cv_99_11, cv_99_12, cv_99_13, cv_99_14, cv_99_15, cv_99_16, cv_99_17, cv_99_18, cv_99_19, cv_99_20, cv_99_21, cv_99_22, cv_99_23, cv_99_24, cv_99_25, cv_99_26, cv_99_27, cv_99_28, cv_99_29, cv_99_30, cv_99_31, cv_99_32, cv_99_33, cv_99_34, cv_99_35, cv_99_36, cv_99_37, cv_99_38, cv_99_39, cv_99_40, cv_99_41, cv_99_42, cv_99_43, cv_99_44, cv_99_45, cv_99_46, ↓reduceIte, true_and, and_true, vok_int, vok_b0, vok_b1, vok_bb, r_backI, r_backV, bb_eq0, Nat.reduceAdd, Nat.reduceMul, Nat.reduceEqDiff, not_true_eq_false, not_false_eq_true, if_true, if_false, false_and, and_false, c17, c98, a1, a3, a4, a6, e1, e2, e3, h9, eq_true e4]
    by_cases e5 : a = 111
    · rw [bb_t (Or.inr (Or.inr (Or.inr (Or.inr ⟨rfl, Or.inr e5⟩))))]
      simp only [w94_0, w94_1, w94_3, w94_6, w94_7, w94_9, w94_12, w94_13, w94_15, w94_18, w94_19, w94_20, w94_21, w94_24, w94_27, w94_28, w94_30, w94_33, w94_34, w94_37, w94_38, w94_41, w94_42, w94_44, w94_47, w94_48, w94_50, w94_53, w94_54, w94_57, w94_58, isk_99, cv_99_0, cv_99_1, cv_99_2, cv_99_3, cv_99_4, cv_99_5, cv_99_6, cv_99_7, cv_99_8, cv_99_9, cv_99_10, cv_99_11, cv_99_12, cv_99_13, cv_99_14, cv_99_15, cv_99_16, cv_99_17, cv_99_18, cv_99_19, cv_99_20, cv_99_21, cv_99_22, cv_99_23, cv_99_24, cv_99_25, cv_99_26, cv_99_27, cv_99_28, cv_99_29, cv_99_30, cv_99_31, cv_99_32, cv_99_33, cv_99_34, cv_99_35, cv_99_36, cv_99_37, cv_99_38, cv_99_39, cv_99_40, cv_99_41, cv_99_42, cv_99_43, cv_99_44, cv_99_45, cv_99_46, ↓reduceIte, true_and, and_true, vok_int, vok_b0, vok_b1, vok_bb, r_backI, r_backV, bb_eq0, Nat.reduceAdd, Nat.reduceMul, Nat.reduceEqDiff, not_true_eq_false, not_false_eq_true, if_true, if_false, false_and, and_false, c17, c98, a1, a2, a3, a4, a6, e1, e2, e3, h9, e4, eq_true e5]
    · rw [bb_f (by rintro (h | h | h | h | h) <;> first | exact e1 h | exact e2 h | exact e3 h | (cases h.1; done) | exact h.2.elim e4 e5)]
      simp only [w94_0, w94_1, w94_3, w94_6, w94_7, w94_9, w94_12, w94_13, w94_15, w94_18, w94_19, w94_20, w94_21, w94_24, w94_27, w94_28, w94_30, w94_33, w94_34, w94_37, w94_38, w94_41, w94_42, w94_44, w94_47, w94_48, w94_50, w94_53, w94_54, w94_57, w94_58, isk_99, cv_99_0, cv_99_1, cv_99_2, cv_99_3, cv_99_4, cv_99_5, cv_99_6, cv_99_7, cv_99_8, cv_99_9, cv_99_10, cv_99_11, cv_99_12, cv_99_13, cv_99_14, cv_99_15, cv_99_16, cv_99_17, cv_99_18, cv_99_19, cv_99_20, cv_99_21, cv_99_22, cv_99_23, cv_99_24, cv_99_25, cv_99_26, cv_99_27, cv_99_28, cv_99_29, cv_99_30, cv_99_31, cv_99_32, cv_99_33, cv_99_34, cv_99_35, cv_99_36, cv_99_37, cv_99_38, cv_99_39, cv_99_40, cv_99_41, cv_99_42, cv_99_43, cv_99_44, cv_99_45, cv_99_46, ↓reduceIte, true_and, and_true, vok_int, vok_b0, vok_b1, vok_bb, r_backI, r_backV, bb_eq0, Nat.reduceAdd, Nat.reduceMul, Nat.reduceEqDiff, not_true_eq_false, not_false_eq_true, if_true, if_false, false_and, and_false, c17, c98, a1, a2, a3, a4, a6, e1, e2, e3, h9, e4, e5]
/-- how many are left when the signs ! on top are taken away -/
def stp (st : Nat → Nat) : Nat → Nat
  | 0 => 0
  | k + 1 => if st k = 33 then stp st k else k + 1
theorem stp_le {st : Nat → Nat} : ∀ k, stp st k ≤ k := by
  intro k
  induction k with
  | zero => exact Nat.le_refl _
  | succ k ih =>
    show (if st k = 33 then stp st k else k + 1) ≤ k + 1
    split <;> omega
theorem stp_cg {st st' : Nat → Nat} : ∀ k, (∀ j, j < k → st' j = st j) → stp st' k = stp st k := by
  intro k
  induction k with
  | zero => intro _; rfl
  | succ k ih =>
    intro h
    show (if st' k = 33 then stp st' k else k + 1) = (if st k = 33 then stp st k else k + 1)
    rw [h k (by omega), ih (fun j hj => h j (by omega))]
theorem c95L {N : Nat} {st : Nat → Nat} {v1 : Value} (hN : N ≤ 6) (hs : ∀ j, j < N → mi 103 j = ii (st j) ∧ st j < 128) : ∀ k, k ≤ N → (iw d 95 2 [.ref 99, v1, .int (ii k)] [] (it_mem L xs mi rw o g z) Q ↔ Q (.inl (some (.int (ii (stp st k))))) (it_mem L xs mi rw o g z)) := by
  intro k
  induction k with
  | zero =>
    intro _
    have e1 : ii 0 ≤ 0 := by decide
    rw [w95_2]
    simp only [w95_3, w95_25, w95_26, ↓reduceIte, true_and, and_true, vok_int, vok_b0, vok_b1, vok_bb, r_backI, r_backV, bb_eq0, Nat.reduceAdd, Nat.reduceMul, Nat.reduceEqDiff, not_true_eq_false, not_false_eq_true, if_true, if_false, false_and, and_false, c17, c98, e1, stp]
  | succ k ih =>
    intro hk
    obtain ⟨h1, h2⟩ := hs k (by omega)
    have e1 : ¬ ii (k + 1) ≤ 0 := by rw [lit_0, ii_le (by omega) (by decide)]; omega
    have e2 : ii (k + 1) - 1 = ii k := by rw [lit_1, ii_sub (by omega)]; rfl
    have e3 : (ii k).toNatClampNeg = k := ii_clamp (by omega)
    have e4 : ii (k + 1) + (-1) = ii k := by
      have : ii (k + 1) = ii k + 1 := (ii_add (b := 1)).symm
      rw [this, Int32.add_assoc, show (1 : Int32) + (-1) = 0 from by decide, Int32.add_zero]
    have b1 : it_inb L 103 (ii k) := ii_inb (by omega) (by rw [ln_103]; omega)
    have a1 : ii (st k) = 33 ↔ st k = 33 := by rw [lit_33, ii_inj (by omega) (by decide)]
    rw [w95_2]
    by_cases h : st k = 33
    · have hst : stp st (k + 1) = stp st k := if_pos h
      rw [hst]
      simp only [w95_3, w95_6, w95_7, w95_10, w95_11, w95_12, w95_13, w95_14, w95_16, w95_19, w95_22, isk_99, cv_99_0, cv_99_1, cv_99_2, cv_99_3, cv_99_4, cv_99_5, cv_99_6, cv_99_7, cv_99_8, cv_99_9, cv_99_10, cv_99_11, cv_99_12, cv_99_13, cv_99_14, cv_99_15, cv_99_16, cv_99_17, cv_99_18, cv_99_19, cv_99_20, cv_99_21, cv_99_22, cv_99_23, cv_99_24, cv_99_25, cv_99_26, cv_99_27, cv_99_28, cv_99_29, cv_99_30, cv_99_31, cv_99_32, cv_99_33, cv_99_34, cv_99_35, cv_99_36, cv_99_37, cv_99_38, cv_99_39, cv_99_40, cv_99_41, cv_99_42, cv_99_43, cv_99_44, cv_99_45, cv_99_46, isa_103, ln_103, cv_103, ↓reduceIte, true_and, and_true, vok_int, vok_b0, vok_b1, vok_bb, r_backI, r_backV, bb_eq0, Nat.reduceAdd, Nat.reduceMul, Nat.reduceEqDiff, not_true_eq_false, not_false_eq_true, if_true, if_false, false_and, and_false, c17, c98, e1, e2, e3, e4, b1, h1, a1, eq_true h, ih (by omega)]
    · have hst : stp st (k + 1) = k + 1 := if_neg h
      rw [hst]
      simp only [w95_3, w95_6, w95_7, w95_10, w95_11, w95_12, w95_13, w95_14, w95_16, w95_19, w95_22, w95_25, w95_26, isk_99, cv_99_0, cv_99_1, cv_99_2, cv_99_3, cv_99_4, cv_99_5, cv_99_6, cv_99_7, cv_99_8, cv_99_9, cv_99_10, cv_99_11, cv_99_12, cv_99_13, cv_99_14, cv_99_15, cv_99_16, cv_99_17, cv_99_18, cv_99_19, cv_99_20, cv_99_21, cv_99_22, cv_99_23, cv_99_24, cv_99_25, cv_99_26, cv_99_27, cv_99_28, cv_99_29, cv_99_30, cv_99_31, cv_99_32, cv_99_33, cv_99_34, cv_99_35, cv_99_36, cv_99_37, cv_99_38, cv_99_39, cv_99_40, cv_99_41, cv_99_42, cv_99_43, cv_99_44, cv_99_45, cv_99_46, isa_103, ln_103, cv_103, ↓reduceIte, true_and, and_true, vok_int, vok_b0, vok_b1, vok_bb, r_backI, r_backV, bb_eq0, Nat.reduceAdd, Nat.reduceMul, Nat.reduceEqDiff, not_true_eq_false, not_false_eq_true, if_true, if_false, false_and, and_false, c17, c98, e1, e2, e3, b1, h1, a1, h]
theorem c95 {N : Nat} {st : Nat → Nat} {v : Value} (hN : N ≤ 6) (hs : ∀ j, j < N → mi 103 j = ii (st j) ∧ st j < 128) : iw d 95 0 [.ref 99, .int (ii N), v] [] (it_mem L xs mi rw o g z) Q ↔ Q (.inl (some (.int (ii (stp st N))))) (it_mem L xs mi rw o g z) := by
  simp only [w95_0, w95_1, c95L hN hs N (Nat.le_refl _)]
/-- a fact -/
theorem c93 {p : Nat} {v : Value} (hx : it_mx n T qq mi) (hp : p ≤ n) (h7 : mi 99 7 = ii p) (h8 : mi 99 8 = 0) (hQ : ∀ mi', it_mf mi mi' → mi' 103 = mi 103 → mi' 99 7 = ii (pF qq T p).1 → mi' 99 8 = bb ((pF qq T p).2 = none) → Q (.inl none) (it_mem L xs mi' rw o g z)) : iw (d + 2) 93 0 [.ref 99, v] [] (it_mem L xs mi rw o g z) Q := by
  have hT := hx.2.2.2.2.2 p
  have hz := hx.2.2.2.2.1
  have e1 : ii p + 1 = ii (p + 1) := ii_add (b := 1)
  have up0 : it_up mi 99 8 0 = mi := up_id h8
  have hf1 : it_mf mi (it_up mi 99 7 (ii (p + 1))) := mf_9 (Or.inl rfl)
  have hx1 := mx_fr hx hf1
  have h71 : it_up mi 99 7 (ii (p + 1)) 99 7 = ii (p + 1) := it_up_same _ _ _ _
  have h81 : it_up mi 99 7 (ii (p + 1)) 99 8 = 0 := by rw [it_up_s, if_neg (by decide)]; exact h8
  have hf2 : it_mf mi (it_up (it_up mi 99 7 (ii (p + 1))) 99 7 (ii (p + 1 + 1))) := mf_trans hf1 (mf_9 (Or.inl rfl))
  have hx2 := mx_fr hx hf2
  have h72 : it_up (it_up mi 99 7 (ii (p + 1))) 99 7 (ii (p + 1 + 1)) 99 7 = ii (p + 2) := it_up_same _ _ _ _
  have h82 : it_up (it_up mi 99 7 (ii (p + 1))) 99 7 (ii (p + 1 + 1)) 99 8 = 0 := by rw [it_up_s, if_neg (by decide)]; exact h81
  have nz : ∀ X k x, it_up X 99 k x 103 = X 103 := fun X k x => it_up_f _ _ _ (by decide)
  have a1 : ii (T p) = 110 ↔ T p = 110 := by rw [lit_110, ii_inj (by omega) (by decide)]
  have a2 : ii (T p) = 111 ↔ T p = 111 := by rw [lit_111, ii_inj (by omega) (by decide)]
  have a3 : ii (T p) = 112 ↔ T p = 112 := by rw [lit_112, ii_inj (by omega) (by decide)]
  have a5 : ii (T p) = 115 ↔ T p = 115 := by rw [lit_115, ii_inj (by omega) (by decide)]
  by_cases hnm : (T p = 112 ∨ T p = 117 ∨ T p = 110 ∨ (qq = true ∧ T p = 115) ∨ (qq = false ∧ (T p = 114 ∨ T p = 111)))
  · have hpn : p < n := Nat.lt_of_not_le (fun q => by rw [hz p q] at hnm; omega)
    have hbeg : iw (d + 2) 93 0 [.ref 99, v] [] (it_mem L xs mi rw o g z) Q ↔ iw (d + 2) 93 47 [.ref 99, .int (ii (T p))] [] (it_mem L xs (it_up mi 99 7 (ii (p + 1))) rw o g z) Q := by
      simp only [w93_0, w93_1, w93_4, w93_5, w93_6, w93_7, w93_10, w93_13, w93_14, w93_15, w93_18, w93_21, w93_22, w93_25, w93_26, w93_29, w93_30, w93_33, w93_36, w93_37, w93_38, w93_39, w93_42, w93_43, w93_44, isk_99, cv_99_0, cv_99_1, cv_99_2, cv_99_3, cv_99_4, cv_99_5, cv_99_6, cv_99_7, cv_99_8, cv_99_9, cv_99_10, cv_99_11, cv_99_12, cv_99_13, cv_99_14, cv_99_15, cv_99_16, cv_99_17, cv_99_18, cv_99_19, cv_99_20, cv_99_21, cv_99_22, cv_99_23, cv_99_24, cv_99_25, cv_99_26, cv_99_27, cv_99_28, cv_99_29, cv_99_30, cv_99_31, cv_99_32, cv_99_33, cv_99_34, cv_99_35, cv_99_36, cv_99_37, cv_99_38, cv_99_39, cv_99_40, cv_99_41, cv_99_42, cv_99_43, cv_99_44, cv_99_45, cv_99_46, ↓reduceIte, true_and, and_true, vok_int, vok_b0, vok_b1, vok_bb, r_backI, r_backV, bb_eq0, Nat.reduceAdd, Nat.reduceMul, Nat.reduceEqDiff, not_true_eq_false, not_false_eq_true, if_true, if_false, false_and, and_false, c17, c98, c91 hx hp h7, h8, c94 hx hT, eq_true hnm, up0, h7, e1]
    rw [hbeg]
    -- name alone
    have hno : (T p = 110 ∨ T p = 111) → (∃ K, pF qq T p = (p + 1, some (cvF K 0))) → iw (d + 2) 93 47 [.ref 99, .int (ii (T p))] [] (it_mem L xs (it_up mi 99 7 (ii (p + 1))) rw o g z) Q := by
      rintro hor ⟨K, hpF⟩
      rw [hpF] at hQ
      have hfin := hQ _ hf1 (nz _ _ _) h71 (by rw [h81, bb_f (fun h => by cases h)])
      rcases hor with h | h
      · simp only [w93_47, w93_48, w93_50, w93_53, w93_54, w93_56, w93_59, ↓reduceIte, true_and, and_true, vok_int, vok_b0, vok_b1, vok_bb, r_backI, r_backV, bb_eq0, Nat.reduceAdd, Nat.reduceMul, Nat.reduceEqDiff, not_true_eq_false, not_false_eq_true, if_true, if_false, false_and, and_false, c17, c98, a1, eq_true h]
        exact hfin
      · have n1 : ¬ T p = 110 := by omega
        simp only [w93_47, w93_48, w93_50, w93_53, w93_54, w93_56, w93_59, ↓reduceIte, true_and, and_true, vok_int, vok_b0, vok_b1, vok_bb, r_backI, r_backV, bb_eq0, Nat.reduceAdd, Nat.reduceMul, Nat.reduceEqDiff, not_true_eq_false, not_false_eq_true, if_true, if_false, false_and, and_false, c17, c98, a1, a2, n1, eq_true h]
        exact hfin
    -- the last character, and before it the sign
    have hdig : ∀ (K : Int32) (lo hi : Nat) (x y : Int32), x = ii lo → y = ii hi → lo < 128 → hi < 128 → T (p + 1) ≠ 0 → pF qq T p = pD T p K lo hi → (∀ v, iw (d + 1) 90 0 [.ref 99, .int x, .int y, v] [] (it_mem L xs (it_up (it_up mi 99 7 (ii (p + 1))) 99 7 (ii (p + 1 + 1))) rw o g z) (fun _ M => Q (.inl none) M)) := by
      intro K lo hi x y hxl hyl hl hh h0 hpF v
      have hp2 : p + 1 < n := Nat.lt_of_not_le (fun q => h0 (hz _ q))
      rw [hpF] at hQ
      by_cases hd : lo ≤ T (p + 2) ∧ T (p + 2) ≤ hi
      · have hpD : pD T p K lo hi = (p + 3, some (cvF K (ii (T (p + 2) - lo)))) := if_pos hd
        rw [hpD] at hQ
        rw [c90t hx2 (by omega) h72 h82 hxl hyl hl hh hd]
        exact hQ _ (mf_trans hf2 (mf_9 (Or.inl rfl))) (by rw [nz, nz, nz]) (it_up_same _ _ _ _) (by rw [it_up_s, if_neg (by decide), h82, bb_f (fun h => by cases h)])
      · have hpD : pD T p K lo hi = (p + 2, none) := if_neg hd
        rw [hpD] at hQ
        rw [c90f hx2 (by omega) h72 h82 hxl hyl hl hh hd]
        exact hQ _ (mf_trans hf2 (mf_9 (Or.inr rfl))) (by rw [nz, nz, nz]) (by rw [it_up_s, if_neg (by decide)]; exact h72) (by rw [it_up_same, bb_t rfl])
    -- the sign is ill
    have hill : pF qq T p = (p + 1, none) → Q (.inl none) (it_mem L xs (it_up (it_up mi 99 7 (ii (p + 1))) 99 8 1) rw o g z) := by
      intro hpF
      rw [hpF] at hQ
      exact hQ _ (mf_trans hf1 (mf_9 (Or.inr rfl))) (by rw [nz, nz]) (by rw [it_up_s, if_neg (by decide)]; exact h71) (by rw [it_up_same, bb_t rfl])
    have hxi : it_mx n T qq (it_up (it_up mi 99 7 (ii (p + 1))) 99 8 1) := mx_fr hx (mf_trans hf1 (mf_9 (Or.inr rfl)))
    have h7i : it_up (it_up mi 99 7 (ii (p + 1))) 99 8 1 99 7 = ii (p + 1) := by rw [it_up_s, if_neg (by decide)]; exact h71
    have h8i : it_up (it_up mi 99 7 (ii (p + 1))) 99 8 1 99 8 = 1 := it_up_same _ _ _ _
    by_cases c1 : T p = 110
    · exact hno (Or.inl c1) ⟨6, by unfold pF; rw [if_pos c1]⟩
    by_cases c2 : T p = 111
    · have hqq : qq = false := by
        rcases hnm with h | h | h | h | h
        · omega
        · omega
        · omega
        · omega
        · exact h.1
      exact hno (Or.inr c2) ⟨9, by unfold pF; rw [if_neg c1, if_pos ⟨c2, hqq⟩]⟩
    have hp1 : p + 1 ≤ n := by omega
    by_cases c3 : T p = 112
    · have c5 : ¬ T p = 115 := by omega
      by_cases s0 : 60 ≤ T (p + 1) ∧ T (p + 1) ≤ 62
      · have hh : ∃ K, pF qq T p = pD T p K 48 57 := by
          rcases (show T (p + 1) = 60 ∨ T (p + 1) = 61 ∨ T (p + 1) = 62 by omega) with h | h | h
          · exact ⟨3, by unfold pF; rw [if_neg c1, if_neg (fun h => c2 h.1), if_pos c3, if_pos h]⟩
          · exact ⟨4, by unfold pF; rw [if_neg c1, if_neg (fun h => c2 h.1), if_pos c3, if_neg (by omega), if_pos h]⟩
          · exact ⟨5, by unfold pF; rw [if_neg c1, if_neg (fun h => c2 h.1), if_pos c3, if_neg (by omega), if_neg (by omega), if_pos h]⟩
        obtain ⟨K, hK⟩ := hh
        simp only [w93_47, w93_48, w93_50, w93_53, w93_54, w93_56, w93_59, w93_60, w93_61, w93_63, w93_66, w93_67, w93_69, w93_71, w93_74, w93_75, w93_78, w93_79, w93_81, w93_83, w93_86, w93_87, w93_88, w93_90, w93_93, w93_94, w93_96, w93_98, w93_101, w93_102, w93_105, w93_106, w93_108, w93_110, isk_99, cv_99_0, cv_99_1, cv_99_2, cv_99_3, cv_99_4, cv_99_5, cv_99_6, cv_99_7, cv_99_8, cv_99_9, cv_99_10, cv_99_11, cv_99_12, cv_99_13, cv_99_14, cv_99_15, cv_99_16, cv_99_17, cv_99_18, cv_99_19, cv_99_20, cv_99_21, cv_99_22, cv_99_23, cv_99_24, cv_99_25, cv_99_26, cv_99_27, cv_99_28, cv_99_29, cv_99_30, cv_99_31, cv_99_32, cv_99_33, cv_99_34, cv_99_35, cv_99_36, cv_99_37, cv_99_38, cv_99_39, cv_99_40, cv_99_41, cv_99_42, cv_99_43, cv_99_44, cv_99_45, cv_99_46, ↓reduceIte, true_and, and_true, vok_int, vok_b0, vok_b1, vok_bb, r_backI, r_backV, bb_eq0, Nat.reduceAdd, Nat.reduceMul, Nat.reduceEqDiff, not_true_eq_false, not_false_eq_true, if_true, if_false, false_and, and_false, c17, c98, a1, a2, a3, a5, c1, c2, eq_true c3, c5, c90t (lo := 60) (hi := 62) (a := 60) (b := 62) hx1 hp1 h71 h81 rfl rfl (by decide) (by decide) s0]
        have h9 := hdig K 48 57 48 57 rfl rfl (by decide) (by decide) (by omega) hK (.retAddr 0)
        by_cases hd : 48 ≤ T (p + 2) ∧ T (p + 2) ≤ 57
        · rw [c90t (a := 48) (b := 57) (lo := 48) (hi := 57) hx2 (by have := Nat.lt_of_not_le (fun q => by rw [hz (p + 1) q] at s0; omega); omega) h72 h82 rfl rfl (by decide) (by decide) hd] at h9 ⊢
          simp only [↓reduceIte, true_and, and_true, vok_int, vok_b0, vok_b1, vok_bb, r_backI, r_backV, bb_eq0, Nat.reduceAdd, Nat.reduceMul, Nat.reduceEqDiff, not_true_eq_false, not_false_eq_true, if_true, if_false, false_and, and_false, c17, c98, w93_113, w93_114]
          exact h9
        · rw [c90f (a := 48) (b := 57) (lo := 48) (hi := 57) hx2 (by have := Nat.lt_of_not_le (fun q => by rw [hz (p + 1) q] at s0; omega); omega) h72 h82 rfl rfl (by decide) (by decide) hd] at h9 ⊢
          simp only [↓reduceIte, true_and, and_true, vok_int, vok_b0, vok_b1, vok_bb, r_backI, r_backV, bb_eq0, Nat.reduceAdd, Nat.reduceMul, Nat.reduceEqDiff, not_true_eq_false, not_false_eq_true, if_true, if_false, false_and, and_false, c17, c98, w93_113, w93_114]
          exact h9
      · have hfin := hill (by unfold pF; rw [if_neg c1, if_neg (fun h => c2 h.1), if_pos c3, if_neg (by omega), if_neg (by omega), if_neg (by omega)])
        simp only [w93_47, w93_48, w93_50, w93_53, w93_54, w93_56, w93_59, w93_60, w93_61, w93_63, w93_66, w93_67, w93_69, w93_71, w93_74, w93_75, w93_78, w93_79, w93_81, w93_83, w93_86, w93_87, w93_88, w93_90, w93_93, w93_94, w93_96, w93_98, w93_101, w93_102, w93_105, w93_106, w93_108, w93_110, w93_113, w93_114, isk_99, cv_99_0, cv_99_1, cv_99_2, cv_99_3, cv_99_4, cv_99_5, cv_99_6, cv_99_7, cv_99_8, cv_99_9, cv_99_10, cv_99_11, cv_99_12, cv_99_13, cv_99_14, cv_99_15, cv_99_16, cv_99_17, cv_99_18, cv_99_19, cv_99_20, cv_99_21, cv_99_22, cv_99_23, cv_99_24, cv_99_25, cv_99_26, cv_99_27, cv_99_28, cv_99_29, cv_99_30, cv_99_31, cv_99_32, cv_99_33, cv_99_34, cv_99_35, cv_99_36, cv_99_37, cv_99_38, cv_99_39, cv_99_40, cv_99_41, cv_99_42, cv_99_43, cv_99_44, cv_99_45, cv_99_46, ↓reduceIte, true_and, and_true, vok_int, vok_b0, vok_b1, vok_bb, r_backI, r_backV, bb_eq0, Nat.reduceAdd, Nat.reduceMul, Nat.reduceEqDiff, not_true_eq_false, not_false_eq_true, if_true, if_false, false_and, and_false, c17, c98, a1, a2, a3, a5, c1, c2, eq_true c3, c5, c90f (lo := 60) (hi := 62) (a := 60) (b := 62) hx1 hp1 h71 h81 rfl rfl (by decide) (by decide) s0, c90i hxi hp1 h7i h8i]
        exact hfin
    by_cases s2 : T (p + 1) = 61
    · have s0 : 61 ≤ T (p + 1) ∧ T (p + 1) ≤ 61 := by omega
      by_cases c5 : T p = 115
      · have hqq : qq = true := by
          rcases hnm with h | h | h | h | h
          · omega
          · omega
          · omega
          · exact h.1
          · omega
        have hK : pF qq T p = pD T p 10 65 70 := by
          unfold pF
          rw [if_neg c1, if_neg (fun h => c2 h.1), if_neg c3, if_neg (by omega), if_neg (fun h => by omega), if_pos ⟨c5, hqq⟩, if_pos s2]
        simp only [w93_47, w93_48, w93_50, w93_53, w93_54, w93_56, w93_59, w93_60, w93_61, w93_63, w93_66, w93_67, w93_69, w93_71, w93_74, w93_75, w93_78, w93_79, w93_81, w93_83, w93_86, w93_87, w93_88, w93_90, w93_93, w93_94, w93_96, w93_98, isk_99, cv_99_0, cv_99_1, cv_99_2, cv_99_3, cv_99_4, cv_99_5, cv_99_6, cv_99_7, cv_99_8, cv_99_9, cv_99_10, cv_99_11, cv_99_12, cv_99_13, cv_99_14, cv_99_15, cv_99_16, cv_99_17, cv_99_18, cv_99_19, cv_99_20, cv_99_21, cv_99_22, cv_99_23, cv_99_24, cv_99_25, cv_99_26, cv_99_27, cv_99_28, cv_99_29, cv_99_30, cv_99_31, cv_99_32, cv_99_33, cv_99_34, cv_99_35, cv_99_36, cv_99_37, cv_99_38, cv_99_39, cv_99_40, cv_99_41, cv_99_42, cv_99_43, cv_99_44, cv_99_45, cv_99_46, ↓reduceIte, true_and, and_true, vok_int, vok_b0, vok_b1, vok_bb, r_backI, r_backV, bb_eq0, Nat.reduceAdd, Nat.reduceMul, Nat.reduceEqDiff, not_true_eq_false, not_false_eq_true, if_true, if_false, false_and, and_false, c17, c98, a1, a2, a3, a5, c1, c2, c3, eq_true c5, c90t (lo := 61) (hi := 61) (a := 61) (b := 61) hx1 hp1 h71 h81 rfl rfl (by decide) (by decide) s0]
        have h9 := hdig 10 65 70 65 70 rfl rfl (by decide) (by decide) (by omega) hK (.retAddr 0)
        by_cases hd : 65 ≤ T (p + 2) ∧ T (p + 2) ≤ 70
        · rw [c90t (a := 65) (b := 70) (lo := 65) (hi := 70) hx2 (by have := Nat.lt_of_not_le (fun q => by rw [hz (p + 1) q] at s0; omega); omega) h72 h82 rfl rfl (by decide) (by decide) hd] at h9 ⊢
          simp only [↓reduceIte, true_and, and_true, vok_int, vok_b0, vok_b1, vok_bb, r_backI, r_backV, bb_eq0, Nat.reduceAdd, Nat.reduceMul, Nat.reduceEqDiff, not_true_eq_false, not_false_eq_true, if_true, if_false, false_and, and_false, c17, c98, w93_101, w93_102, w93_105, w93_106, w93_108, w93_110, w93_113, w93_114]
          exact h9
        · rw [c90f (a := 65) (b := 70) (lo := 65) (hi := 70) hx2 (by have := Nat.lt_of_not_le (fun q => by rw [hz (p + 1) q] at s0; omega); omega) h72 h82 rfl rfl (by decide) (by decide) hd] at h9 ⊢
          simp only [↓reduceIte, true_and, and_true, vok_int, vok_b0, vok_b1, vok_bb, r_backI, r_backV, bb_eq0, Nat.reduceAdd, Nat.reduceMul, Nat.reduceEqDiff, not_true_eq_false, not_false_eq_true, if_true, if_false, false_and, and_false, c17, c98, w93_101, w93_102, w93_105, w93_106, w93_108, w93_110, w93_113, w93_114]
          exact h9
      · have hh : ∃ K, pF qq T p = pD T p K 48 57 := by
          by_cases c4 : T p = 117
          · exact ⟨if qq = true then 11 else 7, by unfold pF; rw [if_neg c1, if_neg (fun h => c2 h.1), if_neg c3, if_pos c4, if_pos s2]⟩
          · have hqq : T p = 114 ∧ qq = false := by
              rcases hnm with h | h | h | h | h
              · omega
              · omega
              · omega
              · omega
              · exact ⟨by omega, h.1⟩
            exact ⟨8, by unfold pF; rw [if_neg c1, if_neg (fun h => c2 h.1), if_neg c3, if_neg c4, if_pos hqq, if_pos s2]⟩
        obtain ⟨K, hK⟩ := hh
        simp only [w93_47, w93_48, w93_50, w93_53, w93_54, w93_56, w93_59, w93_60, w93_61, w93_63, w93_66, w93_67, w93_69, w93_71, w93_74, w93_75, w93_78, w93_79, w93_81, w93_83, w93_86, w93_87, w93_88, w93_90, w93_93, w93_94, w93_96, w93_98, w93_101, w93_102, w93_105, w93_106, w93_108, w93_110, isk_99, cv_99_0, cv_99_1, cv_99_2, cv_99_3, cv_99_4, cv_99_5, cv_99_6, cv_99_7, cv_99_8, cv_99_9, cv_99_10, cv_99_11, cv_99_12, cv_99_13, cv_99_14, cv_99_15, cv_99_16, cv_99_17, cv_99_18, cv_99_19, cv_99_20, cv_99_21, cv_99_22, cv_99_23, cv_99_24, cv_99_25, cv_99_26, cv_99_27, cv_99_28, cv_99_29, cv_99_30, cv_99_31, cv_99_32, cv_99_33, cv_99_34, cv_99_35, cv_99_36, cv_99_37, cv_99_38, cv_99_39, cv_99_40, cv_99_41, cv_99_42, cv_99_43, cv_99_44, cv_99_45, cv_99_46, ↓reduceIte, true_and, and_true, vok_int, vok_b0, vok_b1, vok_bb, r_backI, r_backV, bb_eq0, Nat.reduceAdd, Nat.reduceMul, Nat.reduceEqDiff, not_true_eq_false, not_false_eq_true, if_true, if_false, false_and, and_false, c17, c98, a1, a2, a3, a5, c1, c2, c3, c5, c90t (lo := 61) (hi := 61) (a := 61) (b := 61) hx1 hp1 h71 h81 rfl rfl (by decide) (by decide) s0]
        have h9 := hdig K 48 57 48 57 rfl rfl (by decide) (by decide) (by omega) hK (.retAddr 0)
        by_cases hd : 48 ≤ T (p + 2) ∧ T (p + 2) ≤ 57
        · rw [c90t (a := 48) (b := 57) (lo := 48) (hi := 57) hx2 (by have := Nat.lt_of_not_le (fun q => by rw [hz (p + 1) q] at s0; omega); omega) h72 h82 rfl rfl (by decide) (by decide) hd] at h9 ⊢
          simp only [↓reduceIte, true_and, and_true, vok_int, vok_b0, vok_b1, vok_bb, r_backI, r_backV, bb_eq0, Nat.reduceAdd, Nat.reduceMul, Nat.reduceEqDiff, not_true_eq_false, not_false_eq_true, if_true, if_false, false_and, and_false, c17, c98, w93_113, w93_114]
          exact h9
        · rw [c90f (a := 48) (b := 57) (lo := 48) (hi := 57) hx2 (by have := Nat.lt_of_not_le (fun q => by rw [hz (p + 1) q] at s0; omega); omega) h72 h82 rfl rfl (by decide) (by decide) hd] at h9 ⊢
          simp only [↓reduceIte, true_and, and_true, vok_int, vok_b0, vok_b1, vok_bb, r_backI, r_backV, bb_eq0, Nat.reduceAdd, Nat.reduceMul, Nat.reduceEqDiff, not_true_eq_false, not_false_eq_true, if_true, if_false, false_and, and_false, c17, c98, w93_113, w93_114]
          exact h9
    · have s0 : ¬ (61 ≤ T (p + 1) ∧ T (p + 1) ≤ 61) := by omega
      have hpF : pF qq T p = (p + 1, none) := by
        unfold pF
        rw [if_neg c1, if_neg (fun h => c2 h.1), if_neg c3]
        by_cases c4 : T p = 117
        · rw [if_pos c4, if_neg s2]
        rw [if_neg c4]
        by_cases c6 : T p = 114 ∧ qq = false
        · rw [if_pos c6, if_neg s2]
        rw [if_neg c6]
        have c7 : T p = 115 ∧ qq = true := by
          rcases hnm with h | h | h | h | h
          · omega
          · omega
          · omega
          · exact ⟨h.2, h.1⟩
          · exact absurd ⟨by omega, h.1⟩ c6
        rw [if_pos c7, if_neg s2]
      have hfin := hill hpF
      by_cases c5 : T p = 115
      · simp only [w93_47, w93_48, w93_50, w93_53, w93_54, w93_56, w93_59, w93_60, w93_61, w93_63, w93_66, w93_67, w93_69, w93_71, w93_74, w93_75, w93_78, w93_79, w93_81, w93_83, w93_86, w93_87, w93_88, w93_90, w93_93, w93_94, w93_96, w93_98, w93_101, w93_102, w93_105, w93_106, w93_108, w93_110, w93_113, w93_114, isk_99, cv_99_0, cv_99_1, cv_99_2, cv_99_3, cv_99_4, cv_99_5, cv_99_6, cv_99_7, cv_99_8, cv_99_9, cv_99_10, cv_99_11, cv_99_12, cv_99_13, cv_99_14, cv_99_15, cv_99_16, cv_99_17, cv_99_18, cv_99_19, cv_99_20, cv_99_21, cv_99_22, cv_99_23, cv_99_24, cv_99_25, cv_99_26, cv_99_27, cv_99_28, cv_99_29, cv_99_30, cv_99_31, cv_99_32, cv_99_33, cv_99_34, cv_99_35, cv_99_36, cv_99_37, cv_99_38, cv_99_39, cv_99_40, cv_99_41, cv_99_42, cv_99_43, cv_99_44, cv_99_45, cv_99_46, ↓reduceIte, true_and, and_true, vok_int, vok_b0, vok_b1, vok_bb, r_backI, r_backV, bb_eq0, Nat.reduceAdd, Nat.reduceMul, Nat.reduceEqDiff, not_true_eq_false, not_false_eq_true, if_true, if_false, false_and, and_false, c17, c98, a1, a2, a3, a5, c1, c2, c3, eq_true c5, c90f (lo := 61) (hi := 61) (a := 61) (b := 61) hx1 hp1 h71 h81 rfl rfl (by decide) (by decide) s0, c90i hxi hp1 h7i h8i]
        exact hfin
      · simp only [w93_47, w93_48, w93_50, w93_53, w93_54, w93_56, w93_59, w93_60, w93_61, w93_63, w93_66, w93_67, w93_69, w93_71, w93_74, w93_75, w93_78, w93_79, w93_81, w93_83, w93_86, w93_87, w93_88, w93_90, w93_93, w93_94, w93_96, w93_98, w93_101, w93_102, w93_105, w93_106, w93_108, w93_110, w93_113, w93_114, isk_99, cv_99_0, cv_99_1, cv_99_2, cv_99_3, cv_99_4, cv_99_5, cv_99_6, cv_99_7, cv_99_8, cv_99_9, cv_99_10, cv_99_11, cv_99_12, cv_99_13, cv_99_14, cv_99_15, cv_99_16, cv_99_17, cv_99_18, cv_99_19, cv_99_20, cv_99_21, cv_99_22, cv_99_23, cv_99_24, cv_99_25, cv_99_26, cv_99_27, cv_99_28, cv_99_29, cv_99_30, cv_99_31, cv_99_32, cv_99_33, cv_99_34, cv_99_35, cv_99_36, cv_99_37, cv_99_38, cv_99_39, cv_99_40, cv_99_41, cv_99_42, cv_99_43, cv_99_44, cv_99_45, cv_99_46, ↓reduceIte, true_and, and_true, vok_int, vok_b0, vok_b1, vok_bb, r_backI, r_backV, bb_eq0, Nat.reduceAdd, Nat.reduceMul, Nat.reduceEqDiff, not_true_eq_false, not_false_eq_true, if_true, if_false, false_and, and_false, c17, c98, a1, a2, a3, a5, c1, c2, c3, c5, c90f (lo := 61) (hi := 61) (a := 61) (b := 61) hx1 hp1 h71 h81 rfl rfl (by decide) (by decide) s0, c90i hxi hp1 h7i h8i]
        exact hfin
  · have hpF : pF qq T p = (p, none) := by
      unfold pF
      rw [if_neg (fun h => hnm (Or.inr (Or.inr (Or.inl h)))), if_neg (fun h => hnm (Or.inr (Or.inr (Or.inr (Or.inr ⟨h.2, Or.inr h.1⟩))))), if_neg (fun h => hnm (Or.inl h)), if_neg (fun h => hnm (Or.inr (Or.inl h))), if_neg (fun h => hnm (Or.inr (Or.inr (Or.inr (Or.inr ⟨h.2, Or.inl h.1⟩))))), if_neg (fun h => hnm (Or.inr (Or.inr (Or.inr (Or.inl ⟨h.2, h.1⟩)))))]
    rw [hpF] at hQ
    have hfin := hQ (it_up mi 99 8 1) (mf_9 (Or.inr rfl)) (nz _ _ _) (by rw [it_up_s, if_neg (by decide)]; exact h7) (by rw [it_up_same, bb_t rfl])
    simp only [w93_0, w93_1, w93_4, w93_5, w93_6, w93_7, w93_10, w93_13, w93_14, w93_15, w93_18, w93_21, w93_22, w93_25, w93_26, w93_29, w93_30, w93_33, w93_36, isk_99, cv_99_0, cv_99_1, cv_99_2, cv_99_3, cv_99_4, cv_99_5, cv_99_6, cv_99_7, cv_99_8, cv_99_9, cv_99_10, cv_99_11, cv_99_12, cv_99_13, cv_99_14, cv_99_15, cv_99_16, cv_99_17, cv_99_18, cv_99_19, cv_99_20, cv_99_21, cv_99_22, cv_99_23, cv_99_24, cv_99_25, cv_99_26, cv_99_27, cv_99_28, cv_99_29, cv_99_30, cv_99_31, cv_99_32, cv_99_33, cv_99_34, cv_99_35, cv_99_36, cv_99_37, cv_99_38, cv_99_39, cv_99_40, cv_99_41, cv_99_42, cv_99_43, cv_99_44, cv_99_45, cv_99_46, ↓reduceIte, true_and, and_true, vok_int, vok_b0, vok_b1, vok_bb, r_backI, r_backV, bb_eq0, Nat.reduceAdd, Nat.reduceMul, Nat.reduceEqDiff, not_true_eq_false, not_false_eq_true, if_true, if_false, false_and, and_false, c17, c98, n_m1_0, n_m1_1, n_m1_2, n_m1_3, n_m1_4, n_m1_5, n_m1_6, n_0_m1, n_0_1, n_0_2, n_0_3, n_0_4, n_0_5, n_0_6, n_1_m1, n_1_0, n_1_2, n_1_3, n_1_4, n_1_5, n_1_6, n_2_m1, n_2_0, n_2_1, n_2_3, n_2_4, n_2_5, n_2_6, n_3_m1, n_3_0, n_3_1, n_3_2, n_3_4, n_3_5, n_3_6, n_4_m1, n_4_0, n_4_1, n_4_2, n_4_3, n_4_5, n_4_6, n_5_m1, n_5_0, n_5_1, n_5_2, n_5_3, n_5_4, n_5_6, n_6_m1, n_6_0, n_6_1, n_6_2, n_6_3, n_6_4, n_6_5, c91 hx hp h7, h8, c94 hx hT, eq_false hnm, it_up_same]
    exact hfin
end
