/-! Calls that only look: place, messages, clock, result, known, event. -/
theorem bel {p b : Nat} {x : Int32} (hx : x = ii b) (hb : b < 2147483648) (h : p < b) : (0 ≤ ii p ∧ ii p < x) = True := by
  subst hx
  exact eq_true ⟨(ii_le (a := 0) (by decide) (by omega)).mpr (Nat.zero_le _), (ii_lt (by omega) hb).mpr h⟩
theorem wit {p b : Nat} {x : Int32} (hx : x = ii b) (hb : b < 2147483648) (h : p < b + 1) : (0 ≤ ii p ∧ ii p ≤ x) = True := by
  subst hx
  exact eq_true ⟨(ii_le (a := 0) (by decide) (by omega)).mpr (Nat.zero_le _), (ii_le (by omega) hb).mpr (by omega)⟩
theorem wit_bel {a x y : Int32} {b : Nat} (hx : x = ii b) (hy : y = ii (b + 1)) (hb : b < 1000) : (0 ≤ a ∧ a ≤ x) ↔ (0 ≤ a ∧ a < y) := by
  subst hx; subst hy
  constructor
  · rintro ⟨h0, h1⟩
    obtain ⟨e, hn⟩ := ii_of h0
    rw [e] at h1 ⊢
    rw [ii_le hn (by omega)] at h1
    exact ⟨by rw [← e]; exact h0, (ii_lt hn (by omega)).mpr (by omega)⟩
  · rintro ⟨h0, h1⟩
    obtain ⟨e, hn⟩ := ii_of h0
    rw [e] at h1 ⊢
    rw [ii_lt hn (by omega)] at h1
    exact ⟨by rw [← e]; exact h0, (ii_le hn (by omega)).mpr (by omega)⟩
theorem below {a x : Int32} {b : Nat} (hx : x = ii b) (hb : b < 2147483648) (h : 0 ≤ a ∧ a < x) : ∃ p, p < b ∧ a = ii p := by
  subst hx
  exact (ii_below hb).mp h
section
variable {d : Nat} {Q : im_O → im_M → Prop} {L : Nat} {xs : Nat → Int32} {mi : Nat → Nat → Int32} {rw : Nat → Nat} {o : Nat → Int64} {g z : Nat}
theorem c15 : iw d 15 0 [.ref 8] [] (it_mem L xs mi rw o g z) Q ↔ Q (.inl (some (.int (mi 8 8)))) (it_mem L xs mi rw o g z) := by
  simp only [w15_0, w15_1, w15_4, isk_8, cv_8_0, cv_8_1, cv_8_2, cv_8_3, cv_8_4, cv_8_5, cv_8_6, cv_8_7, cv_8_8, vok_int, true_and]
theorem c96 : iw d 96 0 [.ref 99] [] (it_mem L xs mi rw o g z) Q ↔ Q (.inl (some (.int (mi 99 10)))) (it_mem L xs (it_up mi 99 0 0) rw o g z) := by
  simp only [w96_0, w96_1, w96_2, w96_5, w96_6, w96_9, isk_99, cv_99_0, cv_99_1, cv_99_2, cv_99_3, cv_99_4, cv_99_5, cv_99_6, cv_99_7, cv_99_8, cv_99_9, cv_99_10, cv_99_11, cv_99_12, cv_99_13, cv_99_14, cv_99_15, cv_99_16, cv_99_17, cv_99_18, cv_99_19, cv_99_20, cv_99_21, cv_99_22, cv_99_23, cv_99_24, cv_99_25, cv_99_26, cv_99_27, cv_99_28, cv_99_29, cv_99_30, cv_99_31, cv_99_32, cv_99_33, cv_99_34, cv_99_35, cv_99_36, cv_99_37, cv_99_38, cv_99_39, cv_99_40, cv_99_41, cv_99_42, cv_99_43, cv_99_44, cv_99_45, cv_99_46, vok_int, true_and, it_up_s, Nat.reduceEqDiff, if_false]
theorem c43 : iw d 43 0 [.ref 8] [] (it_mem L xs mi rw o g z) Q ↔ Q (.inl (some (.int (mi 77 1)))) (it_mem L xs mi rw o g z) := by
  simp only [w43_0, w43_1, w43_4, w43_7, isk_8, cv_8_0, cv_8_1, cv_8_2, cv_8_3, cv_8_4, cv_8_5, cv_8_6, cv_8_7, cv_8_8, isk_77, cv_77_0, cv_77_1, vok_int, true_and]
theorem c124 : iw d 124 0 [.ref 99] [] (it_mem L xs mi rw o g z) Q ↔ Q (.inl (some (.int (mi 99 33)))) (it_mem L xs (it_up mi 99 0 0) rw o g z) := by
  simp only [w124_0, w124_1, w124_2, w124_5, w124_6, w124_9, isk_99, cv_99_0, cv_99_1, cv_99_2, cv_99_3, cv_99_4, cv_99_5, cv_99_6, cv_99_7, cv_99_8, cv_99_9, cv_99_10, cv_99_11, cv_99_12, cv_99_13, cv_99_14, cv_99_15, cv_99_16, cv_99_17, cv_99_18, cv_99_19, cv_99_20, cv_99_21, cv_99_22, cv_99_23, cv_99_24, cv_99_25, cv_99_26, cv_99_27, cv_99_28, cv_99_29, cv_99_30, cv_99_31, cv_99_32, cv_99_33, cv_99_34, cv_99_35, cv_99_36, cv_99_37, cv_99_38, cv_99_39, cv_99_40, cv_99_41, cv_99_42, cv_99_43, cv_99_44, cv_99_45, cv_99_46, vok_int, true_and, it_up_s, Nat.reduceEqDiff, if_false]
theorem c42n {a : Int32} (h : ¬ (0 ≤ a ∧ a < 3)) : iw (d + 1) 42 0 [.ref 8, .int a] [] (it_mem L xs mi rw o g z) Q ↔ Q (.inl (some (.int (-1)))) (it_mem L xs mi rw o g z) := by
  simp only [w42_0, w42_1, w42_2, w42_5, w42_8, w42_9, w42_12, w42_13, w42_14, w42_17, w42_20, w42_21, isk_8, cv_8_0, cv_8_1, cv_8_2, cv_8_3, cv_8_4, cv_8_5, cv_8_6, cv_8_7, cv_8_8, vok_int, true_and, c17, r_backI, bb_eq0, Nat.reduceAdd, h, not_false_eq_true, if_true]
theorem inb3 {L a p : Nat} (hp : p < 3) (h : it_ln L a = 3) : it_inb L a (ii p) := ii_inb (by omega) (by omega)
theorem c42 {p : Nat} (hp : p < 3) : iw (d + 1) 42 0 [.ref 8, .int (ii p)] [] (it_mem L xs mi rw o g z) Q ↔ Q (.inl (some (.int (mi (35 + 14 * p) 3)))) (it_mem L xs mi rw o g z) := by
  have e : (ii p).toNatClampNeg = p := ii_clamp (by omega)
  simp only [w42_0, w42_1, w42_2, w42_5, w42_8, w42_9, w42_12, w42_13, w42_14, w42_17, w42_20, w42_21, isk_8, cv_8_0, cv_8_1, cv_8_2, cv_8_3, cv_8_4, cv_8_5, cv_8_6, cv_8_7, cv_8_8, isa_34, ln_34, cv_34_0, cv_34_1, cv_34_2, vok_int, true_and, c17, r_backI, bb_eq0, Nat.reduceAdd, bel (x := 3) rfl (by decide) hp, not_true_eq_false, if_false, inb3 hp ln_34, e]
  rcases (show p = 0 ∨ p = 1 ∨ p = 2 by omega) with rfl | rfl | rfl
  · simp only [w42_0, w42_1, w42_2, w42_5, w42_8, w42_9, w42_12, w42_13, w42_14, w42_17, w42_20, w42_21, isa_34, ln_34, cv_34_0, cv_34_1, cv_34_2, isk_35, cv_35_0, cv_35_1, cv_35_2, cv_35_3, vok_int, true_and, Nat.reduceAdd, Nat.reduceMul]
  · simp only [w42_0, w42_1, w42_2, w42_5, w42_8, w42_9, w42_12, w42_13, w42_14, w42_17, w42_20, w42_21, isa_34, ln_34, cv_34_0, cv_34_1, cv_34_2, isk_49, cv_49_0, cv_49_1, cv_49_2, cv_49_3, vok_int, true_and, Nat.reduceAdd, Nat.reduceMul]
  · simp only [w42_0, w42_1, w42_2, w42_5, w42_8, w42_9, w42_12, w42_13, w42_14, w42_17, w42_20, w42_21, isa_34, ln_34, cv_34_0, cv_34_1, cv_34_2, isk_63, cv_63_0, cv_63_1, cv_63_2, cv_63_3, vok_int, true_and, Nat.reduceAdd, Nat.reduceMul]
theorem c123n {a : Int32} (h : ¬ (0 ≤ a ∧ a < 3)) : iw (d + 1) 123 0 [.ref 99, .int a] [] (it_mem L xs mi rw o g z) Q ↔ Q (.inl (some (.int (-1)))) (it_mem L xs (it_up mi 99 0 0) rw o g z) := by
  simp only [w123_0, w123_1, w123_2, w123_5, w123_6, w123_7, w123_10, w123_13, w123_14, w123_17, w123_18, w123_19, w123_22, w123_23, isk_99, cv_99_0, cv_99_1, cv_99_2, cv_99_3, cv_99_4, cv_99_5, cv_99_6, cv_99_7, cv_99_8, cv_99_9, cv_99_10, cv_99_11, cv_99_12, cv_99_13, cv_99_14, cv_99_15, cv_99_16, cv_99_17, cv_99_18, cv_99_19, cv_99_20, cv_99_21, cv_99_22, cv_99_23, cv_99_24, cv_99_25, cv_99_26, cv_99_27, cv_99_28, cv_99_29, cv_99_30, cv_99_31, cv_99_32, cv_99_33, cv_99_34, cv_99_35, cv_99_36, cv_99_37, cv_99_38, cv_99_39, cv_99_40, cv_99_41, cv_99_42, cv_99_43, cv_99_44, cv_99_45, cv_99_46, vok_int, true_and, c98, r_backI, bb_eq0, Nat.reduceAdd, wit_bel (x := 2) (y := 3) (b := 2) rfl rfl (by decide), h, not_false_eq_true, if_true]
theorem c123 {p : Nat} (hp : p < 3) : iw (d + 1) 123 0 [.ref 99, .int (ii p)] [] (it_mem L xs mi rw o g z) Q ↔ Q (.inl (some (.int (mi 121 p)))) (it_mem L xs (it_up mi 99 0 0) rw o g z) := by
  have e : (ii p).toNatClampNeg = p := ii_clamp (by omega)
  simp only [w123_0, w123_1, w123_2, w123_5, w123_6, w123_7, w123_10, w123_13, w123_14, w123_17, w123_18, w123_19, w123_22, w123_23, isk_99, cv_99_0, cv_99_1, cv_99_2, cv_99_3, cv_99_4, cv_99_5, cv_99_6, cv_99_7, cv_99_8, cv_99_9, cv_99_10, cv_99_11, cv_99_12, cv_99_13, cv_99_14, cv_99_15, cv_99_16, cv_99_17, cv_99_18, cv_99_19, cv_99_20, cv_99_21, cv_99_22, cv_99_23, cv_99_24, cv_99_25, cv_99_26, cv_99_27, cv_99_28, cv_99_29, cv_99_30, cv_99_31, cv_99_32, cv_99_33, cv_99_34, cv_99_35, cv_99_36, cv_99_37, cv_99_38, cv_99_39, cv_99_40, cv_99_41, cv_99_42, cv_99_43, cv_99_44, cv_99_45, cv_99_46, isa_121, ln_121, cv_121, vok_int, true_and, c98, r_backI, bb_eq0, Nat.reduceAdd, wit (x := 2) (b := 2) rfl (by decide) hp, not_true_eq_false, if_false, inb3 hp ln_121, e, it_up_f mi 0 _ (show 121 ≠ 99 by decide)]
end
section
variable {Q : im_O → im_M → Prop} {L : Nat} {xs : Nat → Int32} {mi : Nat → Nat → Int32} {rw : Nat → Nat} {o : Nat → Int64} {g z i : Nat} {l5 l6 : Value}
theorem op2 (hI : it_Inv mi rw) (hK : it_K L xs i g z Q) : iw 30 0 203 [.ref 0, .ref 8, .ref 99, .ref 134, .int (ii i), l5, l6] [] (it_mem L xs mi rw o g z) Q := by
  simp only [w0_203, w0_204, w0_207, w0_208, w0_211, w0_214, w0_215, isk_8, cv_8_0, cv_8_1, cv_8_2, cv_8_3, cv_8_4, cv_8_5, cv_8_6, cv_8_7, cv_8_8, isk_99, cv_99_0, cv_99_1, cv_99_2, cv_99_3, cv_99_4, cv_99_5, cv_99_6, cv_99_7, cv_99_8, cv_99_9, cv_99_10, cv_99_11, cv_99_12, cv_99_13, cv_99_14, cv_99_15, cv_99_16, cv_99_17, cv_99_18, cv_99_19, cv_99_20, cv_99_21, cv_99_22, cv_99_23, cv_99_24, cv_99_25, cv_99_26, cv_99_27, cv_99_28, cv_99_29, cv_99_30, cv_99_31, cv_99_32, cv_99_33, cv_99_34, cv_99_35, cv_99_36, cv_99_37, cv_99_38, cv_99_39, cv_99_40, cv_99_41, cv_99_42, cv_99_43, cv_99_44, cv_99_45, cv_99_46, true_and, c15, c96, r_backI, Nat.reduceAdd, hI.2.2.1.1, if_true]
  exact hK _ _ _ _ _ _ _ (inv_code hI) (by omega) (by omega)
theorem op18 (hI : it_Inv mi rw) (hK : it_K L xs i g z Q) : iw 30 0 864 [.ref 0, .ref 8, .ref 99, .ref 134, .int (ii i), l5, l6] [] (it_mem L xs mi rw o g z) Q := by
  have hI0 := hI
  obtain ⟨_, _, _, _, _, _, cnt, kn, vw, tm, sp, _, _, _, ⟨n, _, h1, h2, _⟩, _⟩ := hI
  simp only [w0_864, w0_865, w0_868, w0_869, w0_872, w0_875, w0_876, isk_8, cv_8_0, cv_8_1, cv_8_2, cv_8_3, cv_8_4, cv_8_5, cv_8_6, cv_8_7, cv_8_8, isk_99, cv_99_0, cv_99_1, cv_99_2, cv_99_3, cv_99_4, cv_99_5, cv_99_6, cv_99_7, cv_99_8, cv_99_9, cv_99_10, cv_99_11, cv_99_12, cv_99_13, cv_99_14, cv_99_15, cv_99_16, cv_99_17, cv_99_18, cv_99_19, cv_99_20, cv_99_21, cv_99_22, cv_99_23, cv_99_24, cv_99_25, cv_99_26, cv_99_27, cv_99_28, cv_99_29, cv_99_30, cv_99_31, cv_99_32, cv_99_33, cv_99_34, cv_99_35, cv_99_36, cv_99_37, cv_99_38, cv_99_39, cv_99_40, cv_99_41, cv_99_42, cv_99_43, cv_99_44, cv_99_45, cv_99_46, true_and, c43, c124, r_backI, Nat.reduceAdd, h1, h2, if_true]
  exact hK _ _ _ _ _ _ _ (inv_code hI0) (by omega) (by omega)
theorem op17 (hL : L ≤ 3072) (hi : i + 6 ≤ L) (hI : it_Inv mi rw) (hK : it_K L xs i g z Q) : iw 30 0 839 [.ref 0, .ref 8, .ref 99, .ref 134, .int (ii i), l5, l6] [] (it_mem L xs mi rw o g z) Q := by
  have hI0 := hI
  obtain ⟨_, _, _, _, _, _, cnt, kn, vw, tm, sp, _, _, ⟨_, _, hT⟩, _⟩ := hI
  have hb : it_inb L 0 (ii (i + 1)) := ii_inb (by omega) (by rw [ln_0]; omega)
  have hc : (ii (i + 1)).toNatClampNeg = i + 1 := ii_clamp (by omega)
  simp only [w0_839, w0_840, w0_841, w0_843, w0_844, w0_845, w0_846, w0_849, w0_850, w0_851, w0_853, w0_854, w0_855, w0_856, w0_859, w0_862, w0_863, isa_0, ln_0, cv_0, isk_8, cv_8_0, cv_8_1, cv_8_2, cv_8_3, cv_8_4, cv_8_5, cv_8_6, cv_8_7, cv_8_8, isk_99, cv_99_0, cv_99_1, cv_99_2, cv_99_3, cv_99_4, cv_99_5, cv_99_6, cv_99_7, cv_99_8, cv_99_9, cv_99_10, cv_99_11, cv_99_12, cv_99_13, cv_99_14, cv_99_15, cv_99_16, cv_99_17, cv_99_18, cv_99_19, cv_99_20, cv_99_21, cv_99_22, cv_99_23, cv_99_24, cv_99_25, cv_99_26, cv_99_27, cv_99_28, cv_99_29, cv_99_30, cv_99_31, cv_99_32, cv_99_33, cv_99_34, cv_99_35, cv_99_36, cv_99_37, cv_99_38, cv_99_39, cv_99_40, cv_99_41, cv_99_42, cv_99_43, cv_99_44, cv_99_45, cv_99_46, lit_1, ii_add, hb, hc, true_and]
  by_cases h : 0 ≤ xs (i + 1) ∧ xs (i + 1) < 3
  · obtain ⟨p, hp, ep⟩ := below (b := 3) rfl (by decide) h
    obtain ⟨t1, t2⟩ := hT p hp
    rw [win_at (by omega) (by omega)] at t1 t2
    simp only [ep, c42 hp, c123 hp, r_backI, Nat.reduceAdd, w0_839, w0_840, w0_841, w0_843, w0_844, w0_845, w0_846, w0_849, w0_850, w0_851, w0_853, w0_854, w0_855, w0_856, w0_859, w0_862, w0_863, isa_0, ln_0, cv_0, isk_8, cv_8_0, cv_8_1, cv_8_2, cv_8_3, cv_8_4, cv_8_5, cv_8_6, cv_8_7, cv_8_8, isk_99, cv_99_0, cv_99_1, cv_99_2, cv_99_3, cv_99_4, cv_99_5, cv_99_6, cv_99_7, cv_99_8, cv_99_9, cv_99_10, cv_99_11, cv_99_12, cv_99_13, cv_99_14, cv_99_15, cv_99_16, cv_99_17, cv_99_18, cv_99_19, cv_99_20, cv_99_21, cv_99_22, cv_99_23, cv_99_24, cv_99_25, cv_99_26, cv_99_27, cv_99_28, cv_99_29, cv_99_30, cv_99_31, cv_99_32, cv_99_33, cv_99_34, cv_99_35, cv_99_36, cv_99_37, cv_99_38, cv_99_39, cv_99_40, cv_99_41, cv_99_42, cv_99_43, cv_99_44, cv_99_45, cv_99_46, hb, hc, true_and, t1, t2, if_true, lit_1, ii_add]
    exact hK _ _ _ _ _ _ _ (inv_code hI0) (by omega) (by omega)
  · simp only [c42n h, c123n h, r_backI, Nat.reduceAdd, w0_839, w0_840, w0_841, w0_843, w0_844, w0_845, w0_846, w0_849, w0_850, w0_851, w0_853, w0_854, w0_855, w0_856, w0_859, w0_862, w0_863, isa_0, ln_0, cv_0, isk_8, cv_8_0, cv_8_1, cv_8_2, cv_8_3, cv_8_4, cv_8_5, cv_8_6, cv_8_7, cv_8_8, isk_99, cv_99_0, cv_99_1, cv_99_2, cv_99_3, cv_99_4, cv_99_5, cv_99_6, cv_99_7, cv_99_8, cv_99_9, cv_99_10, cv_99_11, cv_99_12, cv_99_13, cv_99_14, cv_99_15, cv_99_16, cv_99_17, cv_99_18, cv_99_19, cv_99_20, cv_99_21, cv_99_22, cv_99_23, cv_99_24, cv_99_25, cv_99_26, cv_99_27, cv_99_28, cv_99_29, cv_99_30, cv_99_31, cv_99_32, cv_99_33, cv_99_34, cv_99_35, cv_99_36, cv_99_37, cv_99_38, cv_99_39, cv_99_40, cv_99_41, cv_99_42, cv_99_43, cv_99_44, cv_99_45, cv_99_46, hb, hc, true_and, if_true, lit_1, ii_add]
    exact hK _ _ _ _ _ _ _ (inv_code hI0) (by omega) (by omega)
end
