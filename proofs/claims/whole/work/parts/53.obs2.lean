/-! Calls that only look: result, event. -/
theorem ii_div {a b : Nat} (ha : a < 2147483648) (hb : b < 2147483648) : ii a / ii b = ii (a / b) := by
  have h1 : a / b ≤ a := Nat.div_le_self a b
  apply Int32.toInt_inj.mp
  rw [Int32.toInt_div_of_ne_right _ _ (by
    intro q
    have := congrArg Int32.toInt q
    rw [ii_toInt hb] at this
    have h9 : (-1 : Int32).toInt = -1 := by decide
    omega), ii_toInt ha, ii_toInt hb, ii_toInt (by omega)]
  simp [Int.ofNat_tdiv]
theorem ii_rem {a b : Nat} (ha : a < 2147483648) (hb : b < 2147483648) : ii a - ii a / ii b * ii b = ii (a % b) := by
  rw [ii_div ha hb, ii_mul, ii_sub (Nat.div_mul_le_self a b)]
  congr 1
  have := Nat.div_add_mod a b
  have h2 : b * (a / b) = a / b * b := Nat.mul_comm _ _
  omega
def sw5 (w a b c d e : Int32) : Int32 := if w = 0 then a else if w = 1 then b else if w = 2 then c else if w = 3 then d else if w = 4 then e else -1
def sw4 (w a b c d : Int32) : Int32 := if w = 0 then a else if w = 1 then b else if w = 2 then c else if w = 3 then d else -1
theorem n16 : ¬ (16 : Int32) = 0 := by decide
section
variable {d : Nat} {Q : im_O → im_M → Prop} {L : Nat} {xs : Nat → Int32} {mi : Nat → Nat → Int32} {rw : Nat → Nat} {o : Nat → Int64} {g z : Nat}
theorem c36n {a : Int32} (h : ¬ (0 ≤ a ∧ a < mi 97 1)) : iw (d + 1) 36 0 [.ref 8, .int a] [] (it_mem L xs mi rw o g z) Q ↔ Q (.inl (some (.int (-1)))) (it_mem L xs mi rw o g z) := by
  simp only [w36_0, w36_1, w36_2, w36_5, w36_8, w36_11, w36_14, w36_15, w36_18, w36_21, w36_22, w36_23, w36_26, w36_27, isk_8, cv_8_0, cv_8_1, cv_8_2, cv_8_3, cv_8_4, cv_8_5, cv_8_6, cv_8_7, cv_8_8, isk_97, cv_97_0, cv_97_1, vok_int, true_and, c17, r_backI, bb_eq0, Nat.reduceAdd, h, not_false_eq_true, if_true]
theorem c36 {k n : Nat} (hn : n ≤ 48) (hc : mi 97 1 = ii n) (hk : k < n) : iw (d + 1) 36 0 [.ref 8, .int (ii k)] [] (it_mem L xs mi rw o g z) Q ↔ Q (.inl (some (.int (mi 98 k)))) (it_mem L xs mi rw o g z) := by
  have e : (ii k).toNatClampNeg = k := ii_clamp (by omega)
  have hb : it_inb L 98 (ii k) := ii_inb (by omega) (by rw [ln_98]; omega)
  simp only [w36_0, w36_1, w36_2, w36_5, w36_8, w36_11, w36_14, w36_15, w36_18, w36_21, w36_22, w36_23, w36_26, w36_27, isk_8, cv_8_0, cv_8_1, cv_8_2, cv_8_3, cv_8_4, cv_8_5, cv_8_6, cv_8_7, cv_8_8, isk_97, cv_97_0, cv_97_1, isa_98, ln_98, cv_98, vok_int, true_and, c17, r_backI, bb_eq0, Nat.reduceAdd, hc, bel (x := ii n) rfl (by omega) hk, not_true_eq_false, if_false, hb, e]
theorem c118n {a : Int32} (h : ¬ (0 ≤ a ∧ a < mi 99 45)) : iw (d + 1) 118 0 [.ref 99, .int a] [] (it_mem L xs mi rw o g z) Q ↔ Q (.inl (some (.int (-1)))) (it_mem L xs (it_up mi 99 0 0) rw o g z) := by
  simp only [w118_0, w118_1, w118_2, w118_5, w118_6, w118_9, w118_10, w118_11, w118_14, w118_17, w118_18, w118_21, w118_22, w118_23, w118_26, w118_27, isk_99, cv_99_0, cv_99_1, cv_99_2, cv_99_3, cv_99_4, cv_99_5, cv_99_6, cv_99_7, cv_99_8, cv_99_9, cv_99_10, cv_99_11, cv_99_12, cv_99_13, cv_99_14, cv_99_15, cv_99_16, cv_99_17, cv_99_18, cv_99_19, cv_99_20, cv_99_21, cv_99_22, cv_99_23, cv_99_24, cv_99_25, cv_99_26, cv_99_27, cv_99_28, cv_99_29, cv_99_30, cv_99_31, cv_99_32, cv_99_33, cv_99_34, cv_99_35, cv_99_36, cv_99_37, cv_99_38, cv_99_39, cv_99_40, cv_99_41, cv_99_42, cv_99_43, cv_99_44, cv_99_45, cv_99_46, vok_int, true_and, Nat.reduceAdd, it_up_s, Nat.reduceEqDiff, if_false]
  by_cases h1 : a < 0
  · rw [if_pos h1]
  · rw [if_neg h1, if_pos (by
      rw [← i_nlt]
      intro q
      exact h ⟨i_nlt.mp h1, q⟩)]
theorem c118 {k n : Nat} (hn : n ≤ 48) (hc : mi 99 45 = ii n) (hk : k < n) : iw (d + 1) 118 0 [.ref 99, .int (ii k)] [] (it_mem L xs mi rw o g z) Q ↔ Q (.inl (some (.int (mi 133 k)))) (it_mem L xs (it_up mi 99 0 0) rw o g z) := by
  have e : (ii k).toNatClampNeg = k := ii_clamp (by omega)
  have hb : it_inb L 133 (ii k) := ii_inb (by omega) (by rw [ln_133]; omega)
  have h1 : ¬ ii k < 0 := by rw [lit_0, ii_lt (by omega) (by decide)]; omega
  have h2 : ¬ ii n ≤ ii k := by rw [ii_le (by omega) (by omega)]; omega
  simp only [w118_0, w118_1, w118_2, w118_5, w118_6, w118_9, w118_10, w118_11, w118_14, w118_17, w118_18, w118_21, w118_22, w118_23, w118_26, w118_27, isk_99, cv_99_0, cv_99_1, cv_99_2, cv_99_3, cv_99_4, cv_99_5, cv_99_6, cv_99_7, cv_99_8, cv_99_9, cv_99_10, cv_99_11, cv_99_12, cv_99_13, cv_99_14, cv_99_15, cv_99_16, cv_99_17, cv_99_18, cv_99_19, cv_99_20, cv_99_21, cv_99_22, cv_99_23, cv_99_24, cv_99_25, cv_99_26, cv_99_27, cv_99_28, cv_99_29, cv_99_30, cv_99_31, cv_99_32, cv_99_33, cv_99_34, cv_99_35, cv_99_36, cv_99_37, cv_99_38, cv_99_39, cv_99_40, cv_99_41, cv_99_42, cv_99_43, cv_99_44, cv_99_45, cv_99_46, isa_133, ln_133, cv_133, vok_int, true_and, Nat.reduceAdd, it_up_s, Nat.reduceEqDiff, if_false, hc, h1, h2, hb, e, it_up_f mi 0 _ (show 133 ≠ 99 by decide)]
theorem c39 {A c k : Nat} (hA : it_isa .int A = true) (hA0 : A ≠ 0) (hl : it_ln L A = 3) (hc : c < 48) (hk : k < 100) (hv : mi A (c / 16) = ii k) : iw d 39 0 [.int (ii c), .ref A] [] (it_mem L xs mi rw o g z) Q ↔ Q (.inl (some (.int (bb (c % 16 < k))))) (it_mem L xs mi rw o g z) := by
  have e1 : ii c / 16 = ii (c / 16) := ii_div (by omega) (by decide)
  have e2 : ii c - ii (c / 16) * 16 = ii (c % 16) := by rw [← e1]; exact ii_rem (by omega) (by decide)
  have hb : it_inb L A (ii (c / 16)) := ii_inb (by omega) (by rw [hl]; omega)
  have e3 : (ii (c / 16)).toNatClampNeg = c / 16 := ii_clamp (by omega)
  have hcv : ∀ j, it_cv xs mi rw o A j = .int (mi A j) := fun j => it_cva hA0 hA (Or.inl rfl)
  simp only [w39_0, w39_1, w39_3, w39_4, w39_5, w39_6, w39_8, w39_9, w39_10, w39_13, w39_14, w39_17, w39_18, n16, not_false_eq_true, e1, e2, e3, hb, hA, hcv, hv, true_and, vok_b0, vok_b1, ii_le (show k < 2147483648 by omega) (show c % 16 < 2147483648 by omega)]
  by_cases h : k ≤ c % 16
  · simp [h, bb_f, Nat.not_lt.mpr h]
  · simp [h, bb_t, Nat.not_le.mp h]
theorem c38n {a w : Int32} (h : ¬ (0 ≤ a ∧ a < 48)) : iw (d + 1) 38 0 [.ref 8, .int a, .int w] [] (it_mem L xs mi rw o g z) Q ↔ Q (.inl (some (.int (-1)))) (it_mem L xs mi rw o g z) := by
  simp only [w38_0, w38_1, w38_3, w38_6, w38_9, w38_10, w38_11, w38_14, w38_17, w38_20, w38_23, w38_24, isk_8, cv_8_0, cv_8_1, cv_8_2, cv_8_3, cv_8_4, cv_8_5, cv_8_6, cv_8_7, cv_8_8, vok_int, true_and, c17, r_backI, bb_eq0, Nat.reduceAdd, h, not_false_eq_true, if_true]
theorem c38m {c k : Nat} {w : Int32} (hc : c < 48) (hk : k < 100) (hv : mi 33 (c / 16) = ii k) (h : ¬ c % 16 < k) : iw (d + 1) 38 0 [.ref 8, .int (ii c), .int w] [] (it_mem L xs mi rw o g z) Q ↔ Q (.inl (some (.int (-1)))) (it_mem L xs mi rw o g z) := by
  simp only [w38_0, w38_1, w38_3, w38_6, w38_9, w38_10, w38_11, w38_14, w38_17, w38_20, w38_23, w38_24, w38_25, w38_26, isk_8, cv_8_0, cv_8_1, cv_8_2, cv_8_3, cv_8_4, cv_8_5, cv_8_6, cv_8_7, cv_8_8, isk_27, cv_27_0, cv_27_1, cv_27_2, cv_27_3, cv_27_4, cv_27_5, cv_27_6, vok_int, true_and, c17, r_backI, bb_eq0, Nat.reduceAdd, bel (x := 48) rfl (by decide) hc, not_true_eq_false, if_false, c39 isa_33 (by decide) ln_33 hc hk hv, h, not_false_eq_true, if_true]
theorem c38 {c k : Nat} {w : Int32} (hc : c < 48) (hk : k < 100) (hv : mi 33 (c / 16) = ii k) (h : c % 16 < k) : iw (d + 1) 38 0 [.ref 8, .int (ii c), .int w] [] (it_mem L xs mi rw o g z) Q ↔ Q (.inl (some (.int (sw5 w (mi 28 c) (mi 29 c) (mi 30 c) (mi 31 c) (mi 32 c))))) (it_mem L xs mi rw o g z) := by
  have e : (ii c).toNatClampNeg = c := ii_clamp (by omega)
  have b0 : it_inb L 28 (ii c) := ii_inb (by omega) (by rw [ln_28]; omega)
  have b1 : it_inb L 29 (ii c) := ii_inb (by omega) (by rw [ln_29]; omega)
  have b2 : it_inb L 30 (ii c) := ii_inb (by omega) (by rw [ln_30]; omega)
  have b3 : it_inb L 31 (ii c) := ii_inb (by omega) (by rw [ln_31]; omega)
  have b4 : it_inb L 32 (ii c) := ii_inb (by omega) (by rw [ln_32]; omega)
  simp only [w38_0, w38_1, w38_3, w38_6, w38_9, w38_10, w38_11, w38_14, w38_17, w38_20, w38_23, w38_24, w38_25, w38_26, w38_60, w38_61, w38_64, w38_67, w38_68, w38_69, w38_70, w38_71, w38_74, w38_77, w38_78, w38_79, w38_80, w38_81, w38_84, w38_87, w38_88, w38_89, w38_90, w38_91, w38_94, w38_97, w38_98, w38_99, w38_100, w38_101, w38_104, w38_107, w38_108, w38_109, w38_110, w38_111, isk_8, cv_8_0, cv_8_1, cv_8_2, cv_8_3, cv_8_4, cv_8_5, cv_8_6, cv_8_7, cv_8_8, isk_27, cv_27_0, cv_27_1, cv_27_2, cv_27_3, cv_27_4, cv_27_5, cv_27_6, isa_28, ln_28, cv_28, isa_29, ln_29, cv_29, isa_30, ln_30, cv_30, isa_31, ln_31, cv_31, isa_32, ln_32, cv_32, isa_33, ln_33, cv_33, vok_int, true_and, c17, r_backI, bb_eq0, Nat.reduceAdd, bel (x := 48) rfl (by decide) hc, not_true_eq_false, if_false, c39 isa_33 (by decide) ln_33 hc hk hv, h, not_false_eq_true, if_true, b0, b1, b2, b3, b4, e]
  unfold sw5
  repeat' split
  all_goals exact Iff.rfl
theorem c120n {a w : Int32} (h : ¬ (0 ≤ a ∧ a < 48)) : iw (d + 1) 120 0 [.ref 99, .int a, .int w] [] (it_mem L xs mi rw o g z) Q ↔ Q (.inl (some (.int (-1)))) (it_mem L xs (it_up mi 99 0 0) rw o g z) := by
  simp only [w120_0, w120_1, w120_2, w120_5, w120_6, w120_8, w120_11, w120_14, w120_15, isk_99, cv_99_0, cv_99_1, cv_99_2, cv_99_3, cv_99_4, cv_99_5, cv_99_6, cv_99_7, cv_99_8, cv_99_9, cv_99_10, cv_99_11, cv_99_12, cv_99_13, cv_99_14, cv_99_15, cv_99_16, cv_99_17, cv_99_18, cv_99_19, cv_99_20, cv_99_21, cv_99_22, cv_99_23, cv_99_24, cv_99_25, cv_99_26, cv_99_27, cv_99_28, cv_99_29, cv_99_30, cv_99_31, cv_99_32, cv_99_33, cv_99_34, cv_99_35, cv_99_36, cv_99_37, cv_99_38, cv_99_39, cv_99_40, cv_99_41, cv_99_42, cv_99_43, cv_99_44, cv_99_45, cv_99_46, ↓reduceIte, true_and, and_true, vok_int, vok_b0, vok_b1, vok_bb, r_backI, r_backV, bb_eq0, Nat.reduceAdd, Nat.reduceMul, Nat.reduceEqDiff, not_true_eq_false, not_false_eq_true, if_true, if_false, false_and, and_false, c17, c98, wit_bel (x := 47) (y := 48) (b := 47) rfl rfl (by decide), h]
theorem c120m {c k : Nat} {w : Int32} (hc : c < 48) (hk : k < 100) (hv : mi 113 (c / 16) = ii k) (h : ¬ c % 16 < k) : iw (d + 1) 120 0 [.ref 99, .int (ii c), .int w] [] (it_mem L xs mi rw o g z) Q ↔ Q (.inl (some (.int (-1)))) (it_mem L xs (it_up mi 99 0 0) rw o g z) := by
  have e1 : ii c / 16 = ii (c / 16) := ii_div (by omega) (by decide)
  have e2 : ii c - ii (c / 16) * 16 = ii (c % 16) := by rw [← e1]; exact ii_rem (by omega) (by decide)
  have hb : it_inb L 113 (ii (c / 16)) := ii_inb (by omega) (by rw [ln_113]; omega)
  have e3 : (ii (c / 16)).toNatClampNeg = c / 16 := ii_clamp (by omega)
  simp only [w120_0, w120_1, w120_2, w120_5, w120_6, w120_8, w120_11, w120_14, w120_15, w120_16, w120_17, w120_19, w120_20, w120_21, w120_24, w120_25, w120_27, w120_28, w120_29, w120_32, w120_33, isk_99, cv_99_0, cv_99_1, cv_99_2, cv_99_3, cv_99_4, cv_99_5, cv_99_6, cv_99_7, cv_99_8, cv_99_9, cv_99_10, cv_99_11, cv_99_12, cv_99_13, cv_99_14, cv_99_15, cv_99_16, cv_99_17, cv_99_18, cv_99_19, cv_99_20, cv_99_21, cv_99_22, cv_99_23, cv_99_24, cv_99_25, cv_99_26, cv_99_27, cv_99_28, cv_99_29, cv_99_30, cv_99_31, cv_99_32, cv_99_33, cv_99_34, cv_99_35, cv_99_36, cv_99_37, cv_99_38, cv_99_39, cv_99_40, cv_99_41, cv_99_42, cv_99_43, cv_99_44, cv_99_45, cv_99_46, isa_113, ln_113, cv_113, ↓reduceIte, true_and, and_true, vok_int, vok_b0, vok_b1, vok_bb, r_backI, r_backV, bb_eq0, Nat.reduceAdd, Nat.reduceMul, Nat.reduceEqDiff, not_true_eq_false, not_false_eq_true, if_true, if_false, false_and, and_false, c17, c98, wit (x := 47) (b := 47) rfl (by decide) hc, n16, e1, e2, e3, hb, it_up_f mi 0 _ (show 113 ≠ 99 by decide), hv, ii_lt (show c % 16 < 2147483648 by omega) (show k < 2147483648 by omega), h]
theorem c120 {c k : Nat} {w : Int32} (hc : c < 48) (hk : k < 100) (hv : mi 113 (c / 16) = ii k) (h : c % 16 < k) : iw (d + 1) 120 0 [.ref 99, .int (ii c), .int w] [] (it_mem L xs mi rw o g z) Q ↔ Q (.inl (some (.int (sw5 w (mi 114 c) (mi 115 c) (mi 116 c) (mi 117 c) (mi 118 c))))) (it_mem L xs (it_up mi 99 0 0) rw o g z) := by
  have e : (ii c).toNatClampNeg = c := ii_clamp (by omega)
  have e1 : ii c / 16 = ii (c / 16) := ii_div (by omega) (by decide)
  have e2 : ii c - ii (c / 16) * 16 = ii (c % 16) := by rw [← e1]; exact ii_rem (by omega) (by decide)
  have hb : it_inb L 113 (ii (c / 16)) := ii_inb (by omega) (by rw [ln_113]; omega)
  have e3 : (ii (c / 16)).toNatClampNeg = c / 16 := ii_clamp (by omega)
  have b0 : it_inb L 114 (ii c) := ii_inb (by omega) (by rw [ln_114]; omega)
  have b1 : it_inb L 115 (ii c) := ii_inb (by omega) (by rw [ln_115]; omega)
  have b2 : it_inb L 116 (ii c) := ii_inb (by omega) (by rw [ln_116]; omega)
  have b3 : it_inb L 117 (ii c) := ii_inb (by omega) (by rw [ln_117]; omega)
  have b4 : it_inb L 118 (ii c) := ii_inb (by omega) (by rw [ln_118]; omega)
  simp only [w120_0, w120_1, w120_2, w120_5, w120_6, w120_8, w120_11, w120_14, w120_15, w120_16, w120_17, w120_19, w120_20, w120_21, w120_24, w120_25, w120_27, w120_28, w120_29, w120_32, w120_33, w120_34, w120_35, w120_68, w120_69, w120_72, w120_73, w120_74, w120_75, w120_76, w120_79, w120_80, w120_81, w120_82, w120_83, w120_86, w120_87, w120_88, w120_89, w120_90, w120_93, w120_94, w120_95, w120_96, w120_97, w120_100, w120_101, w120_102, w120_103, w120_104, isk_99, cv_99_0, cv_99_1, cv_99_2, cv_99_3, cv_99_4, cv_99_5, cv_99_6, cv_99_7, cv_99_8, cv_99_9, cv_99_10, cv_99_11, cv_99_12, cv_99_13, cv_99_14, cv_99_15, cv_99_16, cv_99_17, cv_99_18, cv_99_19, cv_99_20, cv_99_21, cv_99_22, cv_99_23, cv_99_24, cv_99_25, cv_99_26, cv_99_27, cv_99_28, cv_99_29, cv_99_30, cv_99_31, cv_99_32, cv_99_33, cv_99_34, cv_99_35, cv_99_36, cv_99_37, cv_99_38, cv_99_39, cv_99_40, cv_99_41, cv_99_42, cv_99_43, cv_99_44, cv_99_45, cv_99_46, isa_113, ln_113, cv_113, isa_114, ln_114, cv_114, isa_115, ln_115, cv_115, isa_116, ln_116, cv_116, isa_117, ln_117, cv_117, isa_118, ln_118, cv_118, ↓reduceIte, true_and, and_true, vok_int, vok_b0, vok_b1, vok_bb, r_backI, r_backV, bb_eq0, Nat.reduceAdd, Nat.reduceMul, Nat.reduceEqDiff, not_true_eq_false, not_false_eq_true, if_true, if_false, false_and, and_false, c17, c98, wit (x := 47) (b := 47) rfl (by decide) hc, n16, e, e1, e2, e3, hb, b0, b1, b2, b3, b4, it_up_f mi 0 _ (show 113 ≠ 99 by decide), it_up_f mi 0 _ (show 114 ≠ 99 by decide), it_up_f mi 0 _ (show 115 ≠ 99 by decide), it_up_f mi 0 _ (show 116 ≠ 99 by decide), it_up_f mi 0 _ (show 117 ≠ 99 by decide), it_up_f mi 0 _ (show 118 ≠ 99 by decide), hv, ii_lt (show c % 16 < 2147483648 by omega) (show k < 2147483648 by omega), h]
  unfold sw5
  repeat' split
  all_goals exact Iff.rfl
end
section
variable {Q : im_O → im_M → Prop} {L : Nat} {xs : Nat → Int32} {mi : Nat → Nat → Int32} {rw : Nat → Nat} {o : Nat → Int64} {g z i : Nat} {l5 l6 : Value}
theorem sc_in {L i k : Nat} (hL : L ≤ 3072) (hi : i + 6 ≤ L) (hk : k < 6) : it_inb L 0 (ii (i + k)) := ii_inb (by omega) (by rw [ln_0]; omega)
theorem sc_cl {L i k : Nat} (hL : L ≤ 3072) (hi : i + 6 ≤ L) (hk : k < 6) : (ii (i + k)).toNatClampNeg = i + k := ii_clamp (by omega)
theorem op12 (hL : L ≤ 3072) (hi : i + 6 ≤ L) (hI : it_Inv mi rw) (hK : it_K L xs i g z Q) : iw 30 0 642 [.ref 0, .ref 8, .ref 99, .ref 134, .int (ii i), l5, l6] [] (it_mem L xs mi rw o g z) Q := by
  have hI0 := hI
  obtain ⟨_, _, _, ⟨n, hn, h1, h2, h3⟩, _⟩ := hI
  have hb := sc_in (k := 1) hL hi (by decide)
  have hc := sc_cl (k := 1) hL hi (by decide)
  simp only [w0_642, w0_643, w0_644, w0_646, w0_647, w0_648, w0_649, w0_652, w0_653, w0_654, w0_656, w0_657, w0_658, w0_659, w0_662, w0_665, w0_666, isa_0, ln_0, cv_0, isk_8, cv_8_0, cv_8_1, cv_8_2, cv_8_3, cv_8_4, cv_8_5, cv_8_6, cv_8_7, cv_8_8, isk_99, cv_99_0, cv_99_1, cv_99_2, cv_99_3, cv_99_4, cv_99_5, cv_99_6, cv_99_7, cv_99_8, cv_99_9, cv_99_10, cv_99_11, cv_99_12, cv_99_13, cv_99_14, cv_99_15, cv_99_16, cv_99_17, cv_99_18, cv_99_19, cv_99_20, cv_99_21, cv_99_22, cv_99_23, cv_99_24, cv_99_25, cv_99_26, cv_99_27, cv_99_28, cv_99_29, cv_99_30, cv_99_31, cv_99_32, cv_99_33, cv_99_34, cv_99_35, cv_99_36, cv_99_37, cv_99_38, cv_99_39, cv_99_40, cv_99_41, cv_99_42, cv_99_43, cv_99_44, cv_99_45, cv_99_46, lit_1, ii_add, hb, hc, true_and]
  by_cases h : 0 ≤ xs (i + 1) ∧ xs (i + 1) < ii n
  · obtain ⟨p, hp, ep⟩ := below (b := n) rfl (by omega) h
    simp only [ep, c36 hn h1 hp, c118 hn h2 hp, r_backI, Nat.reduceAdd, w0_642, w0_643, w0_644, w0_646, w0_647, w0_648, w0_649, w0_652, w0_653, w0_654, w0_656, w0_657, w0_658, w0_659, w0_662, w0_665, w0_666, isa_0, ln_0, cv_0, isk_8, cv_8_0, cv_8_1, cv_8_2, cv_8_3, cv_8_4, cv_8_5, cv_8_6, cv_8_7, cv_8_8, isk_99, cv_99_0, cv_99_1, cv_99_2, cv_99_3, cv_99_4, cv_99_5, cv_99_6, cv_99_7, cv_99_8, cv_99_9, cv_99_10, cv_99_11, cv_99_12, cv_99_13, cv_99_14, cv_99_15, cv_99_16, cv_99_17, cv_99_18, cv_99_19, cv_99_20, cv_99_21, cv_99_22, cv_99_23, cv_99_24, cv_99_25, cv_99_26, cv_99_27, cv_99_28, cv_99_29, cv_99_30, cv_99_31, cv_99_32, cv_99_33, cv_99_34, cv_99_35, cv_99_36, cv_99_37, cv_99_38, cv_99_39, cv_99_40, cv_99_41, cv_99_42, cv_99_43, cv_99_44, cv_99_45, cv_99_46, hb, hc, true_and, h3 p hp, if_true, lit_1, ii_add]
    exact hK _ _ _ _ _ _ _ (inv_code hI0) (by omega) (by omega)
  · have ha : ¬ (0 ≤ xs (i + 1) ∧ xs (i + 1) < mi 97 1) := by rw [h1]; exact h
    have hb' : ¬ (0 ≤ xs (i + 1) ∧ xs (i + 1) < mi 99 45) := by rw [h2]; exact h
    simp only [c36n ha, c118n hb', r_backI, Nat.reduceAdd, w0_642, w0_643, w0_644, w0_646, w0_647, w0_648, w0_649, w0_652, w0_653, w0_654, w0_656, w0_657, w0_658, w0_659, w0_662, w0_665, w0_666, isa_0, ln_0, cv_0, isk_8, cv_8_0, cv_8_1, cv_8_2, cv_8_3, cv_8_4, cv_8_5, cv_8_6, cv_8_7, cv_8_8, isk_99, cv_99_0, cv_99_1, cv_99_2, cv_99_3, cv_99_4, cv_99_5, cv_99_6, cv_99_7, cv_99_8, cv_99_9, cv_99_10, cv_99_11, cv_99_12, cv_99_13, cv_99_14, cv_99_15, cv_99_16, cv_99_17, cv_99_18, cv_99_19, cv_99_20, cv_99_21, cv_99_22, cv_99_23, cv_99_24, cv_99_25, cv_99_26, cv_99_27, cv_99_28, cv_99_29, cv_99_30, cv_99_31, cv_99_32, cv_99_33, cv_99_34, cv_99_35, cv_99_36, cv_99_37, cv_99_38, cv_99_39, cv_99_40, cv_99_41, cv_99_42, cv_99_43, cv_99_44, cv_99_45, cv_99_46, hb, hc, true_and, if_true, lit_1, ii_add]
    exact hK _ _ _ _ _ _ _ (inv_code hI0) (by omega) (by omega)
theorem op14 (hL : L ≤ 3072) (hi : i + 6 ≤ L) (hI : it_Inv mi rw) (hK : it_K L xs i g z Q) : iw 30 0 716 [.ref 0, .ref 8, .ref 99, .ref 134, .int (ii i), l5, l6] [] (it_mem L xs mi rw o g z) Q := by
  have hI0 := hI
  obtain ⟨_, _, _, _, _, _, cnt, kn, vw, tm, sp, hN, ⟨h1, _, h3⟩, _⟩ := hI
  have hb := sc_in (k := 1) hL hi (by decide)
  have hc := sc_cl (k := 1) hL hi (by decide)
  have hb2 := sc_in (k := 2) hL hi (by decide)
  have hc2 := sc_cl (k := 2) hL hi (by decide)
  simp only [w0_716, w0_717, w0_718, w0_720, w0_721, w0_722, w0_723, w0_724, w0_726, w0_727, w0_728, w0_729, w0_732, w0_733, w0_734, w0_736, w0_737, w0_738, w0_739, w0_740, w0_742, w0_743, w0_744, w0_745, w0_748, w0_751, w0_752, isa_0, ln_0, cv_0, isk_8, cv_8_0, cv_8_1, cv_8_2, cv_8_3, cv_8_4, cv_8_5, cv_8_6, cv_8_7, cv_8_8, isk_99, cv_99_0, cv_99_1, cv_99_2, cv_99_3, cv_99_4, cv_99_5, cv_99_6, cv_99_7, cv_99_8, cv_99_9, cv_99_10, cv_99_11, cv_99_12, cv_99_13, cv_99_14, cv_99_15, cv_99_16, cv_99_17, cv_99_18, cv_99_19, cv_99_20, cv_99_21, cv_99_22, cv_99_23, cv_99_24, cv_99_25, cv_99_26, cv_99_27, cv_99_28, cv_99_29, cv_99_30, cv_99_31, cv_99_32, cv_99_33, cv_99_34, cv_99_35, cv_99_36, cv_99_37, cv_99_38, cv_99_39, cv_99_40, cv_99_41, cv_99_42, cv_99_43, cv_99_44, cv_99_45, cv_99_46, lit_1, lit_2, ii_add, hb, hc, hb2, hc2, true_and]
  by_cases h : 0 ≤ xs (i + 1) ∧ xs (i + 1) < 48
  · obtain ⟨c, hp, ep⟩ := below (b := 48) rfl (by decide) h
    obtain ⟨k1, k2⟩ := h1 (c / 16) (by omega)
    rw [win_at (by omega) (by omega)] at k1 k2
    have hle := hN.1 (c / 16) (by omega)
    by_cases hm : c % 16 < cnt (c / 16)
    · have h9 := h3 (c / 16) (c % 16) (by omega) hm
      rw [show 16 * (c / 16) + c % 16 = c from Nat.div_add_mod c 16] at h9
      simp (disch := omega) only [win_at] at h9
      simp only [ep, c38 hp (by omega) k1 hm, c120 hp (by omega) k2 hm, r_backI, Nat.reduceAdd, w0_716, w0_717, w0_718, w0_720, w0_721, w0_722, w0_723, w0_724, w0_726, w0_727, w0_728, w0_729, w0_732, w0_733, w0_734, w0_736, w0_737, w0_738, w0_739, w0_740, w0_742, w0_743, w0_744, w0_745, w0_748, w0_751, w0_752, isa_0, ln_0, cv_0, isk_8, cv_8_0, cv_8_1, cv_8_2, cv_8_3, cv_8_4, cv_8_5, cv_8_6, cv_8_7, cv_8_8, isk_99, cv_99_0, cv_99_1, cv_99_2, cv_99_3, cv_99_4, cv_99_5, cv_99_6, cv_99_7, cv_99_8, cv_99_9, cv_99_10, cv_99_11, cv_99_12, cv_99_13, cv_99_14, cv_99_15, cv_99_16, cv_99_17, cv_99_18, cv_99_19, cv_99_20, cv_99_21, cv_99_22, cv_99_23, cv_99_24, cv_99_25, cv_99_26, cv_99_27, cv_99_28, cv_99_29, cv_99_30, cv_99_31, cv_99_32, cv_99_33, cv_99_34, cv_99_35, cv_99_36, cv_99_37, cv_99_38, cv_99_39, cv_99_40, cv_99_41, cv_99_42, cv_99_43, cv_99_44, cv_99_45, cv_99_46, hb, hc, hb2, hc2, true_and, h9.1, h9.2.1, h9.2.2.1, h9.2.2.2.1, h9.2.2.2.2.1, if_true, lit_1, lit_2, ii_add]
      exact hK _ _ _ _ _ _ _ (inv_code hI0) (by omega) (by omega)
    · simp only [ep, c38m hp (by omega) k1 hm, c120m hp (by omega) k2 hm, r_backI, Nat.reduceAdd, w0_716, w0_717, w0_718, w0_720, w0_721, w0_722, w0_723, w0_724, w0_726, w0_727, w0_728, w0_729, w0_732, w0_733, w0_734, w0_736, w0_737, w0_738, w0_739, w0_740, w0_742, w0_743, w0_744, w0_745, w0_748, w0_751, w0_752, isa_0, ln_0, cv_0, isk_8, cv_8_0, cv_8_1, cv_8_2, cv_8_3, cv_8_4, cv_8_5, cv_8_6, cv_8_7, cv_8_8, isk_99, cv_99_0, cv_99_1, cv_99_2, cv_99_3, cv_99_4, cv_99_5, cv_99_6, cv_99_7, cv_99_8, cv_99_9, cv_99_10, cv_99_11, cv_99_12, cv_99_13, cv_99_14, cv_99_15, cv_99_16, cv_99_17, cv_99_18, cv_99_19, cv_99_20, cv_99_21, cv_99_22, cv_99_23, cv_99_24, cv_99_25, cv_99_26, cv_99_27, cv_99_28, cv_99_29, cv_99_30, cv_99_31, cv_99_32, cv_99_33, cv_99_34, cv_99_35, cv_99_36, cv_99_37, cv_99_38, cv_99_39, cv_99_40, cv_99_41, cv_99_42, cv_99_43, cv_99_44, cv_99_45, cv_99_46, hb, hc, hb2, hc2, true_and, if_true, lit_1, lit_2, ii_add]
      exact hK _ _ _ _ _ _ _ (inv_code hI0) (by omega) (by omega)
  · simp only [c38n h, c120n h, r_backI, Nat.reduceAdd, w0_716, w0_717, w0_718, w0_720, w0_721, w0_722, w0_723, w0_724, w0_726, w0_727, w0_728, w0_729, w0_732, w0_733, w0_734, w0_736, w0_737, w0_738, w0_739, w0_740, w0_742, w0_743, w0_744, w0_745, w0_748, w0_751, w0_752, isa_0, ln_0, cv_0, isk_8, cv_8_0, cv_8_1, cv_8_2, cv_8_3, cv_8_4, cv_8_5, cv_8_6, cv_8_7, cv_8_8, isk_99, cv_99_0, cv_99_1, cv_99_2, cv_99_3, cv_99_4, cv_99_5, cv_99_6, cv_99_7, cv_99_8, cv_99_9, cv_99_10, cv_99_11, cv_99_12, cv_99_13, cv_99_14, cv_99_15, cv_99_16, cv_99_17, cv_99_18, cv_99_19, cv_99_20, cv_99_21, cv_99_22, cv_99_23, cv_99_24, cv_99_25, cv_99_26, cv_99_27, cv_99_28, cv_99_29, cv_99_30, cv_99_31, cv_99_32, cv_99_33, cv_99_34, cv_99_35, cv_99_36, cv_99_37, cv_99_38, cv_99_39, cv_99_40, cv_99_41, cv_99_42, cv_99_43, cv_99_44, cv_99_45, cv_99_46, hb, hc, hb2, hc2, true_and, if_true, lit_1, lit_2, ii_add]
    exact hK _ _ _ _ _ _ _ (inv_code hI0) (by omega) (by omega)
end
