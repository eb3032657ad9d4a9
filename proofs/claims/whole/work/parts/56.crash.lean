/-! crash. -/
def zv (mi : Nat → Nat → Int32) (p : Nat) : Nat → Nat → Int32 := fun a b => if (38 + 14 * p ≤ a ∧ a < 41 + 14 * p) ∧ b < 3 then 0 else mi a b
def zm (mi : Nat → Nat → Int32) (p n : Nat) : Nat → Nat → Int32 := fun a b => if a = 120 ∧ 9 * p ≤ b ∧ b < 9 * p + n then 0 else mi a b
theorem k0 : (0 : Int32).toNatClampNeg = 0 := rfl
theorem k1 : (1 : Int32).toNatClampNeg = 1 := rfl
theorem k2 : (2 : Int32).toNatClampNeg = 2 := rfl
theorem in30 {L a : Nat} (h : it_ln L a = 3) : it_inb L a 0 := inb3 (p := 0) (by decide) h
theorem in31 {L a : Nat} (h : it_ln L a = 3) : it_inb L a 1 := inb3 (p := 1) (by decide) h
theorem in32 {L a : Nat} (h : it_ln L a = 3) : it_inb L a 2 := inb3 (p := 2) (by decide) h
section
variable {d : Nat} {Q : im_O → im_M → Prop} {L : Nat} {xs : Nat → Int32} {mi : Nat → Nat → Int32} {rw : Nat → Nat} {o : Nat → Int64} {g z : Nat}
set_option maxRecDepth 20000 in
theorem c34_0 {v w : Value} : iw d 34 0 [.ref 35, v, w] [] (it_mem L xs mi rw o g z) Q ↔ Q (.inl none) (it_mem L xs (zv mi 0) rw o g z) := by
  have e : (it_up (it_up (it_up (it_up (it_up (it_up (it_up (it_up (it_up mi 38 0 0) 38 1 0) 38 2 0) 39 0 0) 39 1 0) 39 2 0) 40 0 0) 40 1 0) 40 2 0) = zv mi 0 := by
    funext a b
    unfold zv
    simp only [it_up_app]
    by_cases h : (38 ≤ a ∧ a < 41) ∧ b < 3
    · rw [if_pos (c := (38 + 14 * 0 ≤ a ∧ a < 41 + 14 * 0) ∧ b < 3) (by omega)]
      rcases (show a = 38 ∨ a = 39 ∨ a = 40 by omega) with rfl | rfl | rfl <;> rcases (show b = 0 ∨ b = 1 ∨ b = 2 by omega) with rfl | rfl | rfl <;> rfl
    · rw [if_neg (c := (38 + 14 * 0 ≤ a ∧ a < 41 + 14 * 0) ∧ b < 3) (by omega)]
      repeat rw [if_neg (by omega)]
  rw [← e]
  simp only [w34_0, w34_1, w34_2, w34_3, w34_4, w34_7, w34_8, w34_9, w34_10, w34_11, w34_14, w34_15, w34_18, w34_19, w34_20, w34_21, w34_22, w34_23, w34_26, w34_29, w34_32, w34_35, isk_35, cv_35_0, cv_35_1, cv_35_2, cv_35_3, isa_37, ln_37, cv_37_0, cv_37_1, cv_37_2, isa_38, ln_38, cv_38, isa_39, ln_39, cv_39, isa_40, ln_40, cv_40, ↓reduceIte, true_and, and_true, vok_int, vok_b0, vok_b1, vok_bb, r_backI, r_backV, bb_eq0, Nat.reduceAdd, Nat.reduceMul, Nat.reduceEqDiff, not_true_eq_false, not_false_eq_true, if_true, if_false, false_and, and_false, c17, c98, Int32.reduceLE, Int32.reduceAdd, k0, k1, k2, in30 ln_37, in31 ln_37, in32 ln_37, in30 ln_38, in31 ln_38, in32 ln_38, in30 ln_39, in31 ln_39, in32 ln_39, in30 ln_40, in31 ln_40, in32 ln_40, Nat.reduceLeDiff]
theorem c33_0 : iw (d + 1) 33 0 [.ref 8, .int 0] [] (it_mem L xs mi rw o g z) Q ↔ Q (.inl (some (.int 1))) (it_mem L xs (zv mi 0) rw o g z) := by
  simp only [w33_0, w33_1, w33_2, w33_5, w33_8, w33_9, w33_10, w33_11, w33_14, w33_15, w33_16, w33_19, w33_20, isk_8, cv_8_0, cv_8_1, cv_8_2, cv_8_3, cv_8_4, cv_8_5, cv_8_6, cv_8_7, cv_8_8, isa_34, ln_34, cv_34_0, cv_34_1, cv_34_2, isk_35, cv_35_0, cv_35_1, cv_35_2, cv_35_3, ↓reduceIte, true_and, and_true, vok_int, vok_b0, vok_b1, vok_bb, r_backI, r_backV, bb_eq0, Nat.reduceAdd, Nat.reduceMul, Nat.reduceEqDiff, not_true_eq_false, not_false_eq_true, if_true, if_false, false_and, and_false, c17, c98, Int32.reduceLE, Int32.reduceLT, k0, k1, k2, in30 ln_34, in31 ln_34, in32 ln_34, c34_0]
set_option maxRecDepth 20000 in
theorem c34_1 {v w : Value} : iw d 34 0 [.ref 49, v, w] [] (it_mem L xs mi rw o g z) Q ↔ Q (.inl none) (it_mem L xs (zv mi 1) rw o g z) := by
  have e : (it_up (it_up (it_up (it_up (it_up (it_up (it_up (it_up (it_up mi 52 0 0) 52 1 0) 52 2 0) 53 0 0) 53 1 0) 53 2 0) 54 0 0) 54 1 0) 54 2 0) = zv mi 1 := by
    funext a b
    unfold zv
    simp only [it_up_app]
    by_cases h : (52 ≤ a ∧ a < 55) ∧ b < 3
    · rw [if_pos (c := (38 + 14 * 1 ≤ a ∧ a < 41 + 14 * 1) ∧ b < 3) (by omega)]
      rcases (show a = 52 ∨ a = 53 ∨ a = 54 by omega) with rfl | rfl | rfl <;> rcases (show b = 0 ∨ b = 1 ∨ b = 2 by omega) with rfl | rfl | rfl <;> rfl
    · rw [if_neg (c := (38 + 14 * 1 ≤ a ∧ a < 41 + 14 * 1) ∧ b < 3) (by omega)]
      repeat rw [if_neg (by omega)]
  rw [← e]
  simp only [w34_0, w34_1, w34_2, w34_3, w34_4, w34_7, w34_8, w34_9, w34_10, w34_11, w34_14, w34_15, w34_18, w34_19, w34_20, w34_21, w34_22, w34_23, w34_26, w34_29, w34_32, w34_35, isk_49, cv_49_0, cv_49_1, cv_49_2, cv_49_3, isa_51, ln_51, cv_51_0, cv_51_1, cv_51_2, isa_52, ln_52, cv_52, isa_53, ln_53, cv_53, isa_54, ln_54, cv_54, ↓reduceIte, true_and, and_true, vok_int, vok_b0, vok_b1, vok_bb, r_backI, r_backV, bb_eq0, Nat.reduceAdd, Nat.reduceMul, Nat.reduceEqDiff, not_true_eq_false, not_false_eq_true, if_true, if_false, false_and, and_false, c17, c98, Int32.reduceLE, Int32.reduceAdd, k0, k1, k2, in30 ln_51, in31 ln_51, in32 ln_51, in30 ln_52, in31 ln_52, in32 ln_52, in30 ln_53, in31 ln_53, in32 ln_53, in30 ln_54, in31 ln_54, in32 ln_54, Nat.reduceLeDiff]
theorem c33_1 : iw (d + 1) 33 0 [.ref 8, .int 1] [] (it_mem L xs mi rw o g z) Q ↔ Q (.inl (some (.int 1))) (it_mem L xs (zv mi 1) rw o g z) := by
  simp only [w33_0, w33_1, w33_2, w33_5, w33_8, w33_9, w33_10, w33_11, w33_14, w33_15, w33_16, w33_19, w33_20, isk_8, cv_8_0, cv_8_1, cv_8_2, cv_8_3, cv_8_4, cv_8_5, cv_8_6, cv_8_7, cv_8_8, isa_34, ln_34, cv_34_0, cv_34_1, cv_34_2, isk_49, cv_49_0, cv_49_1, cv_49_2, cv_49_3, ↓reduceIte, true_and, and_true, vok_int, vok_b0, vok_b1, vok_bb, r_backI, r_backV, bb_eq0, Nat.reduceAdd, Nat.reduceMul, Nat.reduceEqDiff, not_true_eq_false, not_false_eq_true, if_true, if_false, false_and, and_false, c17, c98, Int32.reduceLE, Int32.reduceLT, k0, k1, k2, in30 ln_34, in31 ln_34, in32 ln_34, c34_1]
set_option maxRecDepth 20000 in
theorem c34_2 {v w : Value} : iw d 34 0 [.ref 63, v, w] [] (it_mem L xs mi rw o g z) Q ↔ Q (.inl none) (it_mem L xs (zv mi 2) rw o g z) := by
  have e : (it_up (it_up (it_up (it_up (it_up (it_up (it_up (it_up (it_up mi 66 0 0) 66 1 0) 66 2 0) 67 0 0) 67 1 0) 67 2 0) 68 0 0) 68 1 0) 68 2 0) = zv mi 2 := by
    funext a b
    unfold zv
    simp only [it_up_app]
    by_cases h : (66 ≤ a ∧ a < 69) ∧ b < 3
    · rw [if_pos (c := (38 + 14 * 2 ≤ a ∧ a < 41 + 14 * 2) ∧ b < 3) (by omega)]
      rcases (show a = 66 ∨ a = 67 ∨ a = 68 by omega) with rfl | rfl | rfl <;> rcases (show b = 0 ∨ b = 1 ∨ b = 2 by omega) with rfl | rfl | rfl <;> rfl
    · rw [if_neg (c := (38 + 14 * 2 ≤ a ∧ a < 41 + 14 * 2) ∧ b < 3) (by omega)]
      repeat rw [if_neg (by omega)]
  rw [← e]
  simp only [w34_0, w34_1, w34_2, w34_3, w34_4, w34_7, w34_8, w34_9, w34_10, w34_11, w34_14, w34_15, w34_18, w34_19, w34_20, w34_21, w34_22, w34_23, w34_26, w34_29, w34_32, w34_35, isk_63, cv_63_0, cv_63_1, cv_63_2, cv_63_3, isa_65, ln_65, cv_65_0, cv_65_1, cv_65_2, isa_66, ln_66, cv_66, isa_67, ln_67, cv_67, isa_68, ln_68, cv_68, ↓reduceIte, true_and, and_true, vok_int, vok_b0, vok_b1, vok_bb, r_backI, r_backV, bb_eq0, Nat.reduceAdd, Nat.reduceMul, Nat.reduceEqDiff, not_true_eq_false, not_false_eq_true, if_true, if_false, false_and, and_false, c17, c98, Int32.reduceLE, Int32.reduceAdd, k0, k1, k2, in30 ln_65, in31 ln_65, in32 ln_65, in30 ln_66, in31 ln_66, in32 ln_66, in30 ln_67, in31 ln_67, in32 ln_67, in30 ln_68, in31 ln_68, in32 ln_68, Nat.reduceLeDiff]
theorem c33_2 : iw (d + 1) 33 0 [.ref 8, .int 2] [] (it_mem L xs mi rw o g z) Q ↔ Q (.inl (some (.int 1))) (it_mem L xs (zv mi 2) rw o g z) := by
  simp only [w33_0, w33_1, w33_2, w33_5, w33_8, w33_9, w33_10, w33_11, w33_14, w33_15, w33_16, w33_19, w33_20, isk_8, cv_8_0, cv_8_1, cv_8_2, cv_8_3, cv_8_4, cv_8_5, cv_8_6, cv_8_7, cv_8_8, isa_34, ln_34, cv_34_0, cv_34_1, cv_34_2, isk_63, cv_63_0, cv_63_1, cv_63_2, cv_63_3, ↓reduceIte, true_and, and_true, vok_int, vok_b0, vok_b1, vok_bb, r_backI, r_backV, bb_eq0, Nat.reduceAdd, Nat.reduceMul, Nat.reduceEqDiff, not_true_eq_false, not_false_eq_true, if_true, if_false, false_and, and_false, c17, c98, Int32.reduceLE, Int32.reduceLT, k0, k1, k2, in30 ln_34, in31 ln_34, in32 ln_34, c34_2]
theorem c33n {a : Int32} (h : ¬ (0 ≤ a ∧ a < 3)) : iw (d + 1) 33 0 [.ref 8, .int a] [] (it_mem L xs mi rw o g z) Q ↔ Q (.inl (some (.int 0))) (it_mem L xs mi rw o g z) := by
  simp only [w33_0, w33_1, w33_2, w33_5, w33_8, w33_9, ↓reduceIte, true_and, and_true, vok_int, vok_b0, vok_b1, vok_bb, r_backI, r_backV, bb_eq0, Nat.reduceAdd, Nat.reduceMul, Nat.reduceEqDiff, not_true_eq_false, not_false_eq_true, if_true, if_false, false_and, and_false, c17, c98, eq_false h]
theorem c33 {p : Nat} (hp : p < 3) : iw (d + 1) 33 0 [.ref 8, .int (ii p)] [] (it_mem L xs mi rw o g z) Q ↔ Q (.inl (some (.int 1))) (it_mem L xs (zv mi p) rw o g z) := by
  rcases (show p = 0 ∨ p = 1 ∨ p = 2 by omega) with rfl | rfl | rfl
  · exact c33_0
  · exact c33_1
  · exact c33_2
theorem zm_up {mi : Nat → Nat → Int32} {p n : Nat} : it_up (zm mi p n) 120 (9 * p + n) 0 = zm mi p (n + 1) := by
  funext a b
  simp only [it_up_app, zm]
  by_cases h : a = 120 ∧ b = 9 * p + n
  · rw [if_pos h, if_pos (by omega)]
  · rw [if_neg h]
    by_cases h2 : a = 120 ∧ 9 * p ≤ b ∧ b < 9 * p + n
    · rw [if_pos h2, if_pos (by omega)]
    · rw [if_neg h2, if_neg (by omega)]
theorem c114L {p : Nat} (hp : p < 3) : ∀ (k n : Nat), n + k = 9 → (iw d 114 20 [.ref 99, .int (ii p), .int (ii (9 * p + n))] [] (it_mem L xs (zm mi p n) rw o g z) Q ↔ Q (.inl (some (.int 1))) (it_mem L xs (zm mi p 9) rw o g z)) := by
  intro k
  induction k with
  | zero =>
    intro n hn
    have e : n = 9 := by omega
    subst e
    simp (disch := omega) only [w114_0, w114_1, w114_2, w114_5, w114_6, w114_7, w114_10, w114_13, w114_14, w114_15, w114_17, w114_18, w114_19, w114_20, w114_21, w114_23, w114_24, w114_25, w114_27, w114_28, w114_31, w114_32, w114_35, w114_36, w114_37, w114_38, w114_41, w114_44, w114_45, ↓reduceIte, true_and, and_true, vok_int, vok_b0, vok_b1, vok_bb, r_backI, r_backV, bb_eq0, Nat.reduceAdd, Nat.reduceMul, Nat.reduceEqDiff, not_true_eq_false, not_false_eq_true, if_true, if_false, false_and, and_false, c17, c98, lit_9, ii_mul, ii_add, ii_le, Nat.le_refl]
  | succ k ih =>
    intro n hn
    have hb : it_inb L 120 (ii (9 * p + n)) := ii_inb (by omega) (by rw [ln_120]; omega)
    have e : (ii (9 * p + n)).toNatClampNeg = 9 * p + n := ii_clamp (by omega)
    rw [← ih (n + 1) (by omega)]
    have e2 : ii (9 * p + n) + 1 = ii (9 * p + (n + 1)) := ii_add (b := 1)
    have e3 : ¬ ii (9 * p + 9) ≤ ii (9 * p + n) := by rw [ii_le (by omega) (by omega)]; omega
    rw [w114_20]
    simp only [w114_0, w114_1, w114_2, w114_5, w114_6, w114_7, w114_10, w114_13, w114_14, w114_15, w114_17, w114_18, w114_19, w114_21, w114_23, w114_24, w114_25, w114_27, w114_28, w114_31, w114_32, w114_35, w114_36, w114_37, w114_38, w114_41, w114_44, w114_45, isk_99, cv_99_0, cv_99_1, cv_99_2, cv_99_3, cv_99_4, cv_99_5, cv_99_6, cv_99_7, cv_99_8, cv_99_9, cv_99_10, cv_99_11, cv_99_12, cv_99_13, cv_99_14, cv_99_15, cv_99_16, cv_99_17, cv_99_18, cv_99_19, cv_99_20, cv_99_21, cv_99_22, cv_99_23, cv_99_24, cv_99_25, cv_99_26, cv_99_27, cv_99_28, cv_99_29, cv_99_30, cv_99_31, cv_99_32, cv_99_33, cv_99_34, cv_99_35, cv_99_36, cv_99_37, cv_99_38, cv_99_39, cv_99_40, cv_99_41, cv_99_42, cv_99_43, cv_99_44, cv_99_45, cv_99_46, isa_120, ln_120, cv_120, ↓reduceIte, true_and, and_true, vok_int, vok_b0, vok_b1, vok_bb, r_backI, r_backV, bb_eq0, Nat.reduceAdd, Nat.reduceMul, Nat.reduceEqDiff, not_true_eq_false, not_false_eq_true, if_true, if_false, false_and, and_false, c17, c98, lit_9, ii_mul, ii_add, e3, hb, e, e2, zm_up, Nat.reduceLeDiff]
theorem zm_0 {mi : Nat → Nat → Int32} {p : Nat} : zm mi p 0 = mi := by
  funext a b
  unfold zm
  rw [if_neg (by omega)]
theorem c114n {a : Int32} (h : ¬ (0 ≤ a ∧ a < 3)) : iw (d + 1) 114 0 [.ref 99, .int a, .retAddr 0] [] (it_mem L xs mi rw o g z) Q ↔ Q (.inl (some (.int 0))) (it_mem L xs (it_up mi 99 0 0) rw o g z) := by
  simp only [w114_0, w114_1, w114_2, w114_5, w114_6, w114_7, w114_10, w114_13, w114_14, isk_99, cv_99_0, cv_99_1, cv_99_2, cv_99_3, cv_99_4, cv_99_5, cv_99_6, cv_99_7, cv_99_8, cv_99_9, cv_99_10, cv_99_11, cv_99_12, cv_99_13, cv_99_14, cv_99_15, cv_99_16, cv_99_17, cv_99_18, cv_99_19, cv_99_20, cv_99_21, cv_99_22, cv_99_23, cv_99_24, cv_99_25, cv_99_26, cv_99_27, cv_99_28, cv_99_29, cv_99_30, cv_99_31, cv_99_32, cv_99_33, cv_99_34, cv_99_35, cv_99_36, cv_99_37, cv_99_38, cv_99_39, cv_99_40, cv_99_41, cv_99_42, cv_99_43, cv_99_44, cv_99_45, cv_99_46, ↓reduceIte, true_and, and_true, vok_int, vok_b0, vok_b1, vok_bb, r_backI, r_backV, bb_eq0, Nat.reduceAdd, Nat.reduceMul, Nat.reduceEqDiff, not_true_eq_false, not_false_eq_true, if_true, if_false, false_and, and_false, c17, c98, wb3, eq_false h]
theorem c114 {p : Nat} (hp : p < 3) : iw (d + 1) 114 0 [.ref 99, .int (ii p), .retAddr 0] [] (it_mem L xs mi rw o g z) Q ↔ Q (.inl (some (.int 1))) (it_mem L xs (zm (it_up mi 99 0 0) p 9) rw o g z) := by
  have h := c114L (d := d + 1) (Q := Q) (L := L) (xs := xs) (mi := it_up mi 99 0 0) (rw := rw) (o := o) (g := g) (z := z) hp 9 0 rfl
  rw [zm_0] at h
  rw [← h]
  simp only [w114_0, w114_1, w114_2, w114_5, w114_6, w114_7, w114_10, w114_13, w114_14, w114_15, w114_17, w114_18, w114_19, isk_99, cv_99_0, cv_99_1, cv_99_2, cv_99_3, cv_99_4, cv_99_5, cv_99_6, cv_99_7, cv_99_8, cv_99_9, cv_99_10, cv_99_11, cv_99_12, cv_99_13, cv_99_14, cv_99_15, cv_99_16, cv_99_17, cv_99_18, cv_99_19, cv_99_20, cv_99_21, cv_99_22, cv_99_23, cv_99_24, cv_99_25, cv_99_26, cv_99_27, cv_99_28, cv_99_29, cv_99_30, cv_99_31, cv_99_32, cv_99_33, cv_99_34, cv_99_35, cv_99_36, cv_99_37, cv_99_38, cv_99_39, cv_99_40, cv_99_41, cv_99_42, cv_99_43, cv_99_44, cv_99_45, cv_99_46, ↓reduceIte, true_and, and_true, vok_int, vok_b0, vok_b1, vok_bb, r_backI, r_backV, bb_eq0, Nat.reduceAdd, Nat.reduceMul, Nat.reduceEqDiff, not_true_eq_false, not_false_eq_true, if_true, if_false, false_and, and_false, c17, c98, wit (x := 2) (b := 2) rfl (by decide) hp, lit_9, ii_mul, Nat.add_zero]
end
theorem zv_f {mi : Nat → Nat → Int32} {p a : Nat} (h : a < 38 + 14 * p ∨ 41 + 14 * p ≤ a) : zv mi p a = mi a := by
  funext b
  unfold zv
  rw [if_neg (by omega)]
theorem zm_f {mi : Nat → Nat → Int32} {p n a : Nat} (h : a ≠ 120) : zm mi p n a = mi a := by
  funext b
  unfold zm
  rw [if_neg (by omega)]
theorem win_zv {mi : Nat → Nat → Int32} {lo hi p : Nat} (hp : p < 3) (h : hi ≤ 38 ∨ 69 ≤ lo) : it_win lo hi (zv mi p) = it_win lo hi mi := by
  funext a
  unfold it_win
  split
  · exact zv_f (by omega)
  · rfl
theorem win_zm {mi : Nat → Nat → Int32} {lo hi p n : Nat} (h : hi ≤ 120 ∨ 121 ≤ lo) : it_win lo hi (zm mi p n) = it_win lo hi mi := by
  funext a
  unfold it_win
  split
  · exact zm_f (by omega)
  · rfl
section
variable {Q : im_O → im_M → Prop} {L : Nat} {xs : Nat → Int32} {mi : Nat → Nat → Int32} {rw : Nat → Nat} {o : Nat → Int64} {g z i : Nat} {l5 l6 : Value}
theorem op9 (hL : L ≤ 3072) (hi : i + 6 ≤ L) (hI : it_Inv mi rw) (hK : it_K L xs i g z Q) : iw 30 0 534 [.ref 0, .ref 8, .ref 99, .ref 134, .int (ii i), l5, l6] [] (it_mem L xs mi rw o g z) Q := by
  have hI0 := hI
  obtain ⟨i1, i2, i3, i4, i5, i6, cnt, kn, vw, tm, sp, hN, hG, ⟨s1, s2, s3⟩, i10, i11⟩ := hI
  have hb := sc_in (k := 1) hL hi (by decide)
  have hc := sc_cl (k := 1) hL hi (by decide)
  have e1 : ii i + 1 = ii (i + 1) := ii_add (b := 1)
  simp only [w0_534, w0_535, w0_536, w0_538, w0_539, w0_540, w0_541, isa_0, ln_0, cv_0, isk_8, cv_8_0, cv_8_1, cv_8_2, cv_8_3, cv_8_4, cv_8_5, cv_8_6, cv_8_7, cv_8_8, isk_99, cv_99_0, cv_99_1, cv_99_2, cv_99_3, cv_99_4, cv_99_5, cv_99_6, cv_99_7, cv_99_8, cv_99_9, cv_99_10, cv_99_11, cv_99_12, cv_99_13, cv_99_14, cv_99_15, cv_99_16, cv_99_17, cv_99_18, cv_99_19, cv_99_20, cv_99_21, cv_99_22, cv_99_23, cv_99_24, cv_99_25, cv_99_26, cv_99_27, cv_99_28, cv_99_29, cv_99_30, cv_99_31, cv_99_32, cv_99_33, cv_99_34, cv_99_35, cv_99_36, cv_99_37, cv_99_38, cv_99_39, cv_99_40, cv_99_41, cv_99_42, cv_99_43, cv_99_44, cv_99_45, cv_99_46, e1, hb, hc, true_and]
  by_cases h : 0 ≤ xs (i + 1) ∧ xs (i + 1) < 3
  · obtain ⟨p, hp, ep⟩ := below (b := 3) rfl (by decide) h
    simp only [ep, c33 hp, c114 hp, ↓reduceIte, true_and, and_true, vok_int, vok_b0, vok_b1, vok_bb, r_backI, r_backV, bb_eq0, Nat.reduceAdd, Nat.reduceMul, Nat.reduceEqDiff, not_true_eq_false, not_false_eq_true, if_true, if_false, false_and, and_false, c17, c98, w0_544, w0_545, w0_546, w0_548, w0_549, w0_550, w0_551, w0_554, w0_557, w0_558, isa_0, ln_0, cv_0, isk_8, cv_8_0, cv_8_1, cv_8_2, cv_8_3, cv_8_4, cv_8_5, cv_8_6, cv_8_7, cv_8_8, isk_99, cv_99_0, cv_99_1, cv_99_2, cv_99_3, cv_99_4, cv_99_5, cv_99_6, cv_99_7, cv_99_8, cv_99_9, cv_99_10, cv_99_11, cv_99_12, cv_99_13, cv_99_14, cv_99_15, cv_99_16, cv_99_17, cv_99_18, cv_99_19, cv_99_20, cv_99_21, cv_99_22, cv_99_23, cv_99_24, cv_99_25, cv_99_26, cv_99_27, cv_99_28, cv_99_29, cv_99_30, cv_99_31, cv_99_32, cv_99_33, cv_99_34, cv_99_35, cv_99_36, cv_99_37, cv_99_38, cv_99_39, cv_99_40, cv_99_41, cv_99_42, cv_99_43, cv_99_44, cv_99_45, cv_99_46, e1, hb, hc]
    refine hK _ _ _ _ _ _ _ ?_ (by omega) (by omega)
    simp (disch := omega) only [it_Inv, zm_f, win_zm, it_up_f, win_out, it_up_s, win_zv, zv_f, Nat.reduceEqDiff, if_false]
    refine ⟨i1, i2, i3, i4, i5, i6, cnt, kn, fun a b c => if a = p then 0 else vw a b c, tm, sp, ?_, hG, ⟨?_, ?_, ?_⟩, i10, ?_⟩
    · obtain ⟨n1, n2, n3, n4, n5⟩ := hN
      refine ⟨n1, n2, n3, fun a b c ha hb hc => ?_, n5⟩
      have := n4 a b c ha hb hc
      by_cases e : a = p
      · simp [e]
      · simpa [e] using this
    · intro a b ha hb
      have := s1 a b ha hb
      simp (disch := omega) only [win_at, zv_f, zm_f, it_up_f] at this ⊢
      exact this
    · intro a b c ha hb hc
      have := s2 a b c ha hb hc
      simp (disch := omega) only [win_at] at this ⊢
      by_cases e : a = p
      · subst e
        rw [if_pos rfl]
        exact ⟨by unfold zv; rw [if_pos (by omega)]; rfl, by unfold zm; rw [if_pos (by omega)]; rfl⟩
      · rw [if_neg e]
        exact ⟨by rw [zv_f (by omega)]; exact this.1, by unfold zm; rw [if_neg (by omega), it_up_f _ _ _ (by omega), zv_f (by omega)]; exact this.2⟩
    · intro a ha
      have := s3 a ha
      simp (disch := omega) only [win_at, zv_f, zm_f, it_up_f] at this ⊢
      exact this
    · exact fol_views i11 (fun a ha => by simp (disch := omega) only [win_at, zv_f])
  · simp only [c33n h, c114n h, ↓reduceIte, true_and, and_true, vok_int, vok_b0, vok_b1, vok_bb, r_backI, r_backV, bb_eq0, Nat.reduceAdd, Nat.reduceMul, Nat.reduceEqDiff, not_true_eq_false, not_false_eq_true, if_true, if_false, false_and, and_false, c17, c98, w0_544, w0_545, w0_546, w0_548, w0_549, w0_550, w0_551, w0_554, w0_557, w0_558, isa_0, ln_0, cv_0, isk_8, cv_8_0, cv_8_1, cv_8_2, cv_8_3, cv_8_4, cv_8_5, cv_8_6, cv_8_7, cv_8_8, isk_99, cv_99_0, cv_99_1, cv_99_2, cv_99_3, cv_99_4, cv_99_5, cv_99_6, cv_99_7, cv_99_8, cv_99_9, cv_99_10, cv_99_11, cv_99_12, cv_99_13, cv_99_14, cv_99_15, cv_99_16, cv_99_17, cv_99_18, cv_99_19, cv_99_20, cv_99_21, cv_99_22, cv_99_23, cv_99_24, cv_99_25, cv_99_26, cv_99_27, cv_99_28, cv_99_29, cv_99_30, cv_99_31, cv_99_32, cv_99_33, cv_99_34, cv_99_35, cv_99_36, cv_99_37, cv_99_38, cv_99_39, cv_99_40, cv_99_41, cv_99_42, cv_99_43, cv_99_44, cv_99_45, cv_99_46, e1, hb, hc]
    exact hK _ _ _ _ _ _ _ (inv_code hI0) (by omega) (by omega)
end
