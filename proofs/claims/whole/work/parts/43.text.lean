/-! write and ask: the texts. -/
theorem it_up_f (mi : Nat → Nat → Int32) {k a : Nat} (j : Nat) (x : Int32) (h : a ≠ k) : it_up mi k j x a = mi a := by
  funext b
  exact it_up_k mi j b x h
section
variable {d : Nat} {Q : im_O → im_M → Prop} {L : Nat} {xs : Nat → Int32} {mi : Nat → Nat → Int32} {rw : Nat → Nat} {o : Nat → Int64} {g z : Nat}
theorem c14_9 {n w l : Nat} (hn : n < 65536) (hw : mi 9 3 = ii w) (hl : mi 9 4 = ii l) (hlw : l ≤ w) (hwm : w ≤ 120) : iw d 14 0 [.ref 9, .int (ii n)] [] (it_mem L xs mi rw o g z) Q ↔
    if n < 32 ∨ 126 < n ∨ w = 120 then Q (.inl (some (.int 0))) (it_mem L xs mi rw o g z) else if n = 32 then Q (.inl (some (.int 1))) (it_mem L xs (it_up mi 9 3 (ii (w + 1))) rw o g z) else Q (.inl (some (.int 1))) (it_mem L xs (it_up (it_up (it_up mi 9 3 (ii (w + 1))) 10 l (ii n)) 9 4 (ii (l + 1))) rw o g z) := by
  have ha : (10 < 135 ∧ 30 ≤ it_kd 10 ∧ (it_aty (it_kd 10)).isSome = true) := by decide +kernel
  simp only [w14_0, w14_1, w14_3, w14_6, w14_7, w14_9, w14_12, w14_13, w14_16, w14_17, w14_20, w14_21, w14_24, w14_25, w14_26, w14_27, w14_28, w14_31, w14_32, w14_33, w14_36, w14_37, w14_39, w14_42, w14_43, w14_46, w14_47, w14_50, w14_51, w14_52, w14_53, w14_54, w14_57, w14_58, w14_59, w14_62, w14_63, isk_9, cv_9_0, cv_9_1, cv_9_2, cv_9_3, cv_9_4, cv_9_5, isa_10, ln_10, cv_10, vok_b0, vok_b1, vok_int, true_and, and_true, ha, it_up_app, hw, hl, lit_32, lit_126, vp_nar_ch hn, show Nat.toInt32 120 = ii 120 from rfl, Nat.reduceEqDiff, if_false, false_and]
  simp (disch := omega) only [ii_lt, ii_inj, ii_clamp, lit_1, ii_add]
  by_cases h1 : n < 32
  · simp [h1]
  by_cases h2 : 126 < n
  · simp [h1, h2]
  by_cases h3 : w = 120
  · simp [h1, h2, h3]
  by_cases h4 : n = 32
  · simp [h1, h2, h3, h4]
  have hb : it_inb L 10 (ii l) := ii_inb (by omega) (by rw [ln_10]; omega)
  simp [h1, h2, h3, h4, hb]
theorem c13 {n w l : Nat} (hn : n < 65536) (hw : mi 9 3 = ii w) (hl : mi 9 4 = ii l) (hlw : l ≤ w) (hwm : w ≤ 120) : iw (d + 1) 13 0 [.ref 8, .int (ii n)] [] (it_mem L xs mi rw o g z) Q ↔
    if n < 32 ∨ 126 < n ∨ w = 120 then Q (.inl (some (.int 0))) (it_mem L xs mi rw o g z) else if n = 32 then Q (.inl (some (.int 1))) (it_mem L xs (it_up mi 9 3 (ii (w + 1))) rw o g z) else Q (.inl (some (.int 1))) (it_mem L xs (it_up (it_up (it_up mi 9 3 (ii (w + 1))) 10 l (ii n)) 9 4 (ii (l + 1))) rw o g z) := by
  simp only [w13_0, w13_1, w13_4, w13_5, w13_8, isk_8, cv_8_0, cv_8_1, cv_8_2, cv_8_3, cv_8_4, cv_8_5, cv_8_6, cv_8_7, cv_8_8, isk_9, cv_9_0, cv_9_1, cv_9_2, cv_9_3, cv_9_4, cv_9_5, true_and, c14_9 hn hw hl hlw hwm, r_backI, vok_b0, vok_b1, Nat.reduceAdd]
theorem c83 {n w : Nat} (hn : n < 65536) (hw : mi 99 1 = ii w) (hwm : w ≤ 120) : iw (d + 1) 83 0 [.ref 99, .int (ii n)] [] (it_mem L xs mi rw o g z) Q ↔
    if n < 32 ∨ 126 < n ∨ w = 120 then Q (.inl (some (.int 0))) (it_mem L xs (it_up mi 99 0 0) rw o g z) else Q (.inl (some (.int 1))) (it_mem L xs (it_up (it_up (it_up mi 99 0 0) 100 w (ii n)) 99 1 (ii (w + 1))) rw o g z) := by
  simp only [w83_0, w83_1, w83_2, w83_5, w83_6, w83_9, w83_12, w83_13, w83_16, w83_18, w83_21, w83_22, w83_23, w83_24, w83_27, w83_28, w83_31, w83_32, w83_33, w83_34, w83_35, w83_38, w83_39, w83_40, w83_43, w83_44, isk_99, cv_99_0, cv_99_1, cv_99_2, cv_99_3, cv_99_4, cv_99_5, cv_99_6, cv_99_7, cv_99_8, cv_99_9, cv_99_10, cv_99_11, cv_99_12, cv_99_13, cv_99_14, cv_99_15, cv_99_16, cv_99_17, cv_99_18, cv_99_19, cv_99_20, cv_99_21, cv_99_22, cv_99_23, cv_99_24, cv_99_25, cv_99_26, cv_99_27, cv_99_28, cv_99_29, cv_99_30, cv_99_31, cv_99_32, cv_99_33, cv_99_34, cv_99_35, cv_99_36, cv_99_37, cv_99_38, cv_99_39, cv_99_40, cv_99_41, cv_99_42, cv_99_43, cv_99_44, cv_99_45, cv_99_46, isa_100, ln_100, cv_100, true_and, c84, r_backI, vok_b0, vok_b1, vok_int, and_true, it_up_app, hw, bb_eq0, Nat.reduceAdd, Nat.reduceEqDiff, if_false, false_and, and_false, lit_32, lit_126, lit_120, vp_nar_ch hn]
  simp (disch := omega) only [ii_lt, ii_le, ii_inj, ii_clamp, lit_1, ii_add]
  by_cases h1 : n < 32
  · simp [h1, Nat.not_le.mpr h1]
  by_cases h2 : 126 < n
  · simp [h1, h2, Nat.not_le.mpr h2]
  by_cases h3 : w = 120
  · simp [h1, h2, h3, Nat.not_lt.mp h1, Nat.not_lt.mp h2]
  have hb : it_inb L 100 (ii w) := ii_inb (by omega) (by rw [ln_100]; omega)
  simp [h1, h2, h3, Nat.not_lt.mp h1, Nat.not_lt.mp h2, hb]
theorem c14_11 {n w l : Nat} (hn : n < 65536) (hw : mi 11 3 = ii w) (hl : mi 11 4 = ii l) (hlw : l ≤ w) (hwm : w ≤ 40) : iw d 14 0 [.ref 11, .int (ii n)] [] (it_mem L xs mi rw o g z) Q ↔
    if n < 32 ∨ 126 < n ∨ w = 40 then Q (.inl (some (.int 0))) (it_mem L xs mi rw o g z) else if n = 32 then Q (.inl (some (.int 1))) (it_mem L xs (it_up mi 11 3 (ii (w + 1))) rw o g z) else Q (.inl (some (.int 1))) (it_mem L xs (it_up (it_up (it_up mi 11 3 (ii (w + 1))) 12 l (ii n)) 11 4 (ii (l + 1))) rw o g z) := by
  have ha : (12 < 135 ∧ 30 ≤ it_kd 12 ∧ (it_aty (it_kd 12)).isSome = true) := by decide +kernel
  simp only [w14_0, w14_1, w14_3, w14_6, w14_7, w14_9, w14_12, w14_13, w14_16, w14_17, w14_20, w14_21, w14_24, w14_25, w14_26, w14_27, w14_28, w14_31, w14_32, w14_33, w14_36, w14_37, w14_39, w14_42, w14_43, w14_46, w14_47, w14_50, w14_51, w14_52, w14_53, w14_54, w14_57, w14_58, w14_59, w14_62, w14_63, isk_11, cv_11_0, cv_11_1, cv_11_2, cv_11_3, cv_11_4, cv_11_5, isa_12, ln_12, cv_12, vok_b0, vok_b1, vok_int, true_and, and_true, ha, it_up_app, hw, hl, lit_32, lit_126, vp_nar_ch hn, show Nat.toInt32 40 = ii 40 from rfl, Nat.reduceEqDiff, if_false, false_and]
  simp (disch := omega) only [ii_lt, ii_inj, ii_clamp, lit_1, ii_add]
  by_cases h1 : n < 32
  · simp [h1]
  by_cases h2 : 126 < n
  · simp [h1, h2]
  by_cases h3 : w = 40
  · simp [h1, h2, h3]
  by_cases h4 : n = 32
  · simp [h1, h2, h3, h4]
  have hb : it_inb L 12 (ii l) := ii_inb (by omega) (by rw [ln_12]; omega)
  simp [h1, h2, h3, h4, hb]
theorem c35 {n w l : Nat} (hn : n < 65536) (hw : mi 11 3 = ii w) (hl : mi 11 4 = ii l) (hlw : l ≤ w) (hwm : w ≤ 40) : iw (d + 1) 35 0 [.ref 8, .int (ii n)] [] (it_mem L xs mi rw o g z) Q ↔
    if n < 32 ∨ 126 < n ∨ w = 40 then Q (.inl (some (.int 0))) (it_mem L xs mi rw o g z) else if n = 32 then Q (.inl (some (.int 1))) (it_mem L xs (it_up mi 11 3 (ii (w + 1))) rw o g z) else Q (.inl (some (.int 1))) (it_mem L xs (it_up (it_up (it_up mi 11 3 (ii (w + 1))) 12 l (ii n)) 11 4 (ii (l + 1))) rw o g z) := by
  simp only [w35_0, w35_1, w35_4, w35_5, w35_8, isk_8, cv_8_0, cv_8_1, cv_8_2, cv_8_3, cv_8_4, cv_8_5, cv_8_6, cv_8_7, cv_8_8, isk_11, cv_11_0, cv_11_1, cv_11_2, cv_11_3, cv_11_4, cv_11_5, true_and, c14_11 hn hw hl hlw hwm, r_backI, vok_b0, vok_b1, Nat.reduceAdd]
theorem c85 {n w : Nat} (hn : n < 65536) (hw : mi 99 3 = ii w) (hwm : w ≤ 40) : iw (d + 1) 85 0 [.ref 99, .int (ii n)] [] (it_mem L xs mi rw o g z) Q ↔
    if n < 32 ∨ 126 < n ∨ w = 40 then Q (.inl (some (.int 0))) (it_mem L xs (it_up mi 99 0 0) rw o g z) else Q (.inl (some (.int 1))) (it_mem L xs (it_up (it_up (it_up mi 99 0 0) 101 w (ii n)) 99 3 (ii (w + 1))) rw o g z) := by
  simp only [w85_0, w85_1, w85_2, w85_5, w85_6, w85_9, w85_12, w85_13, w85_16, w85_18, w85_21, w85_22, w85_23, w85_24, w85_27, w85_28, w85_31, w85_32, w85_33, w85_34, w85_35, w85_38, w85_39, w85_40, w85_43, w85_44, isk_99, cv_99_0, cv_99_1, cv_99_2, cv_99_3, cv_99_4, cv_99_5, cv_99_6, cv_99_7, cv_99_8, cv_99_9, cv_99_10, cv_99_11, cv_99_12, cv_99_13, cv_99_14, cv_99_15, cv_99_16, cv_99_17, cv_99_18, cv_99_19, cv_99_20, cv_99_21, cv_99_22, cv_99_23, cv_99_24, cv_99_25, cv_99_26, cv_99_27, cv_99_28, cv_99_29, cv_99_30, cv_99_31, cv_99_32, cv_99_33, cv_99_34, cv_99_35, cv_99_36, cv_99_37, cv_99_38, cv_99_39, cv_99_40, cv_99_41, cv_99_42, cv_99_43, cv_99_44, cv_99_45, cv_99_46, isa_101, ln_101, cv_101, true_and, c84, r_backI, vok_b0, vok_b1, vok_int, and_true, it_up_app, hw, bb_eq0, Nat.reduceAdd, Nat.reduceEqDiff, if_false, false_and, and_false, lit_32, lit_126, lit_40, vp_nar_ch hn]
  simp (disch := omega) only [ii_lt, ii_le, ii_inj, ii_clamp, lit_1, ii_add]
  by_cases h1 : n < 32
  · simp [h1, Nat.not_le.mpr h1]
  by_cases h2 : 126 < n
  · simp [h1, h2, Nat.not_le.mpr h2]
  by_cases h3 : w = 40
  · simp [h1, h2, h3, Nat.not_lt.mp h1, Nat.not_lt.mp h2]
  have hb : it_inb L 101 (ii w) := ii_inb (by omega) (by rw [ln_101]; omega)
  simp [h1, h2, h3, Nat.not_lt.mp h1, Nat.not_lt.mp h2, hb]
end
