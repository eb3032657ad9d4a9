/-! The law's calls, one after the other: write, ask. -/
theorem inv_code {mi : Nat → Nat → Int32} {rw : Nat → Nat} {x : Int32} (h : it_Inv mi rw) : it_Inv (it_up mi 99 0 x) rw := by
  simp (disch := omega) only [it_Inv, it_up_f, win_out, it_up_s, Nat.reduceEqDiff, if_false] at h ⊢
  exact h
theorem getD_app1 {t : List Nat} {n : Nat} : ∀ (f : Nat → Int32), (∀ j, j < t.length → f j = ii (t.getD j 0)) → ∀ j, j < (t ++ [n]).length → (fun b => if b = t.length then ii n else f b) j = ii ((t ++ [n]).getD j 0) := by
  intro f h j hj
  rw [List.length_append] at hj
  simp only [List.length_cons, List.length_nil] at hj
  by_cases e : j = t.length
  · subst e
    simp
  · simp only [e, if_false]
    rw [h j (by omega), List.getD_eq_getElem?_getD, List.getD_eq_getElem?_getD, List.getElem?_append_left (by omega)]
theorem it_up_row (mi : Nat → Nat → Int32) (k j : Nat) (x : Int32) : it_up mi k j x k = fun b => if b = j then x else mi k b := by
  funext b
  exact it_up_s mi k j x b
theorem tx_blank {lim : Nat} {l : Int32} {le dr : Nat → Int32} {t : List Nat} (hlim : lim ≤ 120) (h1 : t.length ≤ lim) (hn : ¬ t.length = lim) (h4 : ∀ c, c ∈ t → 32 ≤ c ∧ c ≤ 126) (h5 : ∀ j, j < t.length → dr j = ii (t.getD j 0)) (h6 : l = ii (t.filter (· ≠ 32)).length) (h7 : ∀ j, j < (t.filter (· ≠ 32)).length → le j = ii ((t.filter (· ≠ 32)).getD j 0)) :
    it_tx lim (ii (t.length + 1)) l le (ii (t.length + 1)) (fun b => if b = t.length then ii 32 else dr b) := by
  have e : (t ++ [32]).filter (· ≠ 32) = t.filter (· ≠ 32) := by rw [List.filter_append]; simp
  refine ⟨t ++ [32], by simp; omega, by simp, by simp, ?_, getD_app1 dr h5, by rw [e]; exact h6, by rw [e]; exact h7⟩
  intro c hc
  rcases List.mem_append.mp hc with hc | hc
  · exact h4 c hc
  · simp only [List.mem_singleton] at hc; omega
theorem tx_char {lim n : Nat} {le dr : Nat → Int32} {t : List Nat} (hlim : lim ≤ 120) (h1 : t.length ≤ lim) (hn : ¬ t.length = lim) (hc0 : 32 ≤ n ∧ n ≤ 126) (hc1 : n ≠ 32) (h4 : ∀ c, c ∈ t → 32 ≤ c ∧ c ≤ 126) (h5 : ∀ j, j < t.length → dr j = ii (t.getD j 0)) (h7 : ∀ j, j < (t.filter (· ≠ 32)).length → le j = ii ((t.filter (· ≠ 32)).getD j 0)) :
    it_tx lim (ii (t.length + 1)) (ii ((t.filter (· ≠ 32)).length + 1)) (fun b => if b = (t.filter (· ≠ 32)).length then ii n else le b) (ii (t.length + 1)) (fun b => if b = t.length then ii n else dr b) := by
  have e : (t ++ [n]).filter (· ≠ 32) = t.filter (· ≠ 32) ++ [n] := by rw [List.filter_append]; simp [hc1]
  refine ⟨t ++ [n], by simp; omega, by simp, by simp, ?_, getD_app1 dr h5, by rw [e]; simp, by rw [e]; exact getD_app1 le h7⟩
  intro c hc
  rcases List.mem_append.mp hc with hc | hc
  · exact h4 c hc
  · simp only [List.mem_singleton] at hc; omega
section
variable {Q : im_O → im_M → Prop} {L : Nat} {xs : Nat → Int32} {mi : Nat → Nat → Int32} {rw : Nat → Nat} {o : Nat → Int64} {g z i : Nat} {l5 l6 : Value}
theorem op0 (hL : L ≤ 3072) (hi : i + 6 ≤ L) (hI : it_Inv mi rw) (hK : it_K L xs i g z Q) : iw 30 0 132 [.ref 0, .ref 8, .ref 99, .ref 134, .int (ii i), l5, l6] [] (it_mem L xs mi rw o g z) Q := by
  have hI0 := hI
  obtain ⟨⟨t, h1, h2, h3, h4, h5, h6, h7⟩, hI⟩ := hI
  obtain ⟨n, hn, en⟩ := i2c_ii (xs (i + 1))
  have hb : it_inb L 0 (ii (i + 1)) := ii_inb (by omega) (by rw [ln_0]; omega)
  have hc : (ii (i + 1)).toNatClampNeg = i + 1 := ii_clamp (by omega)
  have hlw : (t.filter (· ≠ 32)).length ≤ t.length := List.length_filter_le _ _
  simp only [w0_132, w0_133, w0_134, w0_136, w0_137, w0_138, w0_139, w0_140, w0_143, w0_144, w0_145, w0_147, w0_148, w0_149, w0_150, w0_151, isa_0, ln_0, cv_0, isk_8, cv_8_0, cv_8_1, cv_8_2, cv_8_3, cv_8_4, cv_8_5, cv_8_6, cv_8_7, cv_8_8, isk_99, cv_99_0, cv_99_1, cv_99_2, cv_99_3, cv_99_4, cv_99_5, cv_99_6, cv_99_7, cv_99_8, cv_99_9, cv_99_10, cv_99_11, cv_99_12, cv_99_13, cv_99_14, cv_99_15, cv_99_16, cv_99_17, cv_99_18, cv_99_19, cv_99_20, cv_99_21, cv_99_22, cv_99_23, cv_99_24, cv_99_25, cv_99_26, cv_99_27, cv_99_28, cv_99_29, cv_99_30, cv_99_31, cv_99_32, cv_99_33, cv_99_34, cv_99_35, cv_99_36, cv_99_37, cv_99_38, cv_99_39, cv_99_40, cv_99_41, cv_99_42, cv_99_43, cv_99_44, cv_99_45, cv_99_46, lit_1, ii_add, hb, hc, en, true_and, c13 (L := L) (xs := xs) hn h2 h6 hlw h1, r_backI, Nat.reduceAdd]
  by_cases hbad : n < 32 ∨ 126 < n ∨ t.length = 120
  · rw [if_pos hbad, c83 (w := t.length) hn h3 h1, if_pos hbad]
    simp only [r_backI, w0_154, w0_157, w0_158, if_true, Nat.reduceAdd]
    exact hK _ _ _ _ _ _ _ (inv_code hI0) (by omega) (by omega)
  · rw [if_neg hbad]
    have hbl : ¬ t.length = 120 := fun q => hbad (Or.inr (Or.inr q))
    by_cases hs : n = 32
    · rw [if_pos hs, c83 (w := t.length) hn (by simpa only [it_up_f mi 3 _ (show (99 : Nat) ≠ 9 by decide)] using h3) h1, if_neg hbad]
      simp only [r_backI, w0_154, w0_157, w0_158, if_true, Nat.reduceAdd, lit_1]
      refine hK _ _ _ _ _ _ _ ?_ (by omega) (by omega)
      subst hs
      simp (disch := omega) only [it_Inv, it_up_f, win_out, it_up_s, Nat.reduceEqDiff, if_false, it_up_row, if_true]
      exact ⟨tx_blank (by decide) h1 hbl h4 h5 h6 h7, hI⟩
    · rw [if_neg hs, c83 (w := t.length) hn (by simp (disch := omega) only [it_up_f]; exact h3) h1, if_neg hbad]
      simp only [r_backI, w0_154, w0_157, w0_158, if_true, Nat.reduceAdd, lit_1]
      refine hK _ _ _ _ _ _ _ ?_ (by omega) (by omega)
      simp (disch := omega) only [it_Inv, it_up_f, win_out, it_up_s, Nat.reduceEqDiff, if_false, it_up_row, if_true]
      exact ⟨tx_char (by decide) h1 hbl (by omega) hs h4 h5 h7, hI⟩
theorem op10 (hL : L ≤ 3072) (hi : i + 6 ≤ L) (hI : it_Inv mi rw) (hK : it_K L xs i g z Q) : iw 30 0 559 [.ref 0, .ref 8, .ref 99, .ref 134, .int (ii i), l5, l6] [] (it_mem L xs mi rw o g z) Q := by
  have hI0 := hI
  obtain ⟨hT, ⟨t, h1, h2, h3, h4, h5, h6, h7⟩, hI⟩ := hI
  obtain ⟨n, hn, en⟩ := i2c_ii (xs (i + 1))
  have hb : it_inb L 0 (ii (i + 1)) := ii_inb (by omega) (by rw [ln_0]; omega)
  have hc : (ii (i + 1)).toNatClampNeg = i + 1 := ii_clamp (by omega)
  have hlw : (t.filter (· ≠ 32)).length ≤ t.length := List.length_filter_le _ _
  simp only [w0_559, w0_560, w0_561, w0_563, w0_564, w0_565, w0_566, w0_567, w0_570, w0_571, w0_572, w0_574, w0_575, w0_576, w0_577, w0_578, isa_0, ln_0, cv_0, isk_8, cv_8_0, cv_8_1, cv_8_2, cv_8_3, cv_8_4, cv_8_5, cv_8_6, cv_8_7, cv_8_8, isk_99, cv_99_0, cv_99_1, cv_99_2, cv_99_3, cv_99_4, cv_99_5, cv_99_6, cv_99_7, cv_99_8, cv_99_9, cv_99_10, cv_99_11, cv_99_12, cv_99_13, cv_99_14, cv_99_15, cv_99_16, cv_99_17, cv_99_18, cv_99_19, cv_99_20, cv_99_21, cv_99_22, cv_99_23, cv_99_24, cv_99_25, cv_99_26, cv_99_27, cv_99_28, cv_99_29, cv_99_30, cv_99_31, cv_99_32, cv_99_33, cv_99_34, cv_99_35, cv_99_36, cv_99_37, cv_99_38, cv_99_39, cv_99_40, cv_99_41, cv_99_42, cv_99_43, cv_99_44, cv_99_45, cv_99_46, lit_1, ii_add, hb, hc, en, true_and, c35 (L := L) (xs := xs) hn h2 h6 hlw h1, r_backI, Nat.reduceAdd]
  by_cases hbad : n < 32 ∨ 126 < n ∨ t.length = 40
  · rw [if_pos hbad, c85 (w := t.length) hn h3 h1, if_pos hbad]
    simp only [r_backI, w0_581, w0_584, w0_585, if_true, Nat.reduceAdd]
    exact hK _ _ _ _ _ _ _ (inv_code hI0) (by omega) (by omega)
  · rw [if_neg hbad]
    have hbl : ¬ t.length = 40 := fun q => hbad (Or.inr (Or.inr q))
    by_cases hs : n = 32
    · rw [if_pos hs, c85 (w := t.length) hn (by simpa only [it_up_f mi 3 _ (show (99 : Nat) ≠ 11 by decide)] using h3) h1, if_neg hbad]
      simp only [r_backI, w0_581, w0_584, w0_585, if_true, Nat.reduceAdd, lit_1]
      refine hK _ _ _ _ _ _ _ ?_ (by omega) (by omega)
      subst hs
      simp (disch := omega) only [it_Inv, it_up_f, win_out, it_up_s, Nat.reduceEqDiff, if_false, it_up_row, if_true]
      exact ⟨hT, tx_blank (by decide) h1 hbl h4 h5 h6 h7, hI⟩
    · rw [if_neg hs, c85 (w := t.length) hn (by simp (disch := omega) only [it_up_f]; exact h3) h1, if_neg hbad]
      simp only [r_backI, w0_581, w0_584, w0_585, if_true, Nat.reduceAdd, lit_1]
      refine hK _ _ _ _ _ _ _ ?_ (by omega) (by omega)
      simp (disch := omega) only [it_Inv, it_up_f, win_out, it_up_s, Nat.reduceEqDiff, if_false, it_up_row, if_true]
      exact ⟨hT, tx_char (by decide) h1 hbl (by omega) hs h4 h5 h7, hI⟩
end
