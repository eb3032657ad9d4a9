/-! Texts taken: Reader.clear, the reference's takeText. -/
section
variable {d : Nat} {Q : im_O → im_M → Prop} {L : Nat} {xs : Nat → Int32} {mi : Nat → Nat → Int32} {rw : Nat → Nat} {o : Nat → Int64} {g z : Nat}
theorem c47 {Rd : Nat} (hR : Rd = 9 ∨ Rd = 11) : iw d 47 0 [.ref Rd] [] (it_mem L xs mi rw o g z) Q ↔ Q (.inl none) (it_mem L xs (it_up (it_up mi Rd 3 0) Rd 4 0) rw o g z) := by
  simp only [w47_0, w47_1, w47_2, w47_5, w47_6, w47_7, w47_10, ↓reduceIte, true_and, and_true, vok_int, vok_b0, vok_b1, vok_bb, r_backI, r_backV, bb_eq0, Nat.reduceAdd, Nat.reduceMul, Nat.reduceEqDiff, not_true_eq_false, not_false_eq_true, if_true, if_false, false_and, and_false, c17, c98, rd_k hR]
theorem c88L {B n : Nat} {t : List Nat} {m0 : Nat → Nat → Int32} (hB : B = 100 ∨ B = 101) (hn : n = t.length) (ht : t.length ≤ 120) (hl : t.length ≤ it_ln L B) (hc : ∀ c, c ∈ t → c < 128) (hd : ∀ j, j < t.length → m0 B j = ii (t.getD j 0)) (hQ : ∀ mi', (∀ a, a ≠ 99 → a ≠ 102 → mi' a = m0 a) → (∀ k, k ≠ 5 → k ≠ 7 → k ≠ 8 → mi' 99 k = m0 99 k) → mi' 99 5 = ii (t.filter (· ≠ 32)).length → mi' 99 7 = 0 → mi' 99 8 = 0 → (∀ j, j < (t.filter (· ≠ 32)).length → mi' 102 j = ii ((t.filter (· ≠ 32)).getD j 0)) → Q (.inl none) (it_mem L xs mi' rw o g z)) :
    ∀ (suf pre : List Nat) (m : Nat → Nat → Int32), t = pre ++ suf → (∀ a, a ≠ 99 → a ≠ 102 → m a = m0 a) → (∀ k, k ≠ 5 → m 99 k = m0 99 k) → m 99 5 = ii (pre.filter (· ≠ 32)).length → (∀ j, j < (pre.filter (· ≠ 32)).length → m 102 j = ii ((pre.filter (· ≠ 32)).getD j 0)) →
    iw d 88 7 [.ref 99, .ref B, .int (ii n), .int (ii pre.length)] [] (it_mem L xs m rw o g z) Q := by
  have hBa : it_isa .char B = true := by
    rcases hB with rfl | rfl
    · exact isa_100
    · exact isa_101
  intro suf
  induction suf with
  | nil =>
    intro pre m hp hf h9 h5 hx
    rw [List.append_nil] at hp
    subst hp
    have e1 : ii n ≤ ii t.length := by rw [hn]; exact (ii_le (by omega) (by omega)).mpr (Nat.le_refl _)
    rw [w88_7]
    simp only [w88_8, w88_9, w88_48, w88_49, w88_50, w88_53, w88_54, w88_55, w88_58, isk_99, cv_99_0, cv_99_1, cv_99_2, cv_99_3, cv_99_4, cv_99_5, cv_99_6, cv_99_7, cv_99_8, cv_99_9, cv_99_10, cv_99_11, cv_99_12, cv_99_13, cv_99_14, cv_99_15, cv_99_16, cv_99_17, cv_99_18, cv_99_19, cv_99_20, cv_99_21, cv_99_22, cv_99_23, cv_99_24, cv_99_25, cv_99_26, cv_99_27, cv_99_28, cv_99_29, cv_99_30, cv_99_31, cv_99_32, cv_99_33, cv_99_34, cv_99_35, cv_99_36, cv_99_37, cv_99_38, cv_99_39, cv_99_40, cv_99_41, cv_99_42, cv_99_43, cv_99_44, cv_99_45, cv_99_46, ↓reduceIte, true_and, and_true, vok_int, vok_b0, vok_b1, vok_bb, r_backI, r_backV, bb_eq0, Nat.reduceAdd, Nat.reduceMul, Nat.reduceEqDiff, not_true_eq_false, not_false_eq_true, if_true, if_false, false_and, and_false, c17, c98, e1]
    refine hQ _ (fun a q1 q2 => ?_) (fun k q1 q2 q3 => ?_) ?_ ?_ ?_ (fun j hj => ?_)
    · rw [it_up_f _ _ _ q1, it_up_f _ _ _ q1]; exact hf a q1 q2
    · rw [it_up_s, if_neg q3, it_up_s, if_neg q2]; exact h9 k q1
    · rw [it_up_s, if_neg (by decide), it_up_s, if_neg (by decide)]; exact h5
    · rw [it_up_s, if_neg (by decide), it_up_same]
    · rw [it_up_same]
    · rw [it_up_f _ _ _ (by decide), it_up_f _ _ _ (by decide)]; exact hx j hj
  | cons c suf ih =>
    intro pre m hp hf h9 h5 hx
    have hlen : t.length = pre.length + (suf.length + 1) := by rw [hp, List.length_append, List.length_cons]
    have hc128 : c < 128 := hc c (by rw [hp]; exact List.mem_append_right _ List.mem_cons_self)
    have hcv : ∀ j, it_cv xs m rw o B j = .int (m B j) := fun j => it_cva (by omega) hBa (Or.inr (Or.inl rfl))
    have hat : m B pre.length = ii c := by
      rw [hf B (by omega) (by omega), hd pre.length (by omega), hp]
      simp
    have hfl : (pre.filter (· ≠ 32)).length ≤ pre.length := List.length_filter_le _ _
    have e1 : ¬ ii n ≤ ii pre.length := by rw [hn, ii_le (by omega) (by omega)]; omega
    have e2 : ii pre.length + 1 = ii (pre.length + 1) := ii_add (b := 1)
    have e3 : (ii pre.length).toNatClampNeg = pre.length := ii_clamp (by omega)
    have e4 : (ii (pre.filter (· ≠ 32)).length).toNatClampNeg = (pre.filter (· ≠ 32)).length := ii_clamp (by omega)
    have e5 : ii (pre.filter (· ≠ 32)).length + 1 = ii ((pre.filter (· ≠ 32)).length + 1) := ii_add (b := 1)
    have b1 : it_inb L B (ii pre.length) := ii_inb (by omega) (by omega)
    have b2 : it_inb L 102 (ii (pre.filter (· ≠ 32)).length) := ii_inb (by omega) (by rw [ln_102]; omega)
    have a1 : ii c = 32 ↔ c = 32 := by rw [lit_32, ii_inj (by omega) (by decide)]
    have hv : vp_nar .char (ii c) = ii c := vp_nar_ch (by omega)
    have hp2 : t = (pre ++ [c]) ++ suf := by rw [hp, List.append_assoc]; rfl
    have hl2 : (pre ++ [c]).length = pre.length + 1 := by simp
    rw [w88_7]
    by_cases h : c = 32
    · have hfi : (pre ++ [c]).filter (· ≠ 32) = pre.filter (· ≠ 32) := by
        rw [List.filter_append, h]
        simp
      have hgo := ih (pre ++ [c]) m hp2 hf h9 (by rw [hfi]; exact h5) (by rw [hfi]; exact hx)
      rw [hl2] at hgo
      simp only [w88_8, w88_9, w88_12, w88_13, w88_14, w88_15, w88_17, w88_20, w88_21, w88_24, w88_25, w88_28, w88_29, w88_30, w88_31, w88_32, w88_33, w88_34, w88_37, w88_38, w88_39, w88_42, w88_45, isk_99, cv_99_0, cv_99_1, cv_99_2, cv_99_3, cv_99_4, cv_99_5, cv_99_6, cv_99_7, cv_99_8, cv_99_9, cv_99_10, cv_99_11, cv_99_12, cv_99_13, cv_99_14, cv_99_15, cv_99_16, cv_99_17, cv_99_18, cv_99_19, cv_99_20, cv_99_21, cv_99_22, cv_99_23, cv_99_24, cv_99_25, cv_99_26, cv_99_27, cv_99_28, cv_99_29, cv_99_30, cv_99_31, cv_99_32, cv_99_33, cv_99_34, cv_99_35, cv_99_36, cv_99_37, cv_99_38, cv_99_39, cv_99_40, cv_99_41, cv_99_42, cv_99_43, cv_99_44, cv_99_45, cv_99_46, ↓reduceIte, true_and, and_true, vok_int, vok_b0, vok_b1, vok_bb, r_backI, r_backV, bb_eq0, Nat.reduceAdd, Nat.reduceMul, Nat.reduceEqDiff, not_true_eq_false, not_false_eq_true, if_true, if_false, false_and, and_false, c17, c98, e1, hBa, hcv, hat, b1, e3, a1, eq_true h, e2]
      exact hgo
    · have hfi : (pre ++ [c]).filter (· ≠ 32) = pre.filter (· ≠ 32) ++ [c] := by
        rw [List.filter_append]
        simp [h]
      have hgo := ih (pre ++ [c]) (it_up (it_up m 102 (pre.filter (· ≠ 32)).length (ii c)) 99 5 (ii ((pre.filter (· ≠ 32)).length + 1))) hp2 (fun a q1 q2 => by rw [it_up_f _ _ _ q1, it_up_f _ _ _ q2]; exact hf a q1 q2) (fun k hk => by rw [it_up_s, if_neg hk, it_up_f _ _ _ (by decide)]; exact h9 k hk) (by rw [it_up_same, hfi, List.length_append]; rfl) (fun j hj => by
        rw [hfi] at hj ⊢
        rw [it_up_f _ _ _ (by decide), it_up_s]
        rw [List.length_append] at hj
        simp only [List.length_cons, List.length_nil] at hj
        by_cases e : j = (pre.filter (· ≠ 32)).length
        · rw [if_pos e, e]
          simp
        · rw [if_neg e, hx j (by omega), List.getD_eq_getElem?_getD, List.getD_eq_getElem?_getD, List.getElem?_append_left (by omega)])
      have n5 : ∀ k x, it_up m 102 k x 99 5 = ii (pre.filter (· ≠ 32)).length := fun k x => by rw [it_up_f _ _ _ (by decide)]; exact h5
      rw [hl2] at hgo
      simp only [w88_8, w88_9, w88_12, w88_13, w88_14, w88_15, w88_17, w88_20, w88_21, w88_24, w88_25, w88_28, w88_29, w88_30, w88_31, w88_32, w88_33, w88_34, w88_37, w88_38, w88_39, w88_42, w88_45, isk_99, cv_99_0, cv_99_1, cv_99_2, cv_99_3, cv_99_4, cv_99_5, cv_99_6, cv_99_7, cv_99_8, cv_99_9, cv_99_10, cv_99_11, cv_99_12, cv_99_13, cv_99_14, cv_99_15, cv_99_16, cv_99_17, cv_99_18, cv_99_19, cv_99_20, cv_99_21, cv_99_22, cv_99_23, cv_99_24, cv_99_25, cv_99_26, cv_99_27, cv_99_28, cv_99_29, cv_99_30, cv_99_31, cv_99_32, cv_99_33, cv_99_34, cv_99_35, cv_99_36, cv_99_37, cv_99_38, cv_99_39, cv_99_40, cv_99_41, cv_99_42, cv_99_43, cv_99_44, cv_99_45, cv_99_46, isa_102, ln_102, cv_102, ↓reduceIte, true_and, and_true, vok_int, vok_b0, vok_b1, vok_bb, r_backI, r_backV, bb_eq0, Nat.reduceAdd, Nat.reduceMul, Nat.reduceEqDiff, not_true_eq_false, not_false_eq_true, if_true, if_false, false_and, and_false, c17, c98, e1, hBa, hcv, hat, b1, b2, e3, e4, e5, a1, h, h5, n5, hv, e2, Nat.reduceLeDiff]
      exact hgo
theorem c88 {B n : Nat} {t : List Nat} {v3 : Value} (hB : B = 100 ∨ B = 101) (hn : n = t.length) (ht : t.length ≤ 120) (hl : t.length ≤ it_ln L B) (hc : ∀ c, c ∈ t → c < 128) (hd : ∀ j, j < t.length → mi B j = ii (t.getD j 0)) (hQ : ∀ mi', (∀ a, a ≠ 99 → a ≠ 102 → mi' a = mi a) → (∀ k, k ≠ 5 → k ≠ 7 → k ≠ 8 → mi' 99 k = mi 99 k) → mi' 99 5 = ii (t.filter (· ≠ 32)).length → mi' 99 7 = 0 → mi' 99 8 = 0 → (∀ j, j < (t.filter (· ≠ 32)).length → mi' 102 j = ii ((t.filter (· ≠ 32)).getD j 0)) → Q (.inl none) (it_mem L xs mi' rw o g z)) :
    iw d 88 0 [.ref 99, .ref B, .int (ii n), v3] [] (it_mem L xs mi rw o g z) Q := by
  simp only [w88_0, w88_1, w88_2, w88_5, w88_6, isk_99, cv_99_0, cv_99_1, cv_99_2, cv_99_3, cv_99_4, cv_99_5, cv_99_6, cv_99_7, cv_99_8, cv_99_9, cv_99_10, cv_99_11, cv_99_12, cv_99_13, cv_99_14, cv_99_15, cv_99_16, cv_99_17, cv_99_18, cv_99_19, cv_99_20, cv_99_21, cv_99_22, cv_99_23, cv_99_24, cv_99_25, cv_99_26, cv_99_27, cv_99_28, cv_99_29, cv_99_30, cv_99_31, cv_99_32, cv_99_33, cv_99_34, cv_99_35, cv_99_36, cv_99_37, cv_99_38, cv_99_39, cv_99_40, cv_99_41, cv_99_42, cv_99_43, cv_99_44, cv_99_45, cv_99_46, ↓reduceIte, true_and, and_true, vok_int, vok_b0, vok_b1, vok_bb, r_backI, r_backV, bb_eq0, Nat.reduceAdd, Nat.reduceMul, Nat.reduceEqDiff, not_true_eq_false, not_false_eq_true, if_true, if_false, false_and, and_false, c17, c98]
  refine c88L (m0 := mi) (t := t) hB hn ht hl hc hd hQ t [] _ rfl (fun a q1 _ => it_up_f _ _ _ q1) (fun k hk => by rw [it_up_s, if_neg hk]) (it_up_same _ _ _ _) (fun j hj => absurd hj (Nat.not_lt_zero _))
/-- a text's characters, blanks left out -/
def chs (t : List Nat) : Nat → Nat := fun j => (t.filter (· ≠ 32)).getD j 0
theorem chs_z {t : List Nat} {j : Nat} (h : (t.filter (· ≠ 32)).length ≤ j) : chs t j = 0 := by
  unfold chs
  rw [List.getD_eq_getElem?_getD, List.getElem?_eq_none h]
  rfl
theorem chs_lt {t : List Nat} (h : ∀ c, c ∈ t → 32 ≤ c ∧ c ≤ 126) (j : Nat) : chs t j < 128 := by
  unfold chs
  rw [List.getD_eq_getElem?_getD]
  cases hg : (t.filter (· ≠ 32))[j]? with
  | none => decide
  | some c =>
    have h1 := h c (List.mem_filter.mp (List.mem_of_getElem? hg)).1
    show c < 128
    omega
end
