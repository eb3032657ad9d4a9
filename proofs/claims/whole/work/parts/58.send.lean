/-! send. -/
def fil (mi : Nat → Nat → Int32) (a p t : Nat) (K V : Nat → Nat) : Nat → Nat → Int32 := it_up (it_up (it_up (it_up (it_up (it_up (it_up (it_up mi a 2 (ii p)) a 3 (ii t)) (a + 1) 0 (ii (V 0))) (a + 2) 0 (ii (K 0))) (a + 1) 1 (ii (V 1))) (a + 2) 1 (ii (K 1))) (a + 1) 2 (ii (V 2))) (a + 2) 2 (ii (K 2))
def fim (mi : Nat → Nat → Int32) (m p t : Nat) (K V : Nat → Nat) : Nat → Nat → Int32 := it_up (it_up (it_up (it_up (it_up (it_up (it_up (it_up mi 122 m (ii p)) 123 m (ii t)) 124 (3 * m) (ii (V 0))) 125 (3 * m) (ii (K 0))) 124 (3 * m + 1) (ii (V 1))) 125 (3 * m + 1) (ii (K 1))) 124 (3 * m + 2) (ii (V 2))) 125 (3 * m + 2) (ii (K 2))
section
variable {d : Nat} {Q : im_O → im_M → Prop} {L : Nat} {xs : Nat → Int32} {mi : Nat → Nat → Int32} {rw : Nat → Nat} {o : Nat → Int64} {g z : Nat}
theorem c74L {a S V q k v N : Nat} {x y : Int32} (ha : it_isk 8 a = true) (ha2 : 79 ≤ a) (hS : it_isk 7 S = true) (hS2 : S ≤ 63) (hV : it_isa .int V = true) (hV0 : V ≠ 0) (hVl : it_ln L V = 3) (hV2 : V ≤ 68) (hq : q < 3) (hk : mi (S + 1) q = ii k) (hv : mi V q = ii v) (hvk : v ≤ k) (hkk : k ≤ 16) (hN : N < 1000) :
    iw d 74 24 [.ref a, .int x, .int y, .ref S, .ref V, .int (ii N), .int (ii q)] [] (it_mem L xs mi rw o g z) Q ↔ iw d 74 24 [.ref a, .int x, .int y, .ref S, .ref V, .int (ii (N + (k - v))), .int (ii (q + 1))] [] (it_mem L xs (it_up (it_up mi (a + 1) q (ii v)) (a + 2) q (ii k)) rw o g z) Q := by
  have hcv : ∀ mi j, it_cv xs mi rw o V j = .int (mi V j) := fun mi j => it_cva hV0 hV (Or.inl rfl)
  have e : (ii q).toNatClampNeg = q := ii_clamp (by omega)
  have e3 : ¬ (3 : Int32) ≤ ii q := by rw [lit_3, ii_le (by decide) (by omega)]; omega
  have e1 : ii q + 1 = ii (q + 1) := ii_add (b := 1)
  have e2 : ii N + (ii k - ii v) = ii (N + (k - v)) := by rw [ii_sub hvk, ii_add]
  have n1 : it_up mi (a + 1) q (ii v) (S + 1) = mi (S + 1) := it_up_f _ _ _ (by omega)
  have n2 : it_up (it_up mi (a + 1) q (ii v)) (a + 2) q (ii k) (a + 1) = it_up mi (a + 1) q (ii v) (a + 1) := it_up_f _ _ _ (by omega)
  have b : ∀ {A : Nat}, it_ln L A = 3 → it_inb L A (ii q) := fun h => inb3 hq h
  have ha8 : 8 ≤ a + 1 := by omega
  have ha9 : 8 ≤ a + 2 := by omega
  rw [w74_24]
  simp only [w74_26, w74_27, w74_30, w74_31, w74_34, w74_36, w74_38, w74_40, w74_41, w74_42, w74_43, w74_46, w74_48, w74_49, w74_52, w74_54, w74_55, w74_56, w74_58, w74_59, w74_62, w74_64, w74_65, w74_66, w74_69, w74_71, w74_72, w74_73, w74_74, w74_76, w74_79, ↓reduceIte, true_and, and_true, vok_int, vok_b0, vok_b1, vok_bb, r_backI, r_backV, bb_eq0, Nat.reduceAdd, Nat.reduceMul, Nat.reduceEqDiff, not_true_eq_false, not_false_eq_true, if_true, if_false, false_and, and_false, c17, c98, e3, e, e1, e2, ha, hS, hV, hcv, cvg_8_0 ha, cvg_8_1 ha, cvg_7_0 hS, isag_8_0 ha, isag_8_1 ha, isag_7_0 hS, cvag_8_0 ha, cvag_8_1 ha, cvag_7_0 hS, b (lng_8_0 ha), b (lng_8_1 ha), b (lng_7_0 hS), b hVl, hk, hv, n1, n2, it_up_same, ha8, ha9]
theorem c74 {a S V p t : Nat} {K W : Nat → Nat} {v4 v5 v6 : Value} (ha : it_isk 8 a = true) (ha2 : 79 ≤ a) (hS : it_isk 7 S = true) (hS2 : S ≤ 63) (ht : t < 3) (hV : V = S + 3 + t) (hk : ∀ q, q < 3 → mi (S + 1) q = ii (K q) ∧ mi V q = ii (W q) ∧ W q ≤ K q ∧ K q ≤ 16) :
    iw d 74 0 [.ref a, .int (ii p), .int (ii t), .ref S, v4, v5, v6] [] (it_mem L xs mi rw o g z) Q ↔ Q (.inl (some (.int (ii (K 0 - W 0 + (K 1 - W 1) + (K 2 - W 2)))))) (it_mem L xs (fil mi a p t K W) rw o g z) := by
  subst hV
  have e : (ii t).toNatClampNeg = t := ii_clamp (by omega)
  have hisa : it_isa .int (S + 3 + t) = true := by
    rcases (show t = 0 ∨ t = 1 ∨ t = 2 by omega) with rfl | rfl | rfl
    · exact isag_7_1_0 hS
    · exact isag_7_1_1 hS
    · exact isag_7_1_2 hS
  have hln : it_ln L (S + 3 + t) = 3 := by
    rcases (show t = 0 ∨ t = 1 ∨ t = 2 by omega) with rfl | rfl | rfl
    · exact lng_7_1_0 hS
    · exact lng_7_1_1 hS
    · exact lng_7_1_2 hS
  have hcv : ∀ mi, it_cv xs mi rw o (S + 2) t = .ref (S + 3 + t) := by
    intro mi
    rcases (show t = 0 ∨ t = 1 ∨ t = 2 by omega) with rfl | rfl | rfl
    · exact cvag_7_1_0 hS
    · exact cvag_7_1_1 hS
    · exact cvag_7_1_2 hS
  have e0 : (0 : Int32) = ii 0 := rfl
  simp only [w74_0, w74_1, w74_2, w74_5, w74_6, w74_7, w74_10, w74_11, w74_14, w74_15, w74_16, w74_18, w74_19, w74_21, w74_22, ↓reduceIte, true_and, and_true, vok_int, vok_b0, vok_b1, vok_bb, r_backI, r_backV, bb_eq0, Nat.reduceAdd, Nat.reduceMul, Nat.reduceEqDiff, not_true_eq_false, not_false_eq_true, if_true, if_false, false_and, and_false, c17, c98, ha, hS, cvg_7_1 hS, isag_7_1 hS, inb3 ht (lng_7_1 hS), e, hcv, e0]
  obtain ⟨k0, v0, l0, m0⟩ := hk 0 (by decide)
  obtain ⟨k1, v1, l1, m1⟩ := hk 1 (by decide)
  obtain ⟨k2, v2, l2, m2⟩ := hk 2 (by decide)
  rw [c74L ha ha2 hS hS2 hisa (by omega) hln (by omega) (by decide) (by simp (disch := omega) only [it_up_f]; exact k0) (by simp (disch := omega) only [it_up_f]; exact v0) l0 m0 (by decide)]
  rw [c74L ha ha2 hS hS2 hisa (by omega) hln (by omega) (by decide) (by simp (disch := omega) only [it_up_f]; exact k1) (by simp (disch := omega) only [it_up_f]; exact v1) l1 m1 (by omega)]
  rw [c74L ha ha2 hS hS2 hisa (by omega) hln (by omega) (by decide) (by simp (disch := omega) only [it_up_f]; exact k2) (by simp (disch := omega) only [it_up_f]; exact v2) l2 m2 (by omega)]
  have e9 : (3 : Int32) ≤ ii (0 + 1 + 1 + 1) := by decide
  rw [w74_24]
  simp only [w74_26, w74_27, w74_82, w74_84, ↓reduceIte, true_and, and_true, vok_int, vok_b0, vok_b1, vok_bb, r_backI, r_backV, bb_eq0, Nat.reduceAdd, Nat.reduceMul, Nat.reduceEqDiff, not_true_eq_false, not_false_eq_true, if_true, if_false, false_and, and_false, c17, c98, e9, Nat.zero_add]
  exact Iff.rfl
theorem c73 {n : Nat} (hn : n < 6) (hs : mi 77 1 = ii n) : iw d 73 0 [.ref 77] [] (it_mem L xs mi rw o g z) Q ↔ Q (.inl (some (.ref (rw n)))) (it_mem L xs (it_up mi 77 1 (ii (n + 1))) rw o g z) := by
  have e1 : ii n + 1 = ii (n + 1) := ii_add (b := 1)
  have e2 : ii (n + 1) - 1 = ii n := ii_sub (a := n + 1) (b := 1) (by omega)
  have e : (ii n).toNatClampNeg = n := ii_clamp (by omega)
  have b1 : it_inb L 78 (ii n) := ii_inb (by omega) (by rw [ln_78]; omega)
  simp only [w73_0, w73_1, w73_2, w73_5, w73_6, w73_7, w73_10, w73_11, w73_14, w73_15, w73_18, w73_19, w73_20, w73_21, isk_77, cv_77_0, cv_77_1, isa_78, ln_78, cv_78, ↓reduceIte, true_and, and_true, vok_int, vok_b0, vok_b1, vok_bb, r_backI, r_backV, bb_eq0, Nat.reduceAdd, Nat.reduceMul, Nat.reduceEqDiff, not_true_eq_false, not_false_eq_true, if_true, if_false, false_and, and_false, c17, c98, hs, e1, e2, e, b1, it_up_same]
theorem c72A {a b : Int32} (h : ¬ ((0 ≤ a ∧ a < 3) ∧ (0 ≤ b ∧ b < 3) ∧ ¬ a = b)) : iw (d + 1) 72 0 [.ref 8, .int a, .int b, .retAddr 0] [] (it_mem L xs mi rw o g z) Q ↔ Q (.inr (1, 135 + g)) (it_mem L xs mi rw o (g + 1) (z + 6)) := by
  by_cases h1 : 0 ≤ a ∧ a < 3
  · by_cases h2 : 0 ≤ b ∧ b < 3
    · have h3 : a = b := Classical.byContradiction fun q => h ⟨h1, h2, q⟩
      subst h3
      simp only [w72_0, w72_1, w72_2, w72_5, w72_8, w72_9, w72_10, w72_13, w72_16, w72_17, w72_18, w72_21, ↓reduceIte, true_and, and_true, vok_int, vok_b0, vok_b1, vok_bb, r_backI, r_backV, bb_eq0, Nat.reduceAdd, Nat.reduceMul, Nat.reduceEqDiff, not_true_eq_false, not_false_eq_true, if_true, if_false, false_and, and_false, c17, c98, eq_true h1]
    · simp only [w72_0, w72_1, w72_2, w72_5, w72_8, w72_9, w72_10, w72_13, w72_16, w72_17, w72_18, w72_21, ↓reduceIte, true_and, and_true, vok_int, vok_b0, vok_b1, vok_bb, r_backI, r_backV, bb_eq0, Nat.reduceAdd, Nat.reduceMul, Nat.reduceEqDiff, not_true_eq_false, not_false_eq_true, if_true, if_false, false_and, and_false, c17, c98, eq_true h1, eq_false h2]
  · simp only [w72_0, w72_1, w72_2, w72_5, w72_8, w72_9, w72_10, w72_13, w72_16, w72_17, w72_18, w72_21, ↓reduceIte, true_and, and_true, vok_int, vok_b0, vok_b1, vok_bb, r_backI, r_backV, bb_eq0, Nat.reduceAdd, Nat.reduceMul, Nat.reduceEqDiff, not_true_eq_false, not_false_eq_true, if_true, if_false, false_and, and_false, c17, c98, eq_false h1]
theorem c72B {p t : Nat} (hp : p < 3) (ht : t < 3) (hne : p ≠ t) (hs : mi 77 1 = ii 6) : iw (d + 1) 72 0 [.ref 8, .int (ii p), .int (ii t), .retAddr 0] [] (it_mem L xs mi rw o g z) Q ↔ Q (.inr (0, 135 + g)) (it_mem L xs mi rw o (g + 1) (z + 6)) := by
  have h3 : ¬ ii p = ii t := fun q => hne ((ii_inj (by omega) (by omega)).mp q)
  simp only [w72_0, w72_1, w72_2, w72_5, w72_8, w72_9, w72_10, w72_13, w72_16, w72_17, w72_18, w72_21, w72_31, w72_32, w72_35, w72_38, w72_40, w72_43, isk_8, cv_8_0, cv_8_1, cv_8_2, cv_8_3, cv_8_4, cv_8_5, cv_8_6, cv_8_7, cv_8_8, isk_77, cv_77_0, cv_77_1, ↓reduceIte, true_and, and_true, vok_int, vok_b0, vok_b1, vok_bb, r_backI, r_backV, bb_eq0, Nat.reduceAdd, Nat.reduceMul, Nat.reduceEqDiff, not_true_eq_false, not_false_eq_true, if_true, if_false, false_and, and_false, c17, c98, bel (x := 3) rfl (by decide) hp, bel (x := 3) rfl (by decide) ht, h3, hs, lit_6]
theorem c72C {p t n : Nat} {K W : Nat → Nat} (hp : p < 3) (ht : t < 3) (hne : p ≠ t) (hn : n < 6) (hs : mi 77 1 = ii n) (hR : it_isk 8 (rw n) = true) (hR2 : 79 ≤ rw n) (hk : ∀ q, q < 3 → mi (36 + 14 * p) q = ii (K q) ∧ mi (38 + 14 * p + t) q = ii (W q) ∧ W q ≤ K q ∧ K q ≤ 16) :
    iw (d + 1) 72 0 [.ref 8, .int (ii p), .int (ii t), .retAddr 0] [] (it_mem L xs mi rw o g z) Q ↔ Q (.inl (some (.int (ii (K 0 - W 0 + (K 1 - W 1) + (K 2 - W 2)))))) (it_mem L xs (fil (it_up mi 77 1 (ii (n + 1))) (rw n) p t K W) rw o g z) := by
  have h3 : ¬ ii p = ii t := fun q => hne ((ii_inj (by omega) (by omega)).mp q)
  have h4 : ¬ ii n = ii 6 := fun q => by have := (ii_inj (by omega) (by omega)).mp q; omega
  have e : (ii p).toNatClampNeg = p := ii_clamp (by omega)
  have hcv : ∀ mi, it_cv xs mi rw o 34 p = .ref (35 + 14 * p) := by
    intro mi
    rcases (show p = 0 ∨ p = 1 ∨ p = 2 by omega) with rfl | rfl | rfl
    · exact cv_34_0
    · exact cv_34_1
    · exact cv_34_2
  have hisk : it_isk 7 (35 + 14 * p) = true := by
    rcases (show p = 0 ∨ p = 1 ∨ p = 2 by omega) with rfl | rfl | rfl
    · exact isk_35
    · exact isk_49
    · exact isk_63
  have hc74 := fun (Q : im_O → im_M → Prop) => c74 (d := d) (L := L) (xs := xs) (mi := it_up mi 77 1 (ii (n + 1))) (rw := rw) (o := o) (g := g) (z := z) (Q := Q) (p := p) (v4 := .retAddr 0) (v5 := .retAddr 0) (v6 := .retAddr 0) hR hR2 hisk (by omega) ht rfl (fun q hq => by
    obtain ⟨q1, q2, q3, q4⟩ := hk q hq
    refine ⟨?_, ?_, q3, q4⟩
    · rw [it_up_f _ _ _ (by omega), show 35 + 14 * p + 1 = 36 + 14 * p by omega]; exact q1
    · rw [it_up_f _ _ _ (by omega), show 35 + 14 * p + 3 + t = 38 + 14 * p + t by omega]; exact q2)
  simp only [w72_0, w72_1, w72_2, w72_5, w72_8, w72_9, w72_10, w72_13, w72_16, w72_17, w72_18, w72_21, w72_31, w72_32, w72_35, w72_38, w72_40, w72_43, w72_53, w72_54, w72_57, w72_60, w72_61, w72_62, w72_63, w72_64, w72_65, w72_68, w72_69, w72_70, w72_73, isk_8, cv_8_0, cv_8_1, cv_8_2, cv_8_3, cv_8_4, cv_8_5, cv_8_6, cv_8_7, cv_8_8, isa_34, ln_34, cv_34_0, cv_34_1, cv_34_2, isk_77, cv_77_0, cv_77_1, ↓reduceIte, true_and, and_true, vok_int, vok_b0, vok_b1, vok_bb, r_backI, r_backV, bb_eq0, Nat.reduceAdd, Nat.reduceMul, Nat.reduceEqDiff, not_true_eq_false, not_false_eq_true, if_true, if_false, false_and, and_false, c17, c98, bel (x := 3) rfl (by decide) hp, bel (x := 3) rfl (by decide) ht, h3, hs, lit_6, h4, c73 hn hs, inb3 hp ln_34, e, hcv, hR, hc74]
theorem c71A {a b : Int32} {v : Value} (h : ¬ ((0 ≤ a ∧ a < 3) ∧ (0 ≤ b ∧ b < 3) ∧ ¬ a = b)) : iw (d + 2) 71 0 [.ref 8, .int a, .int b, .ref 134, v] [] (it_mem L xs mi rw o g z) Q ↔ Q (.inl (some (.int 1))) (it_mem L xs mi rw o (g + 1) (z + 6)) := by
  simp only [w71_0, w71_1, w71_2, w71_3, w71_4, w71_5, w71_8, w71_9, w71_10, w71_13, w71_15, w71_16, w71_17, w71_19, w71_20, w71_21, w71_22, isk_8, cv_8_0, cv_8_1, cv_8_2, cv_8_3, cv_8_4, cv_8_5, cv_8_6, cv_8_7, cv_8_8, ↓reduceIte, true_and, and_true, vok_int, vok_b0, vok_b1, vok_bb, r_backI, r_backV, bb_eq0, Nat.reduceAdd, Nat.reduceMul, Nat.reduceEqDiff, not_true_eq_false, not_false_eq_true, if_true, if_false, false_and, and_false, c17, c98, c72A h, r_backT (show im_hand 71 5 1 = some 13 from by decide +kernel)]
theorem c71B {p t : Nat} {v : Value} (hp : p < 3) (ht : t < 3) (hne : p ≠ t) (hs : mi 77 1 = ii 6) : iw (d + 2) 71 0 [.ref 8, .int (ii p), .int (ii t), .ref 134, v] [] (it_mem L xs mi rw o g z) Q ↔ Q (.inl (some (.int 2))) (it_mem L xs mi rw o (g + 1) (z + 6)) := by
  simp only [w71_0, w71_1, w71_2, w71_3, w71_4, w71_5, w71_8, w71_9, w71_10, w71_13, w71_15, w71_16, w71_17, w71_19, w71_20, w71_21, w71_22, isk_8, cv_8_0, cv_8_1, cv_8_2, cv_8_3, cv_8_4, cv_8_5, cv_8_6, cv_8_7, cv_8_8, ↓reduceIte, true_and, and_true, vok_int, vok_b0, vok_b1, vok_bb, r_backI, r_backV, bb_eq0, Nat.reduceAdd, Nat.reduceMul, Nat.reduceEqDiff, not_true_eq_false, not_false_eq_true, if_true, if_false, false_and, and_false, c17, c98, c72B hp ht hne hs, r_backT (show im_hand 71 5 0 = some 17 from by decide +kernel)]
theorem c71C {p t n : Nat} {K W : Nat → Nat} {v : Value} (hp : p < 3) (ht : t < 3) (hne : p ≠ t) (hn : n < 6) (hs : mi 77 1 = ii n) (hR : it_isk 8 (rw n) = true) (hR2 : 79 ≤ rw n) (hk : ∀ q, q < 3 → mi (36 + 14 * p) q = ii (K q) ∧ mi (38 + 14 * p + t) q = ii (W q) ∧ W q ≤ K q ∧ K q ≤ 16) :
    iw (d + 2) 71 0 [.ref 8, .int (ii p), .int (ii t), .ref 134, v] [] (it_mem L xs mi rw o g z) Q ↔ Q (.inl (some (.int 0))) (it_mem L xs (fil (it_up mi 77 1 (ii (n + 1))) (rw n) p t K W) rw (va_up o 0 (ii (K 0 - W 0 + (K 1 - W 1) + (K 2 - W 2))).toInt64) g z) := by
  have b : it_inb L 134 0 := ii_inb (n := 0) (by decide) (by rw [ln_134]; decide)
  simp only [w71_0, w71_1, w71_2, w71_3, w71_4, w71_5, w71_8, w71_9, w71_10, w71_13, w71_15, w71_16, w71_17, w71_19, w71_20, w71_21, w71_22, isk_8, cv_8_0, cv_8_1, cv_8_2, cv_8_3, cv_8_4, cv_8_5, cv_8_6, cv_8_7, cv_8_8, ↓reduceIte, true_and, and_true, vok_int, vok_b0, vok_b1, vok_bb, r_backI, r_backV, bb_eq0, Nat.reduceAdd, Nat.reduceMul, Nat.reduceEqDiff, not_true_eq_false, not_false_eq_true, if_true, if_false, false_and, and_false, c17, c98, c72C hp ht hne hn hs hR hR2 hk, b, k0]
end
