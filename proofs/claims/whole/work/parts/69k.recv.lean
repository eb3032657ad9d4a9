/-! What comes with a message: Site.receive and the reference's comes. -/
theorem up_id {mi : Nat → Nat → Int32} {k j : Nat} {x : Int32} (h : mi k j = x) : it_up mi k j x = mi := by
  funext a b
  rw [it_up_app]
  split
  · rename_i q
    rw [q.1, q.2, h]
  · rfl
theorem ii_max {a b : Nat} (ha : a < 2147483648) (hb : b < 2147483648) : (if ii a < ii b then ii b else ii a) = ii (max a b) := by
  by_cases h : a < b
  · rw [if_pos ((ii_lt ha hb).mpr h), Nat.max_eq_right (by omega)]
  · rw [if_neg (fun q => h ((ii_lt ha hb).mp q)), Nat.max_eq_left (by omega)]
/-- the clock behind a message's events of one origin -/
def tmx (a b st t : Nat) : Nat := if a < b then max t st else t
section
variable {d : Nat} {Q : im_O → im_M → Prop} {L : Nat} {xs : Nat → Int32} {mi : Nat → Nat → Int32} {rw : Nat → Nat} {o : Nat → Int64} {g z : Nat}
theorem c19S {S V R q a b K W t N st : Nat} {v6 : Value} (hS : it_isk 7 S = true) (hS2 : 35 ≤ S) (hS3 : S ≤ 63) (hR : it_isk 8 R = true) (hR2 : 79 ≤ R) (hV : it_isa .int V = true) (hVl : it_ln L V = 3) (hV2 : S + 3 ≤ V) (hV3 : V ≤ 68) (hq : q < 3)
    (ha : mi (R + 1) q = ii a) (hb : mi (R + 2) q = ii b) (ha16 : a ≤ 16) (hb16 : b ≤ 16) (hK : mi (S + 1) q = ii K) (hK16 : K ≤ 16) (hW : mi V q = ii W) (hW16 : W ≤ 16) (ht : mi S 3 = ii t) (ht2 : t < 1000) (hst : a < b → mi 29 (16 * q + (b - 1)) = ii st) (hst2 : st < 1000)
    (h : ∀ v6, iw (d + 1) 19 16 [.ref S, .ref R, .ref 27, .ref V, .int (ii (N + (b - K))), .int (ii (q + 1)), v6] [] (it_mem L xs (it_up (it_up (it_up mi S 3 (ii (tmx a b st t))) (S + 1) q (ii (max K b))) V q (ii (max W b))) rw o g z) Q) :
    iw (d + 1) 19 16 [.ref S, .ref R, .ref 27, .ref V, .int (ii N), .int (ii q), v6] [] (it_mem L xs mi rw o g z) Q := by
  have hcV : ∀ m j, it_cv xs m rw o V j = .int (m V j) := fun m j => it_cva (by omega) hV (Or.inl rfl)
  have e3 : ¬ (3 : Int32) ≤ ii q := by rw [lit_3, ii_le (by decide) (by omega)]; omega
  have eq : (ii q).toNatClampNeg = q := ii_clamp (by omega)
  have eq1 : ii q + 1 = ii (q + 1) := ii_add (b := 1)
  have i1 : it_inb L (R + 1) (ii q) := inb3 hq (lng_8_0 hR)
  have i2 : it_inb L (R + 2) (ii q) := inb3 hq (lng_8_1 hR)
  have i3 : it_inb L (S + 1) (ii q) := inb3 hq (lng_7_0 hS)
  have i4 : it_inb L V (ii q) := inb3 hq hVl
  have n1 : ∀ X j x, it_up X S j x (S + 1) = X (S + 1) := fun X j x => it_up_f _ _ _ (by omega)
  have n2 : ∀ X j x, it_up X S j x V = X V := fun X j x => it_up_f _ _ _ (by omega)
  have n3 : ∀ X j x, it_up X (S + 1) j x V = X V := fun X j x => it_up_f _ _ _ (by omega)
  have mW : (if ii W < ii b then ii b else ii W) = ii (max W b) := ii_max (by omega) (by omega)
  have g8 : 8 ≤ S + 1 := by omega
  have g9 : 8 ≤ V := by omega
  rw [w19_16]
  by_cases h1 : a < b
  · have c1 : ¬ ii b ≤ ii a := by rw [ii_le (by omega) (by omega)]; omega
    have hs := hst h1
    have e5 : ii q * 16 + (ii b - 1) = ii (16 * q + (b - 1)) := by
      rw [lit_16, lit_1, ii_sub (by omega), ii_mul, ii_add]
      congr 1
      omega
    have e6 : (ii (16 * q + (b - 1))).toNatClampNeg = 16 * q + (b - 1) := ii_clamp (by omega)
    have i5 : it_inb L 29 (ii (16 * q + (b - 1))) := ii_inb (by omega) (by rw [ln_29]; omega)
    have mT : (if ii t < ii st then ii st else ii t) = ii (max t st) := ii_max (by omega) (by omega)
    have hT : tmx a b st t = max t st := if_pos h1
    rw [hT] at h
    by_cases h2 : K < b
    · have c2 : ¬ ii b ≤ ii K := by rw [ii_le (by omega) (by omega)]; omega
      have e7 : ii N + (ii b - ii K) = ii (N + (b - K)) := by rw [ii_sub (by omega), ii_add]
      rw [Nat.max_eq_right (show K ≤ b by omega)] at h
      simp only [w19_18, w19_19, w19_22, w19_23, w19_26, w19_28, w19_29, w19_31, w19_33, w19_34, w19_37, w19_39, w19_40, w19_43, w19_44, w19_45, w19_48, w19_49, w19_52, w19_54, w19_56, w19_57, w19_58, w19_61, w19_62, w19_65, w19_68, w19_70, w19_71, w19_74, w19_76, w19_77, w19_80, w19_82, w19_84, w19_85, w19_88, w19_90, w19_91, w19_92, w19_93, w19_95, w19_96, w19_99, w19_101, w19_103, w19_104, w19_105, w19_107, w19_108, w19_110, w19_111, w19_113, w19_116, w19_117, w19_120, isk_27, cv_27_0, cv_27_1, cv_27_2, cv_27_3, cv_27_4, cv_27_5, cv_27_6, isa_29, ln_29, cv_29, ↓reduceIte, true_and, and_true, vok_int, vok_b0, vok_b1, vok_bb, r_backI, r_backV, bb_eq0, Nat.reduceAdd, Nat.reduceMul, Nat.reduceEqDiff, not_true_eq_false, not_false_eq_true, if_true, if_false, false_and, and_false, c17, c98, hS, hR, cvg_7_0 hS, cvg_7_3 hS, cvg_8_0 hR, cvg_8_1 hR, isag_7_0 hS, isag_8_0 hR, isag_8_1 hR, cvag_7_0 hS, cvag_8_0 hR, cvag_8_1 hR, hV, hcV, i1, i2, i3, i4, e3, eq, eq1, ha, hb, c1, c2, c20, e5, e6, i5, hs, ht, mT, n1, n2, n3, hK, hW, e7, mW, g8, g9]
      exact h _
    · have c2 : ii b ≤ ii K := by rw [ii_le (by omega) (by omega)]; omega
      rw [show b - K = 0 by omega, Nat.add_zero, Nat.max_eq_left (show b ≤ K by omega), up_id (mi := it_up mi S 3 (ii (max t st))) (k := S + 1) (by rw [n1]; exact hK)] at h
      simp only [w19_18, w19_19, w19_22, w19_23, w19_26, w19_28, w19_29, w19_31, w19_33, w19_34, w19_37, w19_39, w19_40, w19_43, w19_44, w19_45, w19_48, w19_49, w19_52, w19_54, w19_56, w19_57, w19_58, w19_61, w19_62, w19_65, w19_68, w19_70, w19_71, w19_74, w19_76, w19_77, w19_80, w19_82, w19_84, w19_85, w19_88, w19_90, w19_91, w19_92, w19_93, w19_95, w19_96, w19_99, w19_101, w19_103, w19_104, w19_105, w19_107, w19_108, w19_110, w19_111, w19_113, w19_116, w19_117, w19_120, isk_27, cv_27_0, cv_27_1, cv_27_2, cv_27_3, cv_27_4, cv_27_5, cv_27_6, isa_29, ln_29, cv_29, ↓reduceIte, true_and, and_true, vok_int, vok_b0, vok_b1, vok_bb, r_backI, r_backV, bb_eq0, Nat.reduceAdd, Nat.reduceMul, Nat.reduceEqDiff, not_true_eq_false, not_false_eq_true, if_true, if_false, false_and, and_false, c17, c98, hS, hR, cvg_7_0 hS, cvg_7_3 hS, cvg_8_0 hR, cvg_8_1 hR, isag_7_0 hS, isag_8_0 hR, isag_8_1 hR, cvag_7_0 hS, cvag_8_0 hR, cvag_8_1 hR, hV, hcV, i1, i2, i3, i4, e3, eq, eq1, ha, hb, c1, c2, c20, e5, e6, i5, hs, ht, mT, n1, n2, n3, hK, hW, mW, g8, g9]
      exact h _
  · have c1 : ii b ≤ ii a := by rw [ii_le (by omega) (by omega)]; omega
    have hT : tmx a b st t = t := if_neg h1
    rw [hT, up_id ht] at h
    by_cases h2 : K < b
    · have c2 : ¬ ii b ≤ ii K := by rw [ii_le (by omega) (by omega)]; omega
      have e7 : ii N + (ii b - ii K) = ii (N + (b - K)) := by rw [ii_sub (by omega), ii_add]
      rw [Nat.max_eq_right (show K ≤ b by omega)] at h
      simp only [w19_18, w19_19, w19_22, w19_23, w19_26, w19_28, w19_29, w19_31, w19_33, w19_34, w19_37, w19_39, w19_40, w19_43, w19_44, w19_45, w19_48, w19_49, w19_52, w19_54, w19_56, w19_57, w19_58, w19_61, w19_62, w19_65, w19_68, w19_70, w19_71, w19_74, w19_76, w19_77, w19_80, w19_82, w19_84, w19_85, w19_88, w19_90, w19_91, w19_92, w19_93, w19_95, w19_96, w19_99, w19_101, w19_103, w19_104, w19_105, w19_107, w19_108, w19_110, w19_111, w19_113, w19_116, w19_117, w19_120, isk_27, cv_27_0, cv_27_1, cv_27_2, cv_27_3, cv_27_4, cv_27_5, cv_27_6, isa_29, ln_29, cv_29, ↓reduceIte, true_and, and_true, vok_int, vok_b0, vok_b1, vok_bb, r_backI, r_backV, bb_eq0, Nat.reduceAdd, Nat.reduceMul, Nat.reduceEqDiff, not_true_eq_false, not_false_eq_true, if_true, if_false, false_and, and_false, c17, c98, hS, hR, cvg_7_0 hS, cvg_7_3 hS, cvg_8_0 hR, cvg_8_1 hR, isag_7_0 hS, isag_8_0 hR, isag_8_1 hR, cvag_7_0 hS, cvag_8_0 hR, cvag_8_1 hR, hV, hcV, i1, i2, i3, i4, e3, eq, eq1, ha, hb, c1, c2, n1, n2, n3, hK, hW, e7, mW, g8, g9]
      exact h _
    · have c2 : ii b ≤ ii K := by rw [ii_le (by omega) (by omega)]; omega
      rw [show b - K = 0 by omega, Nat.add_zero, Nat.max_eq_left (show b ≤ K by omega), up_id (mi := mi) (k := S + 1) hK] at h
      simp only [w19_18, w19_19, w19_22, w19_23, w19_26, w19_28, w19_29, w19_31, w19_33, w19_34, w19_37, w19_39, w19_40, w19_43, w19_44, w19_45, w19_48, w19_49, w19_52, w19_54, w19_56, w19_57, w19_58, w19_61, w19_62, w19_65, w19_68, w19_70, w19_71, w19_74, w19_76, w19_77, w19_80, w19_82, w19_84, w19_85, w19_88, w19_90, w19_91, w19_92, w19_93, w19_95, w19_96, w19_99, w19_101, w19_103, w19_104, w19_105, w19_107, w19_108, w19_110, w19_111, w19_113, w19_116, w19_117, w19_120, isk_27, cv_27_0, cv_27_1, cv_27_2, cv_27_3, cv_27_4, cv_27_5, cv_27_6, isa_29, ln_29, cv_29, ↓reduceIte, true_and, and_true, vok_int, vok_b0, vok_b1, vok_bb, r_backI, r_backV, bb_eq0, Nat.reduceAdd, Nat.reduceMul, Nat.reduceEqDiff, not_true_eq_false, not_false_eq_true, if_true, if_false, false_and, and_false, c17, c98, hS, hR, cvg_7_0 hS, cvg_7_3 hS, cvg_8_0 hR, cvg_8_1 hR, isag_7_0 hS, isag_8_0 hR, isag_8_1 hR, cvag_7_0 hS, cvag_8_0 hR, cvag_8_1 hR, hV, hcV, i1, i2, i3, i4, e3, eq, eq1, ha, hb, c1, c2, n1, n2, n3, hK, hW, mW, g8, g9]
      exact h _
theorem c19 {S R f t : Nat} {A B K W st : Nat → Nat} {v3 v4 v5 v6 : Value} (hS : it_isk 7 S = true) (hS2 : 35 ≤ S) (hS3 : S ≤ 63) (hR : it_isk 8 R = true) (hR2 : 79 ≤ R) (hf : f < 3) (hfm : mi R 2 = ii f)
    (hm : ∀ q, q < 3 → mi (R + 1) q = ii (A q) ∧ mi (R + 2) q = ii (B q) ∧ A q ≤ 16 ∧ B q ≤ 16) (hk : ∀ q, q < 3 → mi (S + 1) q = ii (K q) ∧ K q ≤ 16 ∧ mi (S + 3 + f) q = ii (W q) ∧ W q ≤ 16) (ht : mi S 3 = ii t) (ht2 : t < 1000) (hst : ∀ q, q < 3 → A q < B q → mi 29 (16 * q + (B q - 1)) = ii (st q)) (hst2 : ∀ q, q < 3 → st q < 1000)
    (hQ : ∀ mi', (∀ x, x ≠ S → x ≠ S + 1 → x ≠ S + 3 + f → mi' x = mi x) → (∀ q, q < 3 → mi' (S + 1) q = ii (max (K q) (B q)) ∧ mi' (S + 3 + f) q = ii (max (W q) (B q))) → mi' S 3 = ii (tmx (A 2) (B 2) (st 2) (tmx (A 1) (B 1) (st 1) (tmx (A 0) (B 0) (st 0) t))) → Q (.inl (some (.int (ii (B 0 - K 0 + (B 1 - K 1) + (B 2 - K 2)))))) (it_mem L xs mi' rw o g z)) :
    iw (d + 1) 19 0 [.ref S, .ref R, .ref 27, v3, v4, v5, v6] [] (it_mem L xs mi rw o g z) Q := by
  have ef : (ii f).toNatClampNeg = f := ii_clamp (by omega)
  have i0 : it_inb L (S + 2) (ii f) := inb3 hf (lng_7_1 hS)
  have hV : it_isa .int (S + 3 + f) = true := by
    rcases i_three hf with rfl | rfl | rfl
    · exact isag_7_1_0 hS
    · exact isag_7_1_1 hS
    · exact isag_7_1_2 hS
  have hVl : it_ln L (S + 3 + f) = 3 := by
    rcases i_three hf with rfl | rfl | rfl
    · exact lng_7_1_0 hS
    · exact lng_7_1_1 hS
    · exact lng_7_1_2 hS
  have hcv : it_cv xs mi rw o (S + 2) f = .ref (S + 3 + f) := by
    rcases i_three hf with rfl | rfl | rfl
    · exact cvag_7_1_0 hS
    · exact cvag_7_1_1 hS
    · exact cvag_7_1_2 hS
  have e0 : (0 : Int32) = ii 0 := rfl
  simp only [w19_0, w19_1, w19_4, w19_5, w19_8, w19_9, w19_10, w19_11, w19_13, w19_14, ↓reduceIte, true_and, and_true, vok_int, vok_b0, vok_b1, vok_bb, r_backI, r_backV, bb_eq0, Nat.reduceAdd, Nat.reduceMul, Nat.reduceEqDiff, not_true_eq_false, not_false_eq_true, if_true, if_false, false_and, and_false, c17, c98, hS, hR, cvg_7_1 hS, cvg_8_2 hR, hfm, isag_7_1 hS, i0, ef, hcv]
  obtain ⟨a0, b0, a016, b016⟩ := hm 0 (by decide)
  obtain ⟨a1, b1, a116, b116⟩ := hm 1 (by decide)
  obtain ⟨a2, b2, a216, b216⟩ := hm 2 (by decide)
  obtain ⟨k0', l0, w0, x0⟩ := hk 0 (by decide)
  obtain ⟨k1', l1, w1, x1⟩ := hk 1 (by decide)
  obtain ⟨k2', l2, w2, x2⟩ := hk 2 (by decide)
  have s0 := hst 0 (by decide)
  have s1 := hst 1 (by decide)
  have s2 := hst 2 (by decide)
  have z0 := hst2 0 (by decide)
  have z1 := hst2 1 (by decide)
  have z2 := hst2 2 (by decide)
  have t1 : tmx (A 0) (B 0) (st 0) t < 1000 := by unfold tmx; split <;> omega
  have t2 : tmx (A 1) (B 1) (st 1) (tmx (A 0) (B 0) (st 0) t) < 1000 := by unfold tmx; unfold tmx at t1; split <;> omega
  refine c19S (N := 0) (q := 0) (a := A 0) (b := B 0) (K := K 0) (W := W 0) (t := t) (st := st 0) hS hS2 hS3 hR hR2 hV hVl (by omega) (by omega) (by decide) a0 b0 a016 b016 k0' l0 w0 x0 ht ht2 s0 z0 (fun v6 => ?_)
  refine c19S (q := 1) (a := A 1) (b := B 1) (K := K 1) (W := W 1) (t := tmx (A 0) (B 0) (st 0) t) (st := st 1) hS hS2 hS3 hR hR2 hV hVl (by omega) (by omega) (by decide) ?_ ?_ a116 b116 ?_ l1 ?_ x1 ?_ t1 ?_ z1 (fun v6 => ?_)
  · simp (disch := omega) only [it_up_f]; exact a1
  · simp (disch := omega) only [it_up_f]; exact b1
  · simp (disch := omega) only [it_up_f, it_up_s]; rw [if_neg (by decide)]; exact k1'
  · simp (disch := omega) only [it_up_f, it_up_s]; rw [if_neg (by decide)]; exact w1
  · simp (disch := omega) only [it_up_f, it_up_same]
  · intro hh; simp (disch := omega) only [it_up_f]; exact s1 hh
  refine c19S (q := 2) (a := A 2) (b := B 2) (K := K 2) (W := W 2) (t := tmx (A 1) (B 1) (st 1) (tmx (A 0) (B 0) (st 0) t)) (st := st 2) hS hS2 hS3 hR hR2 hV hVl (by omega) (by omega) (by decide) ?_ ?_ a216 b216 ?_ l2 ?_ x2 ?_ t2 ?_ z2 (fun v6 => ?_)
  · simp (disch := omega) only [it_up_f]; exact a2
  · simp (disch := omega) only [it_up_f]; exact b2
  · simp (disch := omega) only [it_up_f, it_up_s]; rw [if_neg (by decide), if_neg (by decide)]; exact k2'
  · simp (disch := omega) only [it_up_f, it_up_s]; rw [if_neg (by decide), if_neg (by decide)]; exact w2
  · simp (disch := omega) only [it_up_f, it_up_same]
  · intro hh; simp (disch := omega) only [it_up_f]; exact s2 hh
  have e9 : (3 : Int32) ≤ ii (2 + 1) := by decide
  rw [w19_16]
  simp only [w19_18, w19_19, w19_123, w19_125, ↓reduceIte, true_and, and_true, vok_int, vok_b0, vok_b1, vok_bb, r_backI, r_backV, bb_eq0, Nat.reduceAdd, Nat.reduceMul, Nat.reduceEqDiff, not_true_eq_false, not_false_eq_true, if_true, if_false, false_and, and_false, c17, c98, e9, Nat.zero_add]
  refine hQ _ (fun x h1 h2 h3 => ?_) (fun q hq => ?_) ?_
  · simp (disch := assumption) only [it_up_f]
  · rcases i_three hq with rfl | rfl | rfl
    · constructor
      · simp (disch := omega) only [it_up_f, it_up_j, it_up_same]
      · simp (disch := omega) only [it_up_f, it_up_j, it_up_same]
    · constructor
      · simp (disch := omega) only [it_up_f, it_up_j, it_up_same]
      · simp (disch := omega) only [it_up_f, it_up_j, it_up_same]
    · constructor
      · simp (disch := omega) only [it_up_f, it_up_j, it_up_same]
      · simp (disch := omega) only [it_up_f, it_up_j, it_up_same]
  · simp (disch := omega) only [it_up_f, it_up_same]
theorem c111L {k q t b : Nat} {sp : Nat → Nat} {v3 v6 : Value} (hq : q < 3) (ht : t < 3) (hb : b ≤ 16) (hs : ∀ e, e < b → mi 115 (16 * q + e) = ii (sp (16 * q + e)) ∧ sp (16 * q + e) < 1000) (hmo : ∀ i j, i < j → j < b → sp (16 * q + i) < sp (16 * q + j)) : ∀ (n e τ : Nat), e + n = b → τ < 1000 →
    iw d 111 92 [.ref 99, .int (ii k), .int (ii q), .int (ii t), .int (ii b), .int (ii b), v6] [] (it_mem L xs (it_up mi 121 t (ii (tmx e b (sp (16 * q + (b - 1))) τ))) rw o g z) Q →
    iw d 111 31 [.ref 99, .int (ii k), .int (ii q), .int (ii t), .int (ii b), .int (ii e), v6] [] (it_mem L xs (it_up mi 121 t (ii τ)) rw o g z) Q := by
  intro n
  induction n with
  | zero =>
    intro e τ he hτ h
    have et : e = b := by omega
    subst et
    rw [show tmx e e (sp (16 * q + (e - 1))) τ = τ from if_neg (Nat.lt_irrefl _)] at h
    have e1 : ii e ≤ ii e := (ii_le (by omega) (by omega)).mpr (Nat.le_refl _)
    rw [w111_31]
    simp only [w111_33, w111_35, ↓reduceIte, true_and, and_true, vok_int, vok_b0, vok_b1, vok_bb, r_backI, r_backV, bb_eq0, Nat.reduceAdd, Nat.reduceMul, Nat.reduceEqDiff, not_true_eq_false, not_false_eq_true, if_true, if_false, false_and, and_false, c17, c98, e1]
    exact h
  | succ n ih =>
    intro e τ he hτ h
    obtain ⟨s1, s2⟩ := hs e (by omega)
    have e1 : ¬ ii b ≤ ii e := by rw [ii_le (by omega) (by omega)]; omega
    have e2 : ii e + 1 = ii (e + 1) := ii_add (b := 1)
    have e3 : (16 : Int32) * ii q + ii e = ii (16 * q + e) := by rw [lit_16, ii_mul, ii_add]
    have e4 : (ii (16 * q + e)).toNatClampNeg = 16 * q + e := ii_clamp (by omega)
    have e5 : (ii t).toNatClampNeg = t := ii_clamp (by omega)
    have b1 : it_inb L 115 (ii (16 * q + e)) := ii_inb (by omega) (by rw [ln_115]; omega)
    have b2 : it_inb L 121 (ii t) := inb3 ht ln_121
    have n1 : ∀ X j x, it_up X 121 j x 115 = X 115 := fun X j x => it_up_f _ _ _ (by decide)
    have hup : ∀ x y, it_up (it_up mi 121 t x) 121 t y = it_up mi 121 t y := by
      intro x y
      funext a c
      simp only [it_up_app]
      split <;> rfl
    have hnext : tmx (e + 1) b (sp (16 * q + (b - 1))) (max τ (sp (16 * q + e))) = tmx e b (sp (16 * q + (b - 1))) τ := by
      unfold tmx
      by_cases hl : e + 1 < b
      · rw [if_pos hl, if_pos (by omega)]
        have := hmo e (b - 1) (by omega) (by omega)
        omega
      · rw [if_neg hl, if_pos (by omega), show b - 1 = e by omega]
    have hih := ih (e + 1) (max τ (sp (16 * q + e))) (by omega) (by omega) (by rw [hnext]; exact h)
    rw [w111_31]
    by_cases hl : τ < sp (16 * q + e)
    · have c1 : ¬ ii (sp (16 * q + e)) ≤ ii τ := by rw [ii_le (by omega) (by omega)]; omega
      rw [Nat.max_eq_right (by omega)] at hih
      simp only [w111_33, w111_35, w111_38, w111_39, w111_42, w111_43, w111_44, w111_47, w111_49, w111_50, w111_51, w111_53, w111_54, w111_55, w111_56, w111_59, w111_60, w111_61, w111_64, w111_65, w111_68, w111_70, w111_71, w111_72, w111_74, w111_75, w111_76, w111_79, w111_80, w111_83, w111_84, w111_85, w111_86, w111_89, isk_99, cv_99_0, cv_99_1, cv_99_2, cv_99_3, cv_99_4, cv_99_5, cv_99_6, cv_99_7, cv_99_8, cv_99_9, cv_99_10, cv_99_11, cv_99_12, cv_99_13, cv_99_14, cv_99_15, cv_99_16, cv_99_17, cv_99_18, cv_99_19, cv_99_20, cv_99_21, cv_99_22, cv_99_23, cv_99_24, cv_99_25, cv_99_26, cv_99_27, cv_99_28, cv_99_29, cv_99_30, cv_99_31, cv_99_32, cv_99_33, cv_99_34, cv_99_35, cv_99_36, cv_99_37, cv_99_38, cv_99_39, cv_99_40, cv_99_41, cv_99_42, cv_99_43, cv_99_44, cv_99_45, cv_99_46, isa_115, ln_115, cv_115, isa_121, ln_121, cv_121, ↓reduceIte, true_and, and_true, vok_int, vok_b0, vok_b1, vok_bb, r_backI, r_backV, bb_eq0, Nat.reduceAdd, Nat.reduceMul, Nat.reduceEqDiff, not_true_eq_false, not_false_eq_true, if_true, if_false, false_and, and_false, c17, c98, e1, e2, e3, e4, e5, b1, b2, n1, s1, it_up_same, c1, hup, Nat.reduceLeDiff]
      exact hih
    · have c1 : ii (sp (16 * q + e)) ≤ ii τ := by rw [ii_le (by omega) (by omega)]; omega
      rw [Nat.max_eq_left (by omega)] at hih
      simp only [w111_33, w111_35, w111_38, w111_39, w111_42, w111_43, w111_44, w111_47, w111_49, w111_50, w111_51, w111_53, w111_54, w111_55, w111_56, w111_59, w111_60, w111_61, w111_64, w111_65, w111_68, w111_70, w111_71, w111_72, w111_74, w111_75, w111_76, w111_79, w111_80, w111_83, w111_84, w111_85, w111_86, w111_89, isk_99, cv_99_0, cv_99_1, cv_99_2, cv_99_3, cv_99_4, cv_99_5, cv_99_6, cv_99_7, cv_99_8, cv_99_9, cv_99_10, cv_99_11, cv_99_12, cv_99_13, cv_99_14, cv_99_15, cv_99_16, cv_99_17, cv_99_18, cv_99_19, cv_99_20, cv_99_21, cv_99_22, cv_99_23, cv_99_24, cv_99_25, cv_99_26, cv_99_27, cv_99_28, cv_99_29, cv_99_30, cv_99_31, cv_99_32, cv_99_33, cv_99_34, cv_99_35, cv_99_36, cv_99_37, cv_99_38, cv_99_39, cv_99_40, cv_99_41, cv_99_42, cv_99_43, cv_99_44, cv_99_45, cv_99_46, isa_115, ln_115, cv_115, isa_121, ln_121, cv_121, ↓reduceIte, true_and, and_true, vok_int, vok_b0, vok_b1, vok_bb, r_backI, r_backV, bb_eq0, Nat.reduceAdd, Nat.reduceMul, Nat.reduceEqDiff, not_true_eq_false, not_false_eq_true, if_true, if_false, false_and, and_false, c17, c98, e1, e2, e3, e4, e5, b1, b2, n1, s1, it_up_same, c1, hup, Nat.reduceLeDiff]
      exact hih
theorem c111 {k q f t a b K W τ : Nat} {sp : Nat → Nat} {v3 v4 v5 v6 : Value} (hk : k < 6) (hq : q < 3) (hf : f < 3) (ht : t < 3) (hb : b ≤ 16) (hab : a ≤ b) (h122 : mi 122 k = ii f) (h123 : mi 123 k = ii t) (h124 : mi 124 (3 * k + q) = ii a) (h125 : mi 125 (3 * k + q) = ii b) (hK : mi 119 (3 * t + q) = ii K) (hK16 : K ≤ 16) (hW : mi 120 (9 * t + 3 * f + q) = ii W) (hW16 : W ≤ 16) (hτ : mi 121 t = ii τ) (hτ2 : τ < 1000)
    (hs : ∀ e, e < b → mi 115 (16 * q + e) = ii (sp (16 * q + e)) ∧ sp (16 * q + e) < 1000) (hmo : ∀ i j, i < j → j < b → sp (16 * q + i) < sp (16 * q + j))
    (h : Q (.inl (some (.int (ii (b - K))))) (it_mem L xs (it_up (it_up (it_up mi 121 t (ii (tmx a b (sp (16 * q + (b - 1))) τ))) 119 (3 * t + q) (ii (max K b))) 120 (9 * t + 3 * f + q) (ii (max W b))) rw o g z)) :
    iw d 111 0 [.ref 99, .int (ii k), .int (ii q), v3, v4, v5, v6] [] (it_mem L xs mi rw o g z) Q := by
  have ek : (ii k).toNatClampNeg = k := ii_clamp (by omega)
  have e1 : (3 : Int32) * ii k + ii q = ii (3 * k + q) := by rw [lit_3, ii_mul, ii_add]
  have e2 : (ii (3 * k + q)).toNatClampNeg = 3 * k + q := ii_clamp (by omega)
  have b1 : it_inb L 123 (ii k) := ii_inb (by omega) (by rw [ln_123]; omega)
  have b2 : it_inb L 125 (ii (3 * k + q)) := ii_inb (by omega) (by rw [ln_125]; omega)
  have b3 : it_inb L 124 (ii (3 * k + q)) := ii_inb (by omega) (by rw [ln_124]; omega)
  simp only [w111_0, w111_1, w111_4, w111_5, w111_6, w111_7, w111_8, w111_11, w111_12, w111_13, w111_14, w111_15, w111_16, w111_17, w111_19, w111_20, w111_23, w111_24, w111_25, w111_26, w111_27, w111_28, w111_29, isk_99, cv_99_0, cv_99_1, cv_99_2, cv_99_3, cv_99_4, cv_99_5, cv_99_6, cv_99_7, cv_99_8, cv_99_9, cv_99_10, cv_99_11, cv_99_12, cv_99_13, cv_99_14, cv_99_15, cv_99_16, cv_99_17, cv_99_18, cv_99_19, cv_99_20, cv_99_21, cv_99_22, cv_99_23, cv_99_24, cv_99_25, cv_99_26, cv_99_27, cv_99_28, cv_99_29, cv_99_30, cv_99_31, cv_99_32, cv_99_33, cv_99_34, cv_99_35, cv_99_36, cv_99_37, cv_99_38, cv_99_39, cv_99_40, cv_99_41, cv_99_42, cv_99_43, cv_99_44, cv_99_45, cv_99_46, isa_123, ln_123, cv_123, isa_124, ln_124, cv_124, isa_125, ln_125, cv_125, ↓reduceIte, true_and, and_true, vok_int, vok_b0, vok_b1, vok_bb, r_backI, r_backV, bb_eq0, Nat.reduceAdd, Nat.reduceMul, Nat.reduceEqDiff, not_true_eq_false, not_false_eq_true, if_true, if_false, false_and, and_false, c17, c98, ek, e1, e2, b1, b2, b3, h123, h124, h125]
  rw [← up_id (mi := mi) (k := 121) (j := t) hτ]
  refine c111L (k := k) (sp := sp) (v3 := .retAddr 0) hq ht hb hs hmo (b - a) a τ (by omega) hτ2 ?_
  have e5 : (3 : Int32) * ii t + ii q = ii (3 * t + q) := by rw [lit_3, ii_mul, ii_add]
  have e6 : (ii (3 * t + q)).toNatClampNeg = 3 * t + q := ii_clamp (by omega)
  have e7 : (9 : Int32) * ii t + 3 * ii f + ii q = ii (9 * t + 3 * f + q) := by rw [lit_9, lit_3, ii_mul, ii_mul, ii_add, ii_add]
  have e8 : (ii (9 * t + 3 * f + q)).toNatClampNeg = 9 * t + 3 * f + q := ii_clamp (by omega)
  have b5 : it_inb L 119 (ii (3 * t + q)) := ii_inb (by omega) (by rw [ln_119]; omega)
  have b6 : it_inb L 120 (ii (9 * t + 3 * f + q)) := ii_inb (by omega) (by rw [ln_120]; omega)
  have b7 : it_inb L 122 (ii k) := ii_inb (by omega) (by rw [ln_122]; omega)
  have n1 : ∀ X j x, it_up X 121 j x 119 = X 119 := fun X j x => it_up_f _ _ _ (by decide)
  have n2 : ∀ X j x, it_up X 121 j x 122 = X 122 := fun X j x => it_up_f _ _ _ (by decide)
  have n3 : ∀ X j x, it_up X 119 j x 122 = X 122 := fun X j x => it_up_f _ _ _ (by decide)
  have n4 : ∀ X j x, it_up X 121 j x 120 = X 120 := fun X j x => it_up_f _ _ _ (by decide)
  have n5 : ∀ X j x, it_up X 119 j x 120 = X 120 := fun X j x => it_up_f _ _ _ (by decide)
  have hKb : K + (b - K) = max K b := by omega
  by_cases h1 : K < b
  · have c1 : ¬ ii b ≤ ii K := by rw [ii_le (by omega) (by omega)]; omega
    have c3 : ii b - ii K = ii (b - K) := ii_sub (by omega)
    have c4 : ii K + ii (b - K) = ii (max K b) := by rw [ii_add, hKb]
    by_cases h2 : W < b
    · have c2 : ¬ ii b ≤ ii W := by rw [ii_le (by omega) (by omega)]; omega
      rw [Nat.max_eq_right (show W ≤ b by omega)] at h
      simp only [w111_92, w111_94, w111_95, w111_98, w111_99, w111_100, w111_101, w111_102, w111_103, w111_104, w111_107, w111_109, w111_110, w111_113, w111_114, w111_115, w111_116, w111_117, w111_118, w111_119, w111_120, w111_123, w111_124, w111_126, w111_127, w111_130, w111_131, w111_132, w111_133, w111_134, w111_135, w111_136, w111_137, w111_139, w111_140, w111_141, w111_143, w111_144, w111_145, w111_146, w111_147, w111_150, w111_151, w111_152, w111_153, w111_154, w111_155, w111_156, w111_158, w111_159, w111_162, w111_164, w111_166, w111_167, w111_170, w111_172, w111_173, w111_176, w111_178, w111_181, w111_182, w111_185, w111_187, w111_188, w111_189, w111_191, isk_99, cv_99_0, cv_99_1, cv_99_2, cv_99_3, cv_99_4, cv_99_5, cv_99_6, cv_99_7, cv_99_8, cv_99_9, cv_99_10, cv_99_11, cv_99_12, cv_99_13, cv_99_14, cv_99_15, cv_99_16, cv_99_17, cv_99_18, cv_99_19, cv_99_20, cv_99_21, cv_99_22, cv_99_23, cv_99_24, cv_99_25, cv_99_26, cv_99_27, cv_99_28, cv_99_29, cv_99_30, cv_99_31, cv_99_32, cv_99_33, cv_99_34, cv_99_35, cv_99_36, cv_99_37, cv_99_38, cv_99_39, cv_99_40, cv_99_41, cv_99_42, cv_99_43, cv_99_44, cv_99_45, cv_99_46, isa_119, ln_119, cv_119, isa_120, ln_120, cv_120, isa_122, ln_122, cv_122, ↓reduceIte, true_and, and_true, vok_int, vok_b0, vok_b1, vok_bb, r_backI, r_backV, bb_eq0, Nat.reduceAdd, Nat.reduceMul, Nat.reduceEqDiff, not_true_eq_false, not_false_eq_true, if_true, if_false, false_and, and_false, c17, c98, ek, e5, e6, e7, e8, b5, b6, b7, n1, n2, n3, n4, n5, hK, hW, h122, c1, c2, c3, c4, Nat.reduceLeDiff]
      exact h
    · have c2 : ii b ≤ ii W := by rw [ii_le (by omega) (by omega)]; omega
      rw [Nat.max_eq_left (show b ≤ W by omega)] at h
      simp only [w111_92, w111_94, w111_95, w111_98, w111_99, w111_100, w111_101, w111_102, w111_103, w111_104, w111_107, w111_109, w111_110, w111_113, w111_114, w111_115, w111_116, w111_117, w111_118, w111_119, w111_120, w111_123, w111_124, w111_126, w111_127, w111_130, w111_131, w111_132, w111_133, w111_134, w111_135, w111_136, w111_137, w111_139, w111_140, w111_141, w111_143, w111_144, w111_145, w111_146, w111_147, w111_150, w111_151, w111_152, w111_153, w111_154, w111_155, w111_156, w111_158, w111_159, w111_162, w111_164, w111_166, w111_167, w111_170, w111_172, w111_173, w111_176, w111_178, w111_181, w111_182, w111_185, w111_187, w111_188, w111_189, w111_191, isk_99, cv_99_0, cv_99_1, cv_99_2, cv_99_3, cv_99_4, cv_99_5, cv_99_6, cv_99_7, cv_99_8, cv_99_9, cv_99_10, cv_99_11, cv_99_12, cv_99_13, cv_99_14, cv_99_15, cv_99_16, cv_99_17, cv_99_18, cv_99_19, cv_99_20, cv_99_21, cv_99_22, cv_99_23, cv_99_24, cv_99_25, cv_99_26, cv_99_27, cv_99_28, cv_99_29, cv_99_30, cv_99_31, cv_99_32, cv_99_33, cv_99_34, cv_99_35, cv_99_36, cv_99_37, cv_99_38, cv_99_39, cv_99_40, cv_99_41, cv_99_42, cv_99_43, cv_99_44, cv_99_45, cv_99_46, isa_119, ln_119, cv_119, isa_120, ln_120, cv_120, isa_122, ln_122, cv_122, ↓reduceIte, true_and, and_true, vok_int, vok_b0, vok_b1, vok_bb, r_backI, r_backV, bb_eq0, Nat.reduceAdd, Nat.reduceMul, Nat.reduceEqDiff, not_true_eq_false, not_false_eq_true, if_true, if_false, false_and, and_false, c17, c98, ek, e5, e6, e7, e8, b5, b6, b7, n1, n2, n3, n4, n5, hK, hW, h122, c1, c2, c3, c4, Nat.reduceLeDiff]
      exact h
  · have c1 : ii b ≤ ii K := by rw [ii_le (by omega) (by omega)]; omega
    have c4 : ii K + 0 = ii (max K b) := by rw [lit_0, ii_add]; congr 1; omega
    have c5 : ii (b - K) = 0 := by rw [show b - K = 0 by omega]; rfl
    rw [c5] at h
    by_cases h2 : W < b
    · have c2 : ¬ ii b ≤ ii W := by rw [ii_le (by omega) (by omega)]; omega
      rw [Nat.max_eq_right (show W ≤ b by omega)] at h
      simp only [w111_92, w111_94, w111_95, w111_98, w111_99, w111_100, w111_101, w111_102, w111_103, w111_104, w111_107, w111_109, w111_110, w111_113, w111_114, w111_115, w111_116, w111_117, w111_118, w111_119, w111_120, w111_123, w111_124, w111_126, w111_127, w111_130, w111_131, w111_132, w111_133, w111_134, w111_135, w111_136, w111_137, w111_139, w111_140, w111_141, w111_143, w111_144, w111_145, w111_146, w111_147, w111_150, w111_151, w111_152, w111_153, w111_154, w111_155, w111_156, w111_158, w111_159, w111_162, w111_164, w111_166, w111_167, w111_170, w111_172, w111_173, w111_176, w111_178, w111_181, w111_182, w111_185, w111_187, w111_188, w111_189, w111_191, isk_99, cv_99_0, cv_99_1, cv_99_2, cv_99_3, cv_99_4, cv_99_5, cv_99_6, cv_99_7, cv_99_8, cv_99_9, cv_99_10, cv_99_11, cv_99_12, cv_99_13, cv_99_14, cv_99_15, cv_99_16, cv_99_17, cv_99_18, cv_99_19, cv_99_20, cv_99_21, cv_99_22, cv_99_23, cv_99_24, cv_99_25, cv_99_26, cv_99_27, cv_99_28, cv_99_29, cv_99_30, cv_99_31, cv_99_32, cv_99_33, cv_99_34, cv_99_35, cv_99_36, cv_99_37, cv_99_38, cv_99_39, cv_99_40, cv_99_41, cv_99_42, cv_99_43, cv_99_44, cv_99_45, cv_99_46, isa_119, ln_119, cv_119, isa_120, ln_120, cv_120, isa_122, ln_122, cv_122, ↓reduceIte, true_and, and_true, vok_int, vok_b0, vok_b1, vok_bb, r_backI, r_backV, bb_eq0, Nat.reduceAdd, Nat.reduceMul, Nat.reduceEqDiff, not_true_eq_false, not_false_eq_true, if_true, if_false, false_and, and_false, c17, c98, ek, e5, e6, e7, e8, b5, b6, b7, n1, n2, n3, n4, n5, hK, hW, h122, c1, c2, c4, Nat.reduceLeDiff]
      exact h
    · have c2 : ii b ≤ ii W := by rw [ii_le (by omega) (by omega)]; omega
      rw [Nat.max_eq_left (show b ≤ W by omega)] at h
      simp only [w111_92, w111_94, w111_95, w111_98, w111_99, w111_100, w111_101, w111_102, w111_103, w111_104, w111_107, w111_109, w111_110, w111_113, w111_114, w111_115, w111_116, w111_117, w111_118, w111_119, w111_120, w111_123, w111_124, w111_126, w111_127, w111_130, w111_131, w111_132, w111_133, w111_134, w111_135, w111_136, w111_137, w111_139, w111_140, w111_141, w111_143, w111_144, w111_145, w111_146, w111_147, w111_150, w111_151, w111_152, w111_153, w111_154, w111_155, w111_156, w111_158, w111_159, w111_162, w111_164, w111_166, w111_167, w111_170, w111_172, w111_173, w111_176, w111_178, w111_181, w111_182, w111_185, w111_187, w111_188, w111_189, w111_191, isk_99, cv_99_0, cv_99_1, cv_99_2, cv_99_3, cv_99_4, cv_99_5, cv_99_6, cv_99_7, cv_99_8, cv_99_9, cv_99_10, cv_99_11, cv_99_12, cv_99_13, cv_99_14, cv_99_15, cv_99_16, cv_99_17, cv_99_18, cv_99_19, cv_99_20, cv_99_21, cv_99_22, cv_99_23, cv_99_24, cv_99_25, cv_99_26, cv_99_27, cv_99_28, cv_99_29, cv_99_30, cv_99_31, cv_99_32, cv_99_33, cv_99_34, cv_99_35, cv_99_36, cv_99_37, cv_99_38, cv_99_39, cv_99_40, cv_99_41, cv_99_42, cv_99_43, cv_99_44, cv_99_45, cv_99_46, isa_119, ln_119, cv_119, isa_120, ln_120, cv_120, isa_122, ln_122, cv_122, ↓reduceIte, true_and, and_true, vok_int, vok_b0, vok_b1, vok_bb, r_backI, r_backV, bb_eq0, Nat.reduceAdd, Nat.reduceMul, Nat.reduceEqDiff, not_true_eq_false, not_false_eq_true, if_true, if_false, false_and, and_false, c17, c98, ek, e5, e6, e7, e8, b5, b6, b7, n1, n2, n3, n4, n5, hK, hW, h122, c1, c2, c4, Nat.reduceLeDiff]
      exact h
end
