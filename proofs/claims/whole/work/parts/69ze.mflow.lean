/-! A workflow read: the reference. -/
def it_mr (j : Nat) (mi m' : Nat → Nat → Int32) : Prop := (∀ a, a ≠ 99 → a ≠ 103 → ¬ (107 ≤ a ∧ a ≤ 109) → m' a = mi a) ∧ (∀ k, k ≠ 7 → k ≠ 8 → k ≠ 16 → m' 99 k = mi 99 k) ∧ ∀ q, q < j → m' 107 q = mi 107 q ∧ m' 108 q = mi 108 q ∧ m' 109 q = mi 109 q
section
variable {d : Nat} {Q : im_O → im_M → Prop} {L : Nat} {xs : Nat → Int32} {mi : Nat → Nat → Int32} {rw : Nat → Nat} {o : Nat → Int64} {g z : Nat}
variable {n : Nat} {T : Nat → Nat}
/-- a rule laid down by the reference -/
def mru (j : Nat) (a b w : Int32) (m : Nat → Nat → Int32) : Nat → Nat → Int32 := it_up (it_up (it_up (it_up m 107 j a) 108 j b) 109 j w) 99 16 (ii (j + 1))
theorem mru_mr {j : Nat} {a b w : Int32} {m : Nat → Nat → Int32} (h : it_mf mi m) : it_mr j mi (mru j a b w m) := by
  unfold mru
  refine ⟨fun x q1 q2 q3 => ?_, fun k q1 q2 q3 => ?_, fun q hq => ?_⟩
  · rw [it_up_f _ _ _ q1, it_up_f _ _ _ (by omega), it_up_f _ _ _ (by omega), it_up_f _ _ _ (by omega)]
    exact h.1 x q1 q2
  · rw [it_up_s, if_neg q3, it_up_f _ _ _ (by decide), it_up_f _ _ _ (by decide), it_up_f _ _ _ (by decide)]
    exact h.2 k q1 q2
  · have e7 := h.1 107 (by decide) (by decide)
    have e8 := h.1 108 (by decide) (by decide)
    have e9 := h.1 109 (by decide) (by decide)
    simp (disch := omega) only [it_up_f, it_up_j]
    rw [e7, e8, e9]
    exact ⟨rfl, rfl, rfl⟩
theorem c89t {j : Nat} {a b w : Int32} {m : Nat → Nat → Int32} (hj : j < 32) (h16 : m 99 16 = ii j) : iw d 89 73 [.ref 99, .int a, .int b, .int w] [] (it_mem L xs m rw o g z) Q ↔ Q (.inl none) (it_mem L xs (mru j a b w m) rw o g z) := by
  have e1 : (ii j).toNatClampNeg = j := ii_clamp (by omega)
  have e2 : ii j + 1 = ii (j + 1) := ii_add (b := 1)
  have b1 : it_inb L 107 (ii j) := ii_inb (by omega) (by rw [ln_107]; omega)
  have b2 : it_inb L 108 (ii j) := ii_inb (by omega) (by rw [ln_108]; omega)
  have b3 : it_inb L 109 (ii j) := ii_inb (by omega) (by rw [ln_109]; omega)
  simp (disch := omega) only [w89_73, w89_74, w89_77, w89_78, w89_81, w89_82, w89_83, w89_84, w89_87, w89_88, w89_91, w89_92, w89_93, w89_94, w89_97, w89_98, w89_101, w89_102, w89_103, w89_104, w89_105, w89_108, w89_109, w89_110, w89_113, isk_99, cv_99_0, cv_99_1, cv_99_2, cv_99_3, cv_99_4, cv_99_5, cv_99_6, cv_99_7, cv_99_8, cv_99_9, cv_99_10, cv_99_11, cv_99_12, cv_99_13, cv_99_14, cv_99_15, cv_99_16, cv_99_17, cv_99_18, cv_99_19, cv_99_20, cv_99_21, cv_99_22, cv_99_23, cv_99_24, cv_99_25, cv_99_26, cv_99_27, cv_99_28, cv_99_29, cv_99_30, cv_99_31, cv_99_32, cv_99_33, cv_99_34, cv_99_35, cv_99_36, cv_99_37, cv_99_38, cv_99_39, cv_99_40, cv_99_41, cv_99_42, cv_99_43, cv_99_44, cv_99_45, cv_99_46, isa_107, ln_107, cv_107, isa_108, ln_108, cv_108, isa_109, ln_109, cv_109, ↓reduceIte, true_and, and_true, vok_int, vok_b0, vok_b1, vok_bb, r_backI, r_backV, bb_eq0, Nat.reduceAdd, Nat.reduceMul, Nat.reduceEqDiff, not_true_eq_false, not_false_eq_true, if_true, if_false, false_and, and_false, c17, c98, h16, e1, e2, b1, b2, b3, it_up_f, Nat.reduceLeDiff]
  exact Iff.rfl
theorem c89 {p j : Nat} {v1 v2 v3 : Value} (hx : it_mx n T false mi) (hp : p ≤ n) (h7 : mi 99 7 = ii p) (h8 : mi 99 8 = 0) (hj : j < 32) (h16 : mi 99 16 = ii j)
    (hQ : ∀ m', it_mr j mi m' → m' 99 16 = ii (j + 1) → m' 99 7 = ii (pR T n p).1 → m' 99 8 = bb ((pR T n p).2 = none) → (∀ w oc, (pR T n p).2 = some (w, oc) → m' 107 j = ii (T p - 65) ∧ m' 108 j = ii (T (p + 2) - 65) ∧ m' 109 j = ii w) → Q (.inl none) (it_mem L xs m' rw o g z)) :
    iw (d + 4) 89 0 [.ref 99, v1, v2, v3] [] (it_mem L xs mi rw o g z) Q := by
  have hn := hx.1
  have hz := hx.2.2.2.2.1
  have lt : ∀ j, T j ≠ 0 → j < n := fun j h => Nat.lt_of_not_le (fun q => h (hz j q))
  have up2 : ∀ X a b, it_up (it_up X 99 7 a) 99 7 b = it_up X 99 7 b := by
    intro X a b
    funext x y
    simp only [it_up_app]
    split <;> rfl
  have mA : ∀ x, it_mf mi (it_up mi 99 7 x) := fun x => mf_9 (Or.inl rfl)
  have mB : ∀ x, it_mf mi (it_up (it_up mi 99 7 x) 99 8 1) := fun x => mf_trans (mA x) (mf_9 (Or.inr rfl))
  have xA : ∀ x, it_mx n T false (it_up mi 99 7 x) := fun x => mx_fr hx (mA x)
  have xB : ∀ x, it_mx n T false (it_up (it_up mi 99 7 x) 99 8 1) := fun x => mx_fr hx (mB x)
  have aA : ∀ x, it_up mi 99 7 x 99 7 = x := fun x => it_up_same _ _ _ _
  have aB : ∀ x, it_up (it_up mi 99 7 x) 99 8 1 99 7 = x := fun x => by rw [it_up_s, if_neg (by decide), it_up_same]
  have iA : ∀ x, it_up mi 99 7 x 99 8 = 0 := fun x => by rw [it_up_s, if_neg (by decide)]; exact h8
  have iB : ∀ x, it_up (it_up mi 99 7 x) 99 8 1 99 8 = 1 := fun x => it_up_same _ _ _ _
  have sA : ∀ x, it_up mi 99 7 x 99 16 = ii j := fun x => by rw [it_up_s, if_neg (by decide)]; exact h16
  have sB : ∀ x, it_up (it_up mi 99 7 x) 99 8 1 99 16 = ii j := fun x => by rw [it_up_s, if_neg (by decide)]; exact sA x
  -- the end, ill, at a place
  have fin0 : ∀ (a b w : Int32) (q : Nat), (pR T n p).1 = q → (pR T n p).2 = none → ∀ m, it_mf mi m → m 99 7 = ii q → m 99 8 = 1 → Q (.inl none) (it_mem L xs (mru j a b w m) rw o g z) := by
    intro a b w q hq hb m hm m7 m8
    refine hQ _ (mru_mr hm) (it_up_same _ _ _ _) ?_ ?_ (fun w oc hw => by rw [hb] at hw; cases hw)
    · unfold mru; rw [it_up_s, if_neg (by decide), it_up_f _ _ _ (by decide), it_up_f _ _ _ (by decide), it_up_f _ _ _ (by decide), hq]; exact m7
    · unfold mru; rw [it_up_s, if_neg (by decide), it_up_f _ _ _ (by decide), it_up_f _ _ _ (by decide), it_up_f _ _ _ (by decide), bb_t hb]; exact m8
  have fin1 : ∀ (w : Nat) (oc : Option CV) (q : Nat), pR T n p = (q, some (w, oc)) → ∀ m, it_mf mi m → m 99 7 = ii q → m 99 8 = 0 → Q (.inl none) (it_mem L xs (mru j (ii (T p - 65)) (ii (T (p + 2) - 65)) (ii w) m) rw o g z) := by
    intro w oc q hq m hm m7 m8
    have hb1 : (pR T n p).1 = q := by rw [hq]
    have hb2 : (pR T n p).2 = some (w, oc) := by rw [hq]
    refine hQ _ (mru_mr hm) (it_up_same _ _ _ _) ?_ ?_ (fun w' oc' hw => ?_)
    · unfold mru; rw [it_up_s, if_neg (by decide), it_up_f _ _ _ (by decide), it_up_f _ _ _ (by decide), it_up_f _ _ _ (by decide), hb1]; exact m7
    · unfold mru; rw [it_up_s, if_neg (by decide), it_up_f _ _ _ (by decide), it_up_f _ _ _ (by decide), it_up_f _ _ _ (by decide), bb_f (fun h => by rw [hb2] at h; cases h)]; exact m8
    · rw [hb2] at hw
      cases hw
      unfold mru
      simp (disch := omega) only [it_up_f, it_up_same]
      exact ⟨trivial, trivial, trivial⟩
  have e1 : ∀ q, ii q + 1 = ii (q + 1) := fun q => ii_add (b := 1)
  by_cases h : 65 ≤ T p ∧ T p ≤ 70
  · have l0 := lt p (by omega)
    by_cases h1 : T (p + 1) = 62
    · have l1 := lt (p + 1) (by omega)
      have h1' : 62 ≤ T (p + 1) ∧ T (p + 1) ≤ 62 := by omega
      by_cases h2 : 65 ≤ T (p + 2) ∧ T (p + 2) ≤ 70
      · have l2 := lt (p + 2) (by omega)
        have hbeg : iw (d + 4) 89 0 [.ref 99, v1, v2, v3] [] (it_mem L xs mi rw o g z) Q ↔ iw (d + 4) 89 36 [.ref 99, .int (ii (T p - 65)), .int (ii (T (p + 2) - 65)), .int 0] [] (it_mem L xs (it_up mi 99 7 (ii (p + 3))) rw o g z) Q := by
          simp only [w89_0, w89_1, w89_3, w89_5, w89_8, w89_9, w89_10, w89_12, w89_14, w89_17, w89_18, w89_19, w89_21, w89_23, w89_26, w89_27, w89_28, w89_29, w89_30, w89_33, isk_99, cv_99_0, cv_99_1, cv_99_2, cv_99_3, cv_99_4, cv_99_5, cv_99_6, cv_99_7, cv_99_8, cv_99_9, cv_99_10, cv_99_11, cv_99_12, cv_99_13, cv_99_14, cv_99_15, cv_99_16, cv_99_17, cv_99_18, cv_99_19, cv_99_20, cv_99_21, cv_99_22, cv_99_23, cv_99_24, cv_99_25, cv_99_26, cv_99_27, cv_99_28, cv_99_29, cv_99_30, cv_99_31, cv_99_32, cv_99_33, cv_99_34, cv_99_35, cv_99_36, cv_99_37, cv_99_38, cv_99_39, cv_99_40, cv_99_41, cv_99_42, cv_99_43, cv_99_44, cv_99_45, cv_99_46, ↓reduceIte, true_and, and_true, vok_int, vok_b0, vok_b1, vok_bb, r_backI, r_backV, bb_eq0, Nat.reduceAdd, Nat.reduceMul, Nat.reduceEqDiff, not_true_eq_false, not_false_eq_true, if_true, if_false, false_and, and_false, c17, c98, n_m1_0, n_m1_1, n_m1_2, n_m1_3, n_m1_4, n_m1_5, n_m1_6, n_0_m1, n_0_1, n_0_2, n_0_3, n_0_4, n_0_5, n_0_6, n_1_m1, n_1_0, n_1_2, n_1_3, n_1_4, n_1_5, n_1_6, n_2_m1, n_2_0, n_2_1, n_2_3, n_2_4, n_2_5, n_2_6, n_3_m1, n_3_0, n_3_1, n_3_2, n_3_4, n_3_5, n_3_6, n_4_m1, n_4_0, n_4_1, n_4_2, n_4_3, n_4_5, n_4_6, n_5_m1, n_5_0, n_5_1, n_5_2, n_5_3, n_5_4, n_5_6, n_6_m1, n_6_0, n_6_1, n_6_2, n_6_3, n_6_4, n_6_5, c90t (a := 65) (b := 70) (lo := 65) (hi := 70) hx hp h7 h8 rfl rfl (by decide) (by decide) h, c90t (a := 62) (b := 62) (lo := 62) (hi := 62) (xA (ii (p + 1))) (show p + 1 ≤ n by omega) (aA _) (iA _) rfl rfl (by decide) (by decide) h1', up2, c90t (a := 65) (b := 70) (lo := 65) (hi := 70) (xA (ii (p + 1 + 1))) (show p + 2 ≤ n by omega) (aA _) (iA _) rfl rfl (by decide) (by decide) h2, iA]
        rw [hbeg]
        have hT3 := hx.2.2.2.2.2 (p + 3)
        have a58 : ii (T (p + 3)) = 58 ↔ T (p + 3) = 58 := by rw [lit_58, ii_inj (by omega) (by decide)]
        by_cases h3 : T (p + 3) = 58
        · have l3 := lt (p + 3) (by omega)
          simp only [w89_36, w89_37, w89_40, w89_42, w89_45, w89_46, w89_47, w89_50, w89_51, w89_52, w89_55, w89_56, w89_59, w89_60, w89_61, isk_99, cv_99_0, cv_99_1, cv_99_2, cv_99_3, cv_99_4, cv_99_5, cv_99_6, cv_99_7, cv_99_8, cv_99_9, cv_99_10, cv_99_11, cv_99_12, cv_99_13, cv_99_14, cv_99_15, cv_99_16, cv_99_17, cv_99_18, cv_99_19, cv_99_20, cv_99_21, cv_99_22, cv_99_23, cv_99_24, cv_99_25, cv_99_26, cv_99_27, cv_99_28, cv_99_29, cv_99_30, cv_99_31, cv_99_32, cv_99_33, cv_99_34, cv_99_35, cv_99_36, cv_99_37, cv_99_38, cv_99_39, cv_99_40, cv_99_41, cv_99_42, cv_99_43, cv_99_44, cv_99_45, cv_99_46, ↓reduceIte, true_and, and_true, vok_int, vok_b0, vok_b1, vok_bb, r_backI, r_backV, bb_eq0, Nat.reduceAdd, Nat.reduceMul, Nat.reduceEqDiff, not_true_eq_false, not_false_eq_true, if_true, if_false, false_and, and_false, c17, c98, c91 (xA (ii (p + 3))) (show p + 3 ≤ n by omega) (aA _), a58, eq_true h3, aA, e1, up2]
          refine c92 (xA (ii (p + 3 + 1))) (show p + 4 ≤ n by omega) (aA _) (iA _) (fun m1 g1 g7 g8 => ?_)
          have g0 : it_mf mi m1 := mf_trans (mA _) g1
          have hx1 := mx_fr hx g0
          have g16 : m1 99 16 = ii j := by rw [g0.2 16 (by decide) (by decide)]; exact h16
          obtain ⟨f1, f2, f3⟩ := pC_ok (qq := false) hz 6 (p + 4) (by omega)
          cases hb : (pC false T n 6 (p + 4)).2 with
          | none =>
            rw [hb, bb_t rfl] at g8
            have hr := pR_f h h1 h2 h3 hb
            simp only [↓reduceIte, true_and, and_true, vok_int, vok_b0, vok_b1, vok_bb, r_backI, r_backV, bb_eq0, Nat.reduceAdd, Nat.reduceMul, Nat.reduceEqDiff, not_true_eq_false, not_false_eq_true, if_true, if_false, false_and, and_false, c17, c98, w89_64, w89_65, w89_67, w89_69, w89_72, isk_99, cv_99_0, cv_99_1, cv_99_2, cv_99_3, cv_99_4, cv_99_5, cv_99_6, cv_99_7, cv_99_8, cv_99_9, cv_99_10, cv_99_11, cv_99_12, cv_99_13, cv_99_14, cv_99_15, cv_99_16, cv_99_17, cv_99_18, cv_99_19, cv_99_20, cv_99_21, cv_99_22, cv_99_23, cv_99_24, cv_99_25, cv_99_26, cv_99_27, cv_99_28, cv_99_29, cv_99_30, cv_99_31, cv_99_32, cv_99_33, cv_99_34, cv_99_35, cv_99_36, cv_99_37, cv_99_38, cv_99_39, cv_99_40, cv_99_41, cv_99_42, cv_99_43, cv_99_44, cv_99_45, cv_99_46, c90i hx1 f2 g7 g8, c89t hj g16]
            exact fin0 _ _ _ _ (by rw [hr]) (by rw [hr]) m1 g0 g7 g8
          | some c =>
            rw [hb, bb_f (fun h => by cases h)] at g8
            by_cases h4 : T (pC false T n 6 (p + 4)).1 = 59
            · have h4' : 59 ≤ T (pC false T n 6 (p + 4)).1 ∧ T (pC false T n 6 (p + 4)).1 ≤ 59 := by omega
              have hr := pR_h h h1 h2 h3 hb h4
              have s1 : it_up m1 99 7 (ii ((pC false T n 6 (p + 4)).1 + 1)) 99 16 = ii j := by rw [it_up_s, if_neg (by decide)]; exact g16
              simp only [↓reduceIte, true_and, and_true, vok_int, vok_b0, vok_b1, vok_bb, r_backI, r_backV, bb_eq0, Nat.reduceAdd, Nat.reduceMul, Nat.reduceEqDiff, not_true_eq_false, not_false_eq_true, if_true, if_false, false_and, and_false, c17, c98, w89_64, w89_65, w89_67, w89_69, w89_72, isk_99, cv_99_0, cv_99_1, cv_99_2, cv_99_3, cv_99_4, cv_99_5, cv_99_6, cv_99_7, cv_99_8, cv_99_9, cv_99_10, cv_99_11, cv_99_12, cv_99_13, cv_99_14, cv_99_15, cv_99_16, cv_99_17, cv_99_18, cv_99_19, cv_99_20, cv_99_21, cv_99_22, cv_99_23, cv_99_24, cv_99_25, cv_99_26, cv_99_27, cv_99_28, cv_99_29, cv_99_30, cv_99_31, cv_99_32, cv_99_33, cv_99_34, cv_99_35, cv_99_36, cv_99_37, cv_99_38, cv_99_39, cv_99_40, cv_99_41, cv_99_42, cv_99_43, cv_99_44, cv_99_45, cv_99_46, c90t (a := 59) (b := 59) (lo := 59) (hi := 59) hx1 f2 g7 g8 rfl rfl (by decide) (by decide) h4', c89t hj s1]
              exact fin1 _ _ _ hr _ (mf_trans g0 (mf_9 (Or.inl rfl))) (it_up_same _ _ _ _) (by rw [it_up_s, if_neg (by decide)]; exact g8)
            · have h4' : ¬ (59 ≤ T (pC false T n 6 (p + 4)).1 ∧ T (pC false T n 6 (p + 4)).1 ≤ 59) := by omega
              have hr := pR_g h h1 h2 h3 hb h4
              have s1 : it_up m1 99 8 1 99 16 = ii j := by rw [it_up_s, if_neg (by decide)]; exact g16
              simp only [↓reduceIte, true_and, and_true, vok_int, vok_b0, vok_b1, vok_bb, r_backI, r_backV, bb_eq0, Nat.reduceAdd, Nat.reduceMul, Nat.reduceEqDiff, not_true_eq_false, not_false_eq_true, if_true, if_false, false_and, and_false, c17, c98, w89_64, w89_65, w89_67, w89_69, w89_72, isk_99, cv_99_0, cv_99_1, cv_99_2, cv_99_3, cv_99_4, cv_99_5, cv_99_6, cv_99_7, cv_99_8, cv_99_9, cv_99_10, cv_99_11, cv_99_12, cv_99_13, cv_99_14, cv_99_15, cv_99_16, cv_99_17, cv_99_18, cv_99_19, cv_99_20, cv_99_21, cv_99_22, cv_99_23, cv_99_24, cv_99_25, cv_99_26, cv_99_27, cv_99_28, cv_99_29, cv_99_30, cv_99_31, cv_99_32, cv_99_33, cv_99_34, cv_99_35, cv_99_36, cv_99_37, cv_99_38, cv_99_39, cv_99_40, cv_99_41, cv_99_42, cv_99_43, cv_99_44, cv_99_45, cv_99_46, c90f (a := 59) (b := 59) (lo := 59) (hi := 59) hx1 f2 g7 g8 rfl rfl (by decide) (by decide) h4', c89t hj s1]
              exact fin0 _ _ _ _ (by rw [hr]) (by rw [hr]) _ (mf_trans g0 (mf_9 (Or.inr rfl))) (by rw [it_up_s, if_neg (by decide)]; exact g7) (it_up_same _ _ _ _)
        · by_cases h4 : T (p + 3) = 59
          · have l3 := lt (p + 3) (by omega)
            have h4' : 59 ≤ T (p + 3) ∧ T (p + 3) ≤ 59 := by omega
            have hr := pR_e (n := n) h h1 h2 h4
            simp only [w89_36, w89_37, w89_40, w89_42, w89_64, w89_65, w89_67, w89_69, w89_72, isk_99, cv_99_0, cv_99_1, cv_99_2, cv_99_3, cv_99_4, cv_99_5, cv_99_6, cv_99_7, cv_99_8, cv_99_9, cv_99_10, cv_99_11, cv_99_12, cv_99_13, cv_99_14, cv_99_15, cv_99_16, cv_99_17, cv_99_18, cv_99_19, cv_99_20, cv_99_21, cv_99_22, cv_99_23, cv_99_24, cv_99_25, cv_99_26, cv_99_27, cv_99_28, cv_99_29, cv_99_30, cv_99_31, cv_99_32, cv_99_33, cv_99_34, cv_99_35, cv_99_36, cv_99_37, cv_99_38, cv_99_39, cv_99_40, cv_99_41, cv_99_42, cv_99_43, cv_99_44, cv_99_45, cv_99_46, ↓reduceIte, true_and, and_true, vok_int, vok_b0, vok_b1, vok_bb, r_backI, r_backV, bb_eq0, Nat.reduceAdd, Nat.reduceMul, Nat.reduceEqDiff, not_true_eq_false, not_false_eq_true, if_true, if_false, false_and, and_false, c17, c98, c91 (xA (ii (p + 3))) (show p + 3 ≤ n by omega) (aA _), a58, h3, c90t (a := 59) (b := 59) (lo := 59) (hi := 59) (xA (ii (p + 3))) (show p + 3 ≤ n by omega) (aA _) (iA _) rfl rfl (by decide) (by decide) h4', up2, c89t hj (sA (ii (p + 3 + 1)))]
            exact fin1 0 none _ hr _ (mA _) (aA _) (iA _)
          · have h4' : ¬ (59 ≤ T (p + 3) ∧ T (p + 3) ≤ 59) := by omega
            have hr := pR_d (n := n) h h1 h2 h3 h4
            simp only [w89_36, w89_37, w89_40, w89_42, w89_64, w89_65, w89_67, w89_69, w89_72, isk_99, cv_99_0, cv_99_1, cv_99_2, cv_99_3, cv_99_4, cv_99_5, cv_99_6, cv_99_7, cv_99_8, cv_99_9, cv_99_10, cv_99_11, cv_99_12, cv_99_13, cv_99_14, cv_99_15, cv_99_16, cv_99_17, cv_99_18, cv_99_19, cv_99_20, cv_99_21, cv_99_22, cv_99_23, cv_99_24, cv_99_25, cv_99_26, cv_99_27, cv_99_28, cv_99_29, cv_99_30, cv_99_31, cv_99_32, cv_99_33, cv_99_34, cv_99_35, cv_99_36, cv_99_37, cv_99_38, cv_99_39, cv_99_40, cv_99_41, cv_99_42, cv_99_43, cv_99_44, cv_99_45, cv_99_46, ↓reduceIte, true_and, and_true, vok_int, vok_b0, vok_b1, vok_bb, r_backI, r_backV, bb_eq0, Nat.reduceAdd, Nat.reduceMul, Nat.reduceEqDiff, not_true_eq_false, not_false_eq_true, if_true, if_false, false_and, and_false, c17, c98, c91 (xA (ii (p + 3))) (show p + 3 ≤ n by omega) (aA _), a58, h3, c90f (a := 59) (b := 59) (lo := 59) (hi := 59) (xA (ii (p + 3))) (show p + 3 ≤ n by omega) (aA _) (iA _) rfl rfl (by decide) (by decide) h4', c89t hj (sB (ii (p + 3)))]
            exact fin0 _ _ _ _ (by rw [hr]) (by rw [hr]) _ (mB _) (aB _) (iB _)
      · have hr := pR_c (n := n) h h1 h2
        simp only [w89_0, w89_1, w89_3, w89_5, w89_8, w89_9, w89_10, w89_12, w89_14, w89_17, w89_18, w89_19, w89_21, w89_23, w89_26, w89_27, w89_28, w89_29, w89_30, w89_33, w89_64, w89_65, w89_67, w89_69, w89_72, isk_99, cv_99_0, cv_99_1, cv_99_2, cv_99_3, cv_99_4, cv_99_5, cv_99_6, cv_99_7, cv_99_8, cv_99_9, cv_99_10, cv_99_11, cv_99_12, cv_99_13, cv_99_14, cv_99_15, cv_99_16, cv_99_17, cv_99_18, cv_99_19, cv_99_20, cv_99_21, cv_99_22, cv_99_23, cv_99_24, cv_99_25, cv_99_26, cv_99_27, cv_99_28, cv_99_29, cv_99_30, cv_99_31, cv_99_32, cv_99_33, cv_99_34, cv_99_35, cv_99_36, cv_99_37, cv_99_38, cv_99_39, cv_99_40, cv_99_41, cv_99_42, cv_99_43, cv_99_44, cv_99_45, cv_99_46, ↓reduceIte, true_and, and_true, vok_int, vok_b0, vok_b1, vok_bb, r_backI, r_backV, bb_eq0, Nat.reduceAdd, Nat.reduceMul, Nat.reduceEqDiff, not_true_eq_false, not_false_eq_true, if_true, if_false, false_and, and_false, c17, c98, n_m1_0, n_m1_1, n_m1_2, n_m1_3, n_m1_4, n_m1_5, n_m1_6, n_0_m1, n_0_1, n_0_2, n_0_3, n_0_4, n_0_5, n_0_6, n_1_m1, n_1_0, n_1_2, n_1_3, n_1_4, n_1_5, n_1_6, n_2_m1, n_2_0, n_2_1, n_2_3, n_2_4, n_2_5, n_2_6, n_3_m1, n_3_0, n_3_1, n_3_2, n_3_4, n_3_5, n_3_6, n_4_m1, n_4_0, n_4_1, n_4_2, n_4_3, n_4_5, n_4_6, n_5_m1, n_5_0, n_5_1, n_5_2, n_5_3, n_5_4, n_5_6, n_6_m1, n_6_0, n_6_1, n_6_2, n_6_3, n_6_4, n_6_5, c90t (a := 65) (b := 70) (lo := 65) (hi := 70) hx hp h7 h8 rfl rfl (by decide) (by decide) h, c90t (a := 62) (b := 62) (lo := 62) (hi := 62) (xA (ii (p + 1))) (show p + 1 ≤ n by omega) (aA _) (iA _) rfl rfl (by decide) (by decide) h1', up2, c90f (a := 65) (b := 70) (lo := 65) (hi := 70) (xA (ii (p + 1 + 1))) (show p + 2 ≤ n by omega) (aA _) (iA _) rfl rfl (by decide) (by decide) h2, iB, c90i (xB (ii (p + 1 + 1))) (show p + 2 ≤ n by omega) (aB _) (iB _), c89t hj (sB (ii (p + 1 + 1)))]
        exact fin0 _ _ _ _ (by rw [hr]) (by rw [hr]) _ (mB _) (aB _) (iB _)
    · have h1' : ¬ (62 ≤ T (p + 1) ∧ T (p + 1) ≤ 62) := by omega
      have hr := pR_b (n := n) h h1
      simp only [w89_0, w89_1, w89_3, w89_5, w89_8, w89_9, w89_10, w89_12, w89_14, w89_17, w89_18, w89_19, w89_21, w89_23, w89_26, w89_27, w89_28, w89_29, w89_30, w89_33, w89_64, w89_65, w89_67, w89_69, w89_72, isk_99, cv_99_0, cv_99_1, cv_99_2, cv_99_3, cv_99_4, cv_99_5, cv_99_6, cv_99_7, cv_99_8, cv_99_9, cv_99_10, cv_99_11, cv_99_12, cv_99_13, cv_99_14, cv_99_15, cv_99_16, cv_99_17, cv_99_18, cv_99_19, cv_99_20, cv_99_21, cv_99_22, cv_99_23, cv_99_24, cv_99_25, cv_99_26, cv_99_27, cv_99_28, cv_99_29, cv_99_30, cv_99_31, cv_99_32, cv_99_33, cv_99_34, cv_99_35, cv_99_36, cv_99_37, cv_99_38, cv_99_39, cv_99_40, cv_99_41, cv_99_42, cv_99_43, cv_99_44, cv_99_45, cv_99_46, ↓reduceIte, true_and, and_true, vok_int, vok_b0, vok_b1, vok_bb, r_backI, r_backV, bb_eq0, Nat.reduceAdd, Nat.reduceMul, Nat.reduceEqDiff, not_true_eq_false, not_false_eq_true, if_true, if_false, false_and, and_false, c17, c98, n_m1_0, n_m1_1, n_m1_2, n_m1_3, n_m1_4, n_m1_5, n_m1_6, n_0_m1, n_0_1, n_0_2, n_0_3, n_0_4, n_0_5, n_0_6, n_1_m1, n_1_0, n_1_2, n_1_3, n_1_4, n_1_5, n_1_6, n_2_m1, n_2_0, n_2_1, n_2_3, n_2_4, n_2_5, n_2_6, n_3_m1, n_3_0, n_3_1, n_3_2, n_3_4, n_3_5, n_3_6, n_4_m1, n_4_0, n_4_1, n_4_2, n_4_3, n_4_5, n_4_6, n_5_m1, n_5_0, n_5_1, n_5_2, n_5_3, n_5_4, n_5_6, n_6_m1, n_6_0, n_6_1, n_6_2, n_6_3, n_6_4, n_6_5, c90t (a := 65) (b := 70) (lo := 65) (hi := 70) hx hp h7 h8 rfl rfl (by decide) (by decide) h, c90f (a := 62) (b := 62) (lo := 62) (hi := 62) (xA (ii (p + 1))) (show p + 1 ≤ n by omega) (aA _) (iA _) rfl rfl (by decide) (by decide) h1', iB, c90i (xB (ii (p + 1))) (show p + 1 ≤ n by omega) (aB _) (iB _), c89t hj (sB (ii (p + 1)))]
      exact fin0 _ _ _ _ (by rw [hr]) (by rw [hr]) _ (mB _) (aB _) (iB _)
  · have hr := pR_a (n := n) h
    have xC : it_mx n T false (it_up mi 99 8 1) := mx_fr hx (mf_9 (Or.inr rfl))
    have aC : it_up mi 99 8 1 99 7 = ii p := by rw [it_up_s, if_neg (by decide)]; exact h7
    have iC : it_up mi 99 8 1 99 8 = 1 := it_up_same _ _ _ _
    have sC : it_up mi 99 8 1 99 16 = ii j := by rw [it_up_s, if_neg (by decide)]; exact h16
    simp only [w89_0, w89_1, w89_3, w89_5, w89_8, w89_9, w89_10, w89_12, w89_14, w89_17, w89_18, w89_19, w89_21, w89_23, w89_26, w89_27, w89_28, w89_29, w89_30, w89_33, w89_64, w89_65, w89_67, w89_69, w89_72, isk_99, cv_99_0, cv_99_1, cv_99_2, cv_99_3, cv_99_4, cv_99_5, cv_99_6, cv_99_7, cv_99_8, cv_99_9, cv_99_10, cv_99_11, cv_99_12, cv_99_13, cv_99_14, cv_99_15, cv_99_16, cv_99_17, cv_99_18, cv_99_19, cv_99_20, cv_99_21, cv_99_22, cv_99_23, cv_99_24, cv_99_25, cv_99_26, cv_99_27, cv_99_28, cv_99_29, cv_99_30, cv_99_31, cv_99_32, cv_99_33, cv_99_34, cv_99_35, cv_99_36, cv_99_37, cv_99_38, cv_99_39, cv_99_40, cv_99_41, cv_99_42, cv_99_43, cv_99_44, cv_99_45, cv_99_46, ↓reduceIte, true_and, and_true, vok_int, vok_b0, vok_b1, vok_bb, r_backI, r_backV, bb_eq0, Nat.reduceAdd, Nat.reduceMul, Nat.reduceEqDiff, not_true_eq_false, not_false_eq_true, if_true, if_false, false_and, and_false, c17, c98, n_m1_0, n_m1_1, n_m1_2, n_m1_3, n_m1_4, n_m1_5, n_m1_6, n_0_m1, n_0_1, n_0_2, n_0_3, n_0_4, n_0_5, n_0_6, n_1_m1, n_1_0, n_1_2, n_1_3, n_1_4, n_1_5, n_1_6, n_2_m1, n_2_0, n_2_1, n_2_3, n_2_4, n_2_5, n_2_6, n_3_m1, n_3_0, n_3_1, n_3_2, n_3_4, n_3_5, n_3_6, n_4_m1, n_4_0, n_4_1, n_4_2, n_4_3, n_4_5, n_4_6, n_5_m1, n_5_0, n_5_1, n_5_2, n_5_3, n_5_4, n_5_6, n_6_m1, n_6_0, n_6_1, n_6_2, n_6_3, n_6_4, n_6_5, c90f (a := 65) (b := 70) (lo := 65) (hi := 70) hx hp h7 h8 rfl rfl (by decide) (by decide) h, iC, c90i xC hp aC iC, c89t hj sC]
    exact fin0 _ _ _ _ (by rw [hr]) (by rw [hr]) _ (mf_9 (Or.inr rfl)) aC iC
/-- the first j rules as the reference has laid them -/
def it_mj (T : Nat → Nat) (n j : Nat) (m : Nat → Nat → Int32) : Prop := m 99 16 = ii j ∧ ∀ q, q < j → m 107 q = ii (T (rps T n q) - 65) ∧ m 108 q = ii (T (rps T n q + 2) - 65) ∧ ∃ w oc, (pR T n (rps T n q)).2 = some (w, oc) ∧ m 109 q = ii w
/-- frame of the reference's reading of rules -/
def it_ma (mi m' : Nat → Nat → Int32) : Prop := (∀ a, a ≠ 99 → a ≠ 103 → ¬ (107 ≤ a ∧ a ≤ 109) → m' a = mi a) ∧ ∀ k, k ≠ 7 → k ≠ 8 → k ≠ 16 → m' 99 k = mi 99 k
theorem mx_ma {qq : Bool} {m' : Nat → Nat → Int32} (h : it_mx n T qq mi) (hf : it_ma mi m') : it_mx n T qq m' := by
  obtain ⟨h1, h2, h3, h4, h5, h6⟩ := h
  refine ⟨h1, by rw [hf.2 5 (by decide) (by decide) (by decide)]; exact h2, by rw [hf.2 9 (by decide) (by decide) (by decide)]; exact h3, fun j hj => ?_, h5, h6⟩
  rw [hf.1 102 (by decide) (by decide) (by decide)]
  exact h4 j hj
/-- from one rule on, to the end of the reading -/
theorem c86L {v1 v2 : Value} (hx : it_mx n T false mi)
    (hI : ∀ J, rIll T n J → ∀ m', it_ma mi m' → m' 99 8 = 1 → m' 99 7 = ii (pR T n (rps T n J)).1 → iw (d + 5) 86 76 [.ref 99, v1, v2] [] (it_mem L xs m' rw o g z) Q)
    (hW : ∀ J, rWll T n J → ∀ m', it_ma mi m' → m' 99 8 = 0 → it_mj T n (J + 1) m' → iw (d + 5) 86 76 [.ref 99, v1, v2] [] (it_mem L xs m' rw o g z) Q) :
    ∀ (f j : Nat) (m : Nat → Nat → Int32), n ≤ rps T n j + f → rgo T n j → it_ma mi m → it_mj T n j m → m 99 7 = ii (rps T n j) → m 99 8 = 0 →
    ∀ (w1 w2 w3 : Value) (Q' : im_O → im_M → Prop), (∀ (M : im_M), iw (d + 5) 86 51 [.ref 99, v1, v2] [] M Q → Q' (.inl none) M) → iw (d + 4) 89 0 [.ref 99, w1, w2, w3] [] (it_mem L xs m rw o g z) Q' := by
  have hn := hx.1
  have hz := hx.2.2.2.2.1
  intro f
  induction f with
  | zero =>
    intro j m hf hg hm hc h7 h8 w1 w2 w3 Q' hQ'
    obtain ⟨-, l2, l3, l4⟩ := rgo_le hz hg j (Nat.le_refl _)
    have hxm := mx_ma hx hm
    refine c89 hxm l3 h7 h8 (by omega) hc.1 (fun m1 g1 g16 g7 g8 gr => hQ' _ ?_)
    have hm1 : it_ma mi m1 := ⟨fun a q1 q2 q3 => (g1.1 a q1 q2 q3).trans (hm.1 a q1 q2 q3), fun k q1 q2 q3 => (g1.2.1 k q1 q2 q3).trans (hm.2 k q1 q2 q3)⟩
    cases hb : (pR T n (rps T n j)).2 with
    | none =>
      rw [hb, bb_t rfl] at g8
      have hgo := hI j ⟨hg, hb⟩ m1 hm1 g8 g7
      rw [w86_51]
      simp only [w86_52, w86_55, isk_99, cv_99_0, cv_99_1, cv_99_2, cv_99_3, cv_99_4, cv_99_5, cv_99_6, cv_99_7, cv_99_8, cv_99_9, cv_99_10, cv_99_11, cv_99_12, cv_99_13, cv_99_14, cv_99_15, cv_99_16, cv_99_17, cv_99_18, cv_99_19, cv_99_20, cv_99_21, cv_99_22, cv_99_23, cv_99_24, cv_99_25, cv_99_26, cv_99_27, cv_99_28, cv_99_29, cv_99_30, cv_99_31, cv_99_32, cv_99_33, cv_99_34, cv_99_35, cv_99_36, cv_99_37, cv_99_38, cv_99_39, cv_99_40, cv_99_41, cv_99_42, cv_99_43, cv_99_44, cv_99_45, cv_99_46, ↓reduceIte, true_and, and_true, vok_int, vok_b0, vok_b1, vok_bb, r_backI, r_backV, bb_eq0, Nat.reduceAdd, Nat.reduceMul, Nat.reduceEqDiff, not_true_eq_false, not_false_eq_true, if_true, if_false, false_and, and_false, c17, c98, n_m1_0, n_m1_1, n_m1_2, n_m1_3, n_m1_4, n_m1_5, n_m1_6, n_0_m1, n_0_1, n_0_2, n_0_3, n_0_4, n_0_5, n_0_6, n_1_m1, n_1_0, n_1_2, n_1_3, n_1_4, n_1_5, n_1_6, n_2_m1, n_2_0, n_2_1, n_2_3, n_2_4, n_2_5, n_2_6, n_3_m1, n_3_0, n_3_1, n_3_2, n_3_4, n_3_5, n_3_6, n_4_m1, n_4_0, n_4_1, n_4_2, n_4_3, n_4_5, n_4_6, n_5_m1, n_5_0, n_5_1, n_5_2, n_5_3, n_5_4, n_5_6, n_6_m1, n_6_0, n_6_1, n_6_2, n_6_3, n_6_4, n_6_5, g8]
      exact hgo
    | some q =>
      obtain ⟨w, oc⟩ := q
      obtain ⟨p1, p2⟩ := pR_ok (T := T) hz l3
      have := (p2 w oc hb).1
      omega
  | succ f ih =>
    intro j m hf hg hm hc h7 h8 w1 w2 w3 Q' hQ'
    obtain ⟨-, l2, l3, l4⟩ := rgo_le hz hg j (Nat.le_refl _)
    have hxm := mx_ma hx hm
    refine c89 hxm l3 h7 h8 (by omega) hc.1 (fun m1 g1 g16 g7 g8 gr => hQ' _ ?_)
    have hm1 : it_ma mi m1 := ⟨fun a q1 q2 q3 => (g1.1 a q1 q2 q3).trans (hm.1 a q1 q2 q3), fun k q1 q2 q3 => (g1.2.1 k q1 q2 q3).trans (hm.2 k q1 q2 q3)⟩
    have h5 : m1 99 5 = ii n := by rw [hm1.2 5 (by decide) (by decide) (by decide)]; exact hx.2.1
    cases hb : (pR T n (rps T n j)).2 with
    | none =>
      rw [hb, bb_t rfl] at g8
      have hgo := hI j ⟨hg, hb⟩ m1 hm1 g8 g7
      rw [w86_51]
      simp only [w86_52, w86_55, isk_99, cv_99_0, cv_99_1, cv_99_2, cv_99_3, cv_99_4, cv_99_5, cv_99_6, cv_99_7, cv_99_8, cv_99_9, cv_99_10, cv_99_11, cv_99_12, cv_99_13, cv_99_14, cv_99_15, cv_99_16, cv_99_17, cv_99_18, cv_99_19, cv_99_20, cv_99_21, cv_99_22, cv_99_23, cv_99_24, cv_99_25, cv_99_26, cv_99_27, cv_99_28, cv_99_29, cv_99_30, cv_99_31, cv_99_32, cv_99_33, cv_99_34, cv_99_35, cv_99_36, cv_99_37, cv_99_38, cv_99_39, cv_99_40, cv_99_41, cv_99_42, cv_99_43, cv_99_44, cv_99_45, cv_99_46, ↓reduceIte, true_and, and_true, vok_int, vok_b0, vok_b1, vok_bb, r_backI, r_backV, bb_eq0, Nat.reduceAdd, Nat.reduceMul, Nat.reduceEqDiff, not_true_eq_false, not_false_eq_true, if_true, if_false, false_and, and_false, c17, c98, n_m1_0, n_m1_1, n_m1_2, n_m1_3, n_m1_4, n_m1_5, n_m1_6, n_0_m1, n_0_1, n_0_2, n_0_3, n_0_4, n_0_5, n_0_6, n_1_m1, n_1_0, n_1_2, n_1_3, n_1_4, n_1_5, n_1_6, n_2_m1, n_2_0, n_2_1, n_2_3, n_2_4, n_2_5, n_2_6, n_3_m1, n_3_0, n_3_1, n_3_2, n_3_4, n_3_5, n_3_6, n_4_m1, n_4_0, n_4_1, n_4_2, n_4_3, n_4_5, n_4_6, n_5_m1, n_5_0, n_5_1, n_5_2, n_5_3, n_5_4, n_5_6, n_6_m1, n_6_0, n_6_1, n_6_2, n_6_3, n_6_4, n_6_5, g8]
      exact hgo
    | some q =>
      obtain ⟨w, oc⟩ := q
      rw [hb, bb_f (fun h => by cases h)] at g8
      obtain ⟨p1, p2⟩ := pR_ok (T := T) hz l3
      have p3 := (p2 w oc hb).1
      have hmj : it_mj T n (j + 1) m1 := by
        refine ⟨g16, fun q hq => ?_⟩
        by_cases eq : q = j
        · subst eq
          obtain ⟨r1, r2, r3⟩ := gr w oc hb
          exact ⟨r1, r2, w, oc, hb, r3⟩
        · obtain ⟨c1, c2, w', oc', c3, c4⟩ := hc.2 q (by omega)
          obtain ⟨d1, d2, d3⟩ := g1.2.2 q (by omega)
          exact ⟨by rw [d1]; exact c1, by rw [d2]; exact c2, w', oc', c3, by rw [d3]; exact c4⟩
      have e5 : m1 99 7 = ii (rps T n (j + 1)) := g7
      have hle : rps T n (j + 1) ≤ n := p1
      rw [w86_51]
      by_cases hend : n ≤ rps T n (j + 1)
      · have hgo := hW j ⟨hg, ⟨w, oc, hb⟩, hend⟩ m1 hm1 g8 hmj
        have e6 : ii n ≤ ii (rps T n (j + 1)) := (ii_le (by omega) (by omega)).mpr hend
        simp only [w86_52, w86_55, w86_58, w86_59, w86_62, w86_63, w86_66, isk_99, cv_99_0, cv_99_1, cv_99_2, cv_99_3, cv_99_4, cv_99_5, cv_99_6, cv_99_7, cv_99_8, cv_99_9, cv_99_10, cv_99_11, cv_99_12, cv_99_13, cv_99_14, cv_99_15, cv_99_16, cv_99_17, cv_99_18, cv_99_19, cv_99_20, cv_99_21, cv_99_22, cv_99_23, cv_99_24, cv_99_25, cv_99_26, cv_99_27, cv_99_28, cv_99_29, cv_99_30, cv_99_31, cv_99_32, cv_99_33, cv_99_34, cv_99_35, cv_99_36, cv_99_37, cv_99_38, cv_99_39, cv_99_40, cv_99_41, cv_99_42, cv_99_43, cv_99_44, cv_99_45, cv_99_46, ↓reduceIte, true_and, and_true, vok_int, vok_b0, vok_b1, vok_bb, r_backI, r_backV, bb_eq0, Nat.reduceAdd, Nat.reduceMul, Nat.reduceEqDiff, not_true_eq_false, not_false_eq_true, if_true, if_false, false_and, and_false, c17, c98, g8, e5, h5, e6]
        exact hgo
      · have e6 : ¬ ii n ≤ ii (rps T n (j + 1)) := by rw [ii_le (by omega) (by omega)]; exact hend
        have hg1 : rgo T n (j + 1) := by
          intro q hq
          by_cases eq : q = j
          · subst eq; exact ⟨⟨w, oc, hb⟩, by omega⟩
          · exact hg q (by omega)
        simp only [w86_52, w86_55, w86_58, w86_59, w86_62, w86_63, w86_66, w86_69, w86_70, isk_99, cv_99_0, cv_99_1, cv_99_2, cv_99_3, cv_99_4, cv_99_5, cv_99_6, cv_99_7, cv_99_8, cv_99_9, cv_99_10, cv_99_11, cv_99_12, cv_99_13, cv_99_14, cv_99_15, cv_99_16, cv_99_17, cv_99_18, cv_99_19, cv_99_20, cv_99_21, cv_99_22, cv_99_23, cv_99_24, cv_99_25, cv_99_26, cv_99_27, cv_99_28, cv_99_29, cv_99_30, cv_99_31, cv_99_32, cv_99_33, cv_99_34, cv_99_35, cv_99_36, cv_99_37, cv_99_38, cv_99_39, cv_99_40, cv_99_41, cv_99_42, cv_99_43, cv_99_44, cv_99_45, cv_99_46, ↓reduceIte, true_and, and_true, vok_int, vok_b0, vok_b1, vok_bb, r_backI, r_backV, bb_eq0, Nat.reduceAdd, Nat.reduceMul, Nat.reduceEqDiff, not_true_eq_false, not_false_eq_true, if_true, if_false, false_and, and_false, c17, c98, g8, e5, h5, e6]
        refine ih (j + 1) m1 (by have e9 : rps T n (j + 1) = (pR T n (rps T n j)).1 := rfl; omega) hg1 hm1 hmj e5 g8 _ _ _ _ (fun M hgo => ?_)
        simp only [↓reduceIte, true_and, and_true, vok_int, vok_b0, vok_b1, vok_bb, r_backI, r_backV, bb_eq0, Nat.reduceAdd, Nat.reduceMul, Nat.reduceEqDiff, not_true_eq_false, not_false_eq_true, if_true, if_false, false_and, and_false, c17, c98, w86_73]
        exact hgo
end
