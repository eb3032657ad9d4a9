/-! Fold.earliest. -/
def ob (b : Option Nat) : Int32 := match b with | none => -1 | some q => ii q
section
variable {d : Nat} {Q : im_O → im_M → Prop} {L : Nat} {xs : Nat → Int32} {mi : Nat → Nat → Int32} {rw : Nat → Nat} {o : Nat → Int64} {g z : Nat}
theorem c22L {F P q : Nat} {nx kn sp : Nat → Nat} {b : Option Nat} {w : Int32} {v : Value} (hF : it_isk 6 F = true) (hP : it_isa .int P = true) (hP0 : P ≠ 0) (hPl : it_ln L P = 3) (hq : q < 3) (hn : ∀ r, r < 3 → mi (F + 6) r = ii (nx r) ∧ nx r ≤ 16 ∧ mi P r = ii (kn r) ∧ kn r ≤ 16) (hs : ∀ r, r < 3 → nx r < kn r → mi 29 (16 * r + nx r) = ii (sp (16 * r + nx r)) ∧ sp (16 * r + nx r) < 1000)
    (hb : ∀ r, b = some r → r < 3 ∧ nx r < kn r ∧ w = ii (sp (16 * r + nx r)))
    (h : ∀ w' v', (∀ r, fb1 nx kn sp b q = some r → r < 3 ∧ nx r < kn r ∧ w' = ii (sp (16 * r + nx r))) → iw (d + 1) 22 8 [.ref F, .ref P, .ref 27, .int (ob (fb1 nx kn sp b q)), .int w', .int (ii (q + 1)), v'] [] (it_mem L xs mi rw o g z) Q) :
    iw (d + 1) 22 8 [.ref F, .ref P, .ref 27, .int (ob b), .int w, .int (ii q), v] [] (it_mem L xs mi rw o g z) Q := by
  obtain ⟨n1, n2, n3, n4⟩ := hn q hq
  have hcv : ∀ j, it_cv xs mi rw o P j = .int (mi P j) := fun j => it_cva hP0 hP (Or.inl rfl)
  have e : (ii q).toNatClampNeg = q := ii_clamp (by omega)
  have e3 : ¬ (3 : Int32) ≤ ii q := by rw [lit_3, ii_le (by decide) (by omega)]; omega
  have e1 : ii q + 1 = ii (q + 1) := ii_add (b := 1)
  have c1 : ii q * 16 + ii (nx q) = ii (16 * q + nx q) := by
    rw [lit_16, ii_mul, ii_add, Nat.mul_comm]
  have c2 : (ii (16 * q + nx q)).toNatClampNeg = 16 * q + nx q := ii_clamp (by omega)
  have b2 : it_inb L (F + 6) (ii q) := inb3 hq (lng_6_5 hF)
  have b3 : it_inb L P (ii q) := inb3 hq hPl
  rw [w22_8]
  by_cases hk : nx q < kn q
  · have e4 : ¬ ii (kn q) ≤ ii (nx q) := by rw [ii_le (by omega) (by omega)]; omega
    obtain ⟨s1, s2⟩ := hs q hq hk
    have b1 : it_inb L 29 (ii (16 * q + nx q)) := ii_inb (by omega) (by rw [ln_29]; omega)
    cases b with
    | none =>
      have hfb : fb1 nx kn sp none q = some q := by
        unfold fb1
        rw [if_pos hk]
      have hh := h (ii (sp (16 * q + nx q))) (.int (ii (sp (16 * q + nx q)))) (fun r hr => by rw [hfb] at hr; cases hr; exact ⟨hq, hk, rfl⟩)
      rw [hfb] at hh
      simp only [ob, w22_10, w22_11, w22_14, w22_15, w22_18, w22_20, w22_21, w22_22, w22_24, w22_25, w22_28, w22_29, w22_32, w22_34, w22_35, w22_38, w22_40, w22_41, w22_44, w22_45, w22_47, w22_48, w22_49, w22_52, w22_54, w22_56, w22_59, w22_61, w22_62, w22_64, w22_66, w22_69, isk_27, cv_27_0, cv_27_1, cv_27_2, cv_27_3, cv_27_4, cv_27_5, cv_27_6, isa_29, ln_29, cv_29, ↓reduceIte, true_and, and_true, vok_int, vok_b0, vok_b1, vok_bb, r_backI, r_backV, bb_eq0, Nat.reduceAdd, Nat.reduceMul, Nat.reduceEqDiff, not_true_eq_false, not_false_eq_true, if_true, if_false, false_and, and_false, c17, c98, e3, hF, hP, cvg_6_5 hF, isag_6_5 hF, cvag_6_5 hF, hcv, b1, b2, b3, e, n1, n3, e4, c20, c1, c2, s1, e1]
      exact hh
    | some r =>
      obtain ⟨r1, r2, r3⟩ := hb r rfl
      obtain ⟨t1, t2⟩ := hs r r1 r2
      have m1 : ¬ ii r = -1 := ii_m1 (by omega)
      by_cases hlt : sp (16 * q + nx q) < sp (16 * r + nx r)
      · have e5 : ¬ w ≤ ii (sp (16 * q + nx q)) := by rw [r3, ii_le (by omega) (by omega)]; omega
        have hfb2 : fb1 nx kn sp (some r) q = some q := by
          unfold fb1
          rw [if_pos hk]
          simp only
          rw [if_pos hlt]
        have hh := h (ii (sp (16 * q + nx q))) (.int (ii (sp (16 * q + nx q)))) (fun r hr => by rw [hfb2] at hr; cases hr; exact ⟨hq, hk, rfl⟩)
        rw [hfb2] at hh
        simp only [ob, w22_10, w22_11, w22_14, w22_15, w22_18, w22_20, w22_21, w22_22, w22_24, w22_25, w22_28, w22_29, w22_32, w22_34, w22_35, w22_38, w22_40, w22_41, w22_44, w22_45, w22_47, w22_48, w22_49, w22_52, w22_54, w22_56, w22_59, w22_61, w22_62, w22_64, w22_66, w22_69, isk_27, cv_27_0, cv_27_1, cv_27_2, cv_27_3, cv_27_4, cv_27_5, cv_27_6, isa_29, ln_29, cv_29, ↓reduceIte, true_and, and_true, vok_int, vok_b0, vok_b1, vok_bb, r_backI, r_backV, bb_eq0, Nat.reduceAdd, Nat.reduceMul, Nat.reduceEqDiff, not_true_eq_false, not_false_eq_true, if_true, if_false, false_and, and_false, c17, c98, e3, hF, hP, cvg_6_5 hF, isag_6_5 hF, cvag_6_5 hF, hcv, b1, b2, b3, e, n1, n3, e4, c20, c1, c2, s1, e1, m1, e5] at hh ⊢
        exact hh
      · have e5 : w ≤ ii (sp (16 * q + nx q)) := by rw [r3, ii_le (by omega) (by omega)]; omega
        have hfb2 : fb1 nx kn sp (some r) q = some r := by
          unfold fb1
          rw [if_pos hk]
          simp only
          rw [if_neg hlt]
        have hh := h w (.int (ii (sp (16 * q + nx q)))) (fun r' hr => by rw [hfb2] at hr; cases hr; exact ⟨r1, r2, r3⟩)
        rw [hfb2] at hh
        simp only [ob, w22_10, w22_11, w22_14, w22_15, w22_18, w22_20, w22_21, w22_22, w22_24, w22_25, w22_28, w22_29, w22_32, w22_34, w22_35, w22_38, w22_40, w22_41, w22_44, w22_45, w22_47, w22_48, w22_49, w22_52, w22_54, w22_56, w22_59, w22_61, w22_62, w22_64, w22_66, w22_69, isk_27, cv_27_0, cv_27_1, cv_27_2, cv_27_3, cv_27_4, cv_27_5, cv_27_6, isa_29, ln_29, cv_29, ↓reduceIte, true_and, and_true, vok_int, vok_b0, vok_b1, vok_bb, r_backI, r_backV, bb_eq0, Nat.reduceAdd, Nat.reduceMul, Nat.reduceEqDiff, not_true_eq_false, not_false_eq_true, if_true, if_false, false_and, and_false, c17, c98, e3, hF, hP, cvg_6_5 hF, isag_6_5 hF, cvag_6_5 hF, hcv, b1, b2, b3, e, n1, n3, e4, c20, c1, c2, s1, e1, m1, e5] at hh ⊢
        exact hh
  · have e4 : ii (kn q) ≤ ii (nx q) := by rw [ii_le (by omega) (by omega)]; omega
    have hfb : fb1 nx kn sp b q = b := by
      unfold fb1
      rw [if_neg hk]
    have hh := h w v (fun r hr => by rw [hfb] at hr; exact hb r hr)
    rw [hfb] at hh
    simp only [w22_10, w22_11, w22_14, w22_15, w22_18, w22_20, w22_21, w22_22, w22_24, w22_25, w22_28, w22_29, w22_32, w22_34, w22_35, w22_38, w22_40, w22_41, w22_44, w22_45, w22_47, w22_48, w22_49, w22_52, w22_54, w22_56, w22_59, w22_61, w22_62, w22_64, w22_66, w22_69, isk_27, cv_27_0, cv_27_1, cv_27_2, cv_27_3, cv_27_4, cv_27_5, cv_27_6, isa_29, ln_29, cv_29, ↓reduceIte, true_and, and_true, vok_int, vok_b0, vok_b1, vok_bb, r_backI, r_backV, bb_eq0, Nat.reduceAdd, Nat.reduceMul, Nat.reduceEqDiff, not_true_eq_false, not_false_eq_true, if_true, if_false, false_and, and_false, c17, c98, e3, hF, hP, cvg_6_5 hF, isag_6_5 hF, cvag_6_5 hF, hcv, b2, b3, e, n1, n3, e4, e1]
    exact hh
theorem c22 {F P : Nat} {nx kn sp : Nat → Nat} {v3 v4 v5 v6 : Value} (hF : it_isk 6 F = true) (hP : it_isa .int P = true) (hP0 : P ≠ 0) (hPl : it_ln L P = 3) (hn : ∀ r, r < 3 → mi (F + 6) r = ii (nx r) ∧ nx r ≤ 16 ∧ mi P r = ii (kn r) ∧ kn r ≤ 16) (hs : ∀ r, r < 3 → nx r < kn r → mi 29 (16 * r + nx r) = ii (sp (16 * r + nx r)) ∧ sp (16 * r + nx r) < 1000)
    (h : Q (.inl (some (.int (ob (fbest nx kn sp))))) (it_mem L xs mi rw o g z)) : iw (d + 1) 22 0 [.ref F, .ref P, .ref 27, v3, v4, v5, v6] [] (it_mem L xs mi rw o g z) Q := by
  have e0 : (0 : Int32) = ii 0 := rfl
  have e9 : (3 : Int32) ≤ ii (0 + 1 + 1 + 1) := by decide
  simp only [w22_0, w22_1, w22_2, w22_3, w22_5, w22_6]
  have h0 := c22L (d := d) (L := L) (xs := xs) (mi := mi) (rw := rw) (o := o) (g := g) (z := z) (Q := Q) (q := 0) (b := none) (w := 0) (v := v6) hF hP hP0 hPl (by decide) hn hs (fun r hr => by cases hr) (fun w1 v1 hb1 => c22L hF hP hP0 hPl (by decide) hn hs hb1 (fun w2 v2 hb2 => c22L hF hP hP0 hPl (by decide) hn hs hb2 (fun w3 v3 hb3 => by
    rw [w22_8]
    simp only [w22_10, w22_11, w22_72, w22_73, ↓reduceIte, true_and, and_true, vok_int, vok_b0, vok_b1, vok_bb, r_backI, r_backV, bb_eq0, Nat.reduceAdd, Nat.reduceMul, Nat.reduceEqDiff, not_true_eq_false, not_false_eq_true, if_true, if_false, false_and, and_false, c17, c98, e9]
    exact h)))
  exact h0
end
