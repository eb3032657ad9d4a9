/-! What a query finds, in its order. -/
def insF (pr : Nat → Int32) (i : Nat) : Nat → (Nat → Nat) → (Nat → Nat)
  | 0, f => va_up f 0 i
  | s + 1, f => if pr (f s) < pr i then insF pr i s (va_up f (s + 1) (f s)) else va_up f (s + 1) i
theorem insF_P {pr : Nat → Int32} {i : Nat} {P : Nat → Prop} (hi : P i) : ∀ (s K : Nat) (f : Nat → Nat), s ≤ K → (∀ j, j < s → P (f j)) → (∀ j, s < j → j ≤ K → P (f j)) → ∀ j, j ≤ K → P (insF pr i s f j) := by
  intro s
  induction s with
  | zero =>
    intro K f hs h1 h2 j hj
    show P (va_up f 0 i j)
    by_cases e : j = 0
    · subst e; rw [va_up_self]; exact hi
    · rw [va_up_ne _ _ e]; exact h2 j (by omega) hj
  | succ s ih =>
    intro K f hs h1 h2 j hj
    show P ((if pr (f s) < pr i then insF pr i s (va_up f (s + 1) (f s)) else va_up f (s + 1) i) j)
    by_cases h : pr (f s) < pr i
    · rw [if_pos h]
      refine ih K _ (by omega) (fun j hj => ?_) (fun j hj hj2 => ?_) j hj
      · rw [va_up_ne _ _ (by omega)]; exact h1 j (by omega)
      · by_cases e : j = s + 1
        · subst e; rw [va_up_self]; exact h1 s (by omega)
        · rw [va_up_ne _ _ e]; exact h2 j (by omega) hj2
    · rw [if_neg h]
      by_cases e : j = s + 1
      · subst e; rw [va_up_self]; exact hi
      · rw [va_up_ne _ _ e]
        by_cases e2 : j < s + 1
        · exact h1 j e2
        · exact h2 j (by omega) hj
/-- what is found among the first issues -/
noncomputable def srch (cond : Nat → Prop) (pr : Nat → Int32) : Nat → Nat × (Nat → Nat)
  | 0 => (0, fun _ => 0)
  | i + 1 => @ite _ (cond i) (Classical.propDecidable _) ((srch cond pr i).1 + 1, insF pr i (srch cond pr i).1 (srch cond pr i).2) (srch cond pr i)
theorem srch_t {cond : Nat → Prop} {pr : Nat → Int32} {i : Nat} (h : cond i) : srch cond pr (i + 1) = ((srch cond pr i).1 + 1, insF pr i (srch cond pr i).1 (srch cond pr i).2) := @if_pos _ (Classical.propDecidable _) h _ _ _
theorem srch_f {cond : Nat → Prop} {pr : Nat → Int32} {i : Nat} (h : ¬ cond i) : srch cond pr (i + 1) = srch cond pr i := @if_neg _ (Classical.propDecidable _) h _ _ _
theorem srch_ok {cond : Nat → Prop} {pr : Nat → Int32} : ∀ i, (srch cond pr i).1 ≤ i ∧ ∀ j, j < (srch cond pr i).1 → (srch cond pr i).2 j < i ∧ cond ((srch cond pr i).2 j) := by
  intro i
  induction i with
  | zero => exact ⟨Nat.le_refl _, fun j hj => absurd hj (Nat.not_lt_zero _)⟩
  | succ i ih =>
    obtain ⟨h1, h2⟩ := ih
    by_cases h : cond i
    · rw [srch_t h]
      refine ⟨by dsimp only; omega, fun j hj => ?_⟩
      have hP := insF_P (pr := pr) (i := i) (P := fun x => x < i + 1 ∧ cond x) ⟨Nat.lt_succ_self _, h⟩ (srch cond pr i).1 (srch cond pr i).1 (srch cond pr i).2 (Nat.le_refl _) (fun j hj => ⟨by have := (h2 j hj).1; omega, (h2 j hj).2⟩) (fun j h1 h2 => by omega) j (by dsimp only at hj; omega)
      exact hP
    · rw [srch_f h]
      exact ⟨by omega, fun j hj => ⟨by have := (h2 j hj).1; omega, (h2 j hj).2⟩⟩
section
variable {d : Nat} {Q : im_O → im_M → Prop} {L : Nat} {xs : Nat → Int32} {rw : Nat → Nat} {o : Nat → Int64} {g z : Nat}
theorem c80 {P K i : Nat} {pr : Nat → Int32} {f : Nat → Nat} {m0 : Nat → Nat → Int32} {v3 : Value} (hP : it_isa .int P = true) (hP0 : P ≠ 0) (hPl : it_ln L P = 48) (hP2 : P < 97) (hK : K < 48) (hi : i < 48) (h97 : m0 97 1 = ii K) (hpi : m0 P i = pr i) (hf : ∀ j, j < K → m0 98 j = ii (f j) ∧ f j < 48 ∧ m0 P (f j) = pr (f j))
    (hQ : ∀ m', (∀ a, a ≠ 97 → a ≠ 98 → m' a = m0 a) → m' 97 1 = ii (K + 1) → (∀ j, j ≤ K → m' 98 j = ii (insF pr i K f j)) → Q (.inl none) (it_mem L xs m' rw o g z)) :
    iw d 80 0 [.ref 97, .int (ii i), .ref P, v3] [] (it_mem L xs m0 rw o g z) Q := by
  have ei : (ii i).toNatClampNeg = i := ii_clamp (by omega)
  have bi : it_inb L P (ii i) := ii_inb (by omega) (by rw [hPl]; omega)
  have loop : ∀ (s : Nat) (f : Nat → Nat) (m : Nat → Nat → Int32), s ≤ K → (∀ a, a ≠ 98 → m a = m0 a) → (∀ j, j ≤ K → j ≠ s → m 98 j = ii (f j)) → (∀ j, j < s → f j < 48 ∧ m0 P (f j) = pr (f j)) →
      (∀ m', (∀ a, a ≠ 97 → a ≠ 98 → m' a = m0 a) → m' 97 1 = ii (K + 1) → (∀ j, j ≤ K → m' 98 j = ii (insF pr i s f j)) → Q (.inl none) (it_mem L xs m' rw o g z)) →
      iw d 80 5 [.ref 97, .int (ii i), .ref P, .int (ii s)] [] (it_mem L xs m rw o g z) Q := by
    intro s
    induction s with
    | zero =>
      intro f m hs hm hc hp hQ
      have e0 : ii 0 ≤ 0 := by decide
      have e1 : (ii 0).toNatClampNeg = 0 := rfl
      have b0 : it_inb L 98 (ii 0) := ii_inb (by decide) (by rw [ln_98]; decide)
      have n7 : ∀ j x, it_up m 98 j x 97 1 = ii K := fun j x => by rw [it_up_f _ _ _ (by decide), hm 97 (by decide)]; exact h97
      have e2 : ii K + 1 = ii (K + 1) := ii_add (b := 1)
      rw [w80_5]
      simp only [w80_6, w80_45, w80_46, w80_49, w80_50, w80_51, w80_52, w80_53, w80_54, w80_57, w80_58, w80_59, w80_62, isk_97, cv_97_0, cv_97_1, isa_98, ln_98, cv_98, ↓reduceIte, true_and, and_true, vok_int, vok_b0, vok_b1, vok_bb, r_backI, r_backV, bb_eq0, Nat.reduceAdd, Nat.reduceMul, Nat.reduceEqDiff, not_true_eq_false, not_false_eq_true, if_true, if_false, false_and, and_false, c17, c98, e0, e1, b0, n7, e2, Nat.reduceLeDiff]
      refine hQ _ (fun a h1 h2 => ?_) (it_up_same _ _ _ _) (fun j hj => ?_)
      · rw [it_up_f _ _ _ h1, it_up_f _ _ _ h2, hm a h2]
      · show _ = ii (va_up f 0 i j)
        rw [it_up_f _ _ _ (by decide), it_up_s]
        by_cases e : j = 0
        · subst e; rw [if_pos rfl, va_up_self]
        · rw [if_neg e, va_up_ne _ _ e]; exact hc j hj e
    | succ s ih =>
      intro f m hs hm hc hp hQ
      obtain ⟨p1, p2⟩ := hp s (by omega)
      have e0 : ¬ ii (s + 1) ≤ 0 := by rw [lit_0, ii_le (by omega) (by decide)]; omega
      have e1 : ii (s + 1) - 1 = ii s := by rw [lit_1, ii_sub (by omega)]; rfl
      have e2 : (ii s).toNatClampNeg = s := ii_clamp (by omega)
      have e3 : (ii (s + 1)).toNatClampNeg = s + 1 := ii_clamp (by omega)
      have e4 : ii (s + 1) + (-1) = ii s := by
        have : ii (s + 1) = ii s + 1 := (ii_add (b := 1)).symm
        rw [this, Int32.add_assoc, show (1 : Int32) + (-1) = 0 from by decide, Int32.add_zero]
      have e5 : (ii (f s)).toNatClampNeg = f s := ii_clamp (by omega)
      have b0 : it_inb L 98 (ii s) := ii_inb (by omega) (by rw [ln_98]; omega)
      have b1 : it_inb L 98 (ii (s + 1)) := ii_inb (by omega) (by rw [ln_98]; omega)
      have b2 : it_inb L P (ii (f s)) := ii_inb (by omega) (by rw [hPl]; omega)
      have hcv : ∀ j, it_cv xs m rw o P j = .int (m P j) := fun j => it_cva hP0 hP (Or.inl rfl)
      have c1 : m 98 s = ii (f s) := hc s (by omega) (by omega)
      have q1 : m P (f s) = pr (f s) := by rw [hm P (by omega)]; exact p2
      have q2 : m P i = pr i := by rw [hm P (by omega)]; exact hpi
      rw [w80_5]
      by_cases h : pr (f s) < pr i
      · have h' : ¬ pr i ≤ pr (f s) := i_nle.mpr h
        have hgo := ih (va_up f (s + 1) (f s)) (it_up m 98 (s + 1) (ii (f s))) (by omega) (fun a ha => by rw [it_up_f _ _ _ ha, hm a ha]) (fun j hj hne => by
          rw [it_up_s]
          by_cases e : j = s + 1
          · subst e; rw [if_pos rfl, va_up_self]
          · rw [if_neg e, va_up_ne _ _ e]; exact hc j hj e) (fun j hj => by rw [va_up_ne _ _ (by omega)]; exact hp j (by omega)) (fun m' g1 g2 g3 => hQ m' g1 g2 (fun j hj => by
          rw [show insF pr i (s + 1) f = insF pr i s (va_up f (s + 1) (f s)) from if_pos h]
          exact g3 j hj))
        simp only [w80_6, w80_9, w80_10, w80_11, w80_14, w80_15, w80_16, w80_17, w80_18, w80_19, w80_20, w80_21, w80_22, w80_25, w80_26, w80_29, w80_30, w80_31, w80_34, w80_35, w80_36, w80_37, w80_38, w80_39, w80_42, isk_97, cv_97_0, cv_97_1, isa_98, ln_98, cv_98, ↓reduceIte, true_and, and_true, vok_int, vok_b0, vok_b1, vok_bb, r_backI, r_backV, bb_eq0, Nat.reduceAdd, Nat.reduceMul, Nat.reduceEqDiff, not_true_eq_false, not_false_eq_true, if_true, if_false, false_and, and_false, c17, c98, e0, e1, e2, e3, e4, e5, b0, b1, b2, hP, hcv, c1, q1, q2, bi, ei, h', Nat.reduceLeDiff]
        exact hgo
      · have h' : pr i ≤ pr (f s) := i_nlt.mp h
        have n7 : ∀ j x, it_up m 98 j x 97 1 = ii K := fun j x => by rw [it_up_f _ _ _ (by decide), hm 97 (by decide)]; exact h97
        have e6 : ii K + 1 = ii (K + 1) := ii_add (b := 1)
        simp only [w80_6, w80_9, w80_10, w80_11, w80_14, w80_15, w80_16, w80_17, w80_18, w80_19, w80_20, w80_21, w80_22, w80_45, w80_46, w80_49, w80_50, w80_51, w80_52, w80_53, w80_54, w80_57, w80_58, w80_59, w80_62, isk_97, cv_97_0, cv_97_1, isa_98, ln_98, cv_98, ↓reduceIte, true_and, and_true, vok_int, vok_b0, vok_b1, vok_bb, r_backI, r_backV, bb_eq0, Nat.reduceAdd, Nat.reduceMul, Nat.reduceEqDiff, not_true_eq_false, not_false_eq_true, if_true, if_false, false_and, and_false, c17, c98, e0, e1, e2, e3, e5, b0, b1, b2, hP, hcv, c1, q1, q2, bi, ei, h', n7, e6, Nat.reduceLeDiff]
        refine hQ _ (fun a h1 h2 => ?_) (it_up_same _ _ _ _) (fun j hj => ?_)
        · rw [it_up_f _ _ _ h1, it_up_f _ _ _ h2, hm a h2]
        · rw [show insF pr i (s + 1) f = va_up f (s + 1) i from if_neg h, it_up_f _ _ _ (by decide), it_up_s]
          by_cases e : j = s + 1
          · subst e; rw [if_pos rfl, va_up_self]
          · rw [if_neg e, va_up_ne _ _ e]; exact hc j hj e
  simp only [w80_0, w80_1, w80_4, isk_97, cv_97_0, cv_97_1, ↓reduceIte, true_and, and_true, vok_int, vok_b0, vok_b1, vok_bb, r_backI, r_backV, bb_eq0, Nat.reduceAdd, Nat.reduceMul, Nat.reduceEqDiff, not_true_eq_false, not_false_eq_true, if_true, if_false, false_and, and_false, c17, c98, h97]
  exact loop K f m0 (Nat.le_refl _) (fun _ _ => rfl) (fun j hj hne => (hf j (by omega)).1) (fun j hj => (hf j hj).2) hQ
theorem c117 {K i : Nat} {pr : Nat → Int32} {f : Nat → Nat} {m0 : Nat → Nat → Int32} {v2 : Value} (hK : K < 48) (hi : i < 48) (h45 : m0 99 45 = ii K) (hpi : m0 128 i = pr i) (hf : ∀ j, j < K → m0 133 j = ii (f j) ∧ f j < 48 ∧ m0 128 (f j) = pr (f j))
    (hQ : ∀ m', (∀ a, a ≠ 99 → a ≠ 133 → m' a = m0 a) → (∀ k, k ≠ 45 → m' 99 k = m0 99 k) → m' 99 45 = ii (K + 1) → (∀ j, j ≤ K → m' 133 j = ii (insF pr i K f j)) → Q (.inl none) (it_mem L xs m' rw o g z)) :
    iw d 117 0 [.ref 99, .int (ii i), v2] [] (it_mem L xs m0 rw o g z) Q := by
  have ei : (ii i).toNatClampNeg = i := ii_clamp (by omega)
  have bi : it_inb L 128 (ii i) := ii_inb (by omega) (by rw [ln_128]; omega)
  have loop : ∀ (s : Nat) (f : Nat → Nat) (m : Nat → Nat → Int32), s ≤ K → (∀ a, a ≠ 133 → m a = m0 a) → (∀ j, j ≤ K → j ≠ s → m 133 j = ii (f j)) → (∀ j, j < s → f j < 48 ∧ m0 128 (f j) = pr (f j)) →
      (∀ m', (∀ a, a ≠ 99 → a ≠ 133 → m' a = m0 a) → (∀ k, k ≠ 45 → m' 99 k = m0 99 k) → m' 99 45 = ii (K + 1) → (∀ j, j ≤ K → m' 133 j = ii (insF pr i s f j)) → Q (.inl none) (it_mem L xs m' rw o g z)) →
      iw d 117 5 [.ref 99, .int (ii i), .int (ii s)] [] (it_mem L xs m rw o g z) Q := by
    intro s
    induction s with
    | zero =>
      intro f m hs hm hc hp hQ
      have e0 : ii 0 ≤ 0 := by decide
      have e1 : (ii 0).toNatClampNeg = 0 := rfl
      have b0 : it_inb L 133 (ii 0) := ii_inb (by decide) (by rw [ln_133]; decide)
      have n7 : ∀ j x, it_up m 133 j x 99 45 = ii K := fun j x => by rw [it_up_f _ _ _ (by decide), hm 99 (by decide)]; exact h45
      have e2 : ii K + 1 = ii (K + 1) := ii_add (b := 1)
      rw [w117_5]
      simp only [w117_6, w117_51, w117_52, w117_55, w117_56, w117_57, w117_58, w117_59, w117_60, w117_63, w117_64, w117_65, w117_68, isk_99, cv_99_0, cv_99_1, cv_99_2, cv_99_3, cv_99_4, cv_99_5, cv_99_6, cv_99_7, cv_99_8, cv_99_9, cv_99_10, cv_99_11, cv_99_12, cv_99_13, cv_99_14, cv_99_15, cv_99_16, cv_99_17, cv_99_18, cv_99_19, cv_99_20, cv_99_21, cv_99_22, cv_99_23, cv_99_24, cv_99_25, cv_99_26, cv_99_27, cv_99_28, cv_99_29, cv_99_30, cv_99_31, cv_99_32, cv_99_33, cv_99_34, cv_99_35, cv_99_36, cv_99_37, cv_99_38, cv_99_39, cv_99_40, cv_99_41, cv_99_42, cv_99_43, cv_99_44, cv_99_45, cv_99_46, isa_133, ln_133, cv_133, ↓reduceIte, true_and, and_true, vok_int, vok_b0, vok_b1, vok_bb, r_backI, r_backV, bb_eq0, Nat.reduceAdd, Nat.reduceMul, Nat.reduceEqDiff, not_true_eq_false, not_false_eq_true, if_true, if_false, false_and, and_false, c17, c98, e0, e1, b0, n7, e2, Nat.reduceLeDiff]
      refine hQ _ (fun a h1 h2 => ?_) (fun k hk => ?_) (it_up_same _ _ _ _) (fun j hj => ?_)
      · rw [it_up_f _ _ _ h1, it_up_f _ _ _ h2, hm a h2]
      · rw [it_up_s, if_neg hk, it_up_f _ _ _ (by decide), hm 99 (by decide)]
      · show _ = ii (va_up f 0 i j)
        rw [it_up_f _ _ _ (by decide), it_up_s]
        by_cases e : j = 0
        · subst e; rw [if_pos rfl, va_up_self]
        · rw [if_neg e, va_up_ne _ _ e]; exact hc j hj e
    | succ s ih =>
      intro f m hs hm hc hp hQ
      obtain ⟨p1, p2⟩ := hp s (by omega)
      have e0 : ¬ ii (s + 1) ≤ 0 := by rw [lit_0, ii_le (by omega) (by decide)]; omega
      have e1 : ii (s + 1) - 1 = ii s := by rw [lit_1, ii_sub (by omega)]; rfl
      have e2 : (ii s).toNatClampNeg = s := ii_clamp (by omega)
      have e3 : (ii (s + 1)).toNatClampNeg = s + 1 := ii_clamp (by omega)
      have e4 : ii (s + 1) + (-1) = ii s := by
        have : ii (s + 1) = ii s + 1 := (ii_add (b := 1)).symm
        rw [this, Int32.add_assoc, show (1 : Int32) + (-1) = 0 from by decide, Int32.add_zero]
      have e5 : (ii (f s)).toNatClampNeg = f s := ii_clamp (by omega)
      have b0 : it_inb L 133 (ii s) := ii_inb (by omega) (by rw [ln_133]; omega)
      have b1 : it_inb L 133 (ii (s + 1)) := ii_inb (by omega) (by rw [ln_133]; omega)
      have b2 : it_inb L 128 (ii (f s)) := ii_inb (by omega) (by rw [ln_128]; omega)
      have c1 : m 133 s = ii (f s) := hc s (by omega) (by omega)
      have q1 : m 128 (f s) = pr (f s) := by rw [hm 128 (by decide)]; exact p2
      have q2 : m 128 i = pr i := by rw [hm 128 (by decide)]; exact hpi
      rw [w117_5]
      by_cases h : pr (f s) < pr i
      · have h' : ¬ pr i ≤ pr (f s) := i_nle.mpr h
        have hgo := ih (va_up f (s + 1) (f s)) (it_up m 133 (s + 1) (ii (f s))) (by omega) (fun a ha => by rw [it_up_f _ _ _ ha, hm a ha]) (fun j hj hne => by
          rw [it_up_s]
          by_cases e : j = s + 1
          · subst e; rw [if_pos rfl, va_up_self]
          · rw [if_neg e, va_up_ne _ _ e]; exact hc j hj e) (fun j hj => by rw [va_up_ne _ _ (by omega)]; exact hp j (by omega)) (fun m' g1 g9 g2 g3 => hQ m' g1 g9 g2 (fun j hj => by
          rw [show insF pr i (s + 1) f = insF pr i s (va_up f (s + 1) (f s)) from if_pos h]
          exact g3 j hj))
        simp only [w117_6, w117_9, w117_10, w117_13, w117_14, w117_17, w117_18, w117_19, w117_20, w117_21, w117_22, w117_23, w117_26, w117_27, w117_28, w117_31, w117_32, w117_35, w117_36, w117_37, w117_40, w117_41, w117_42, w117_43, w117_44, w117_45, w117_48, isk_99, cv_99_0, cv_99_1, cv_99_2, cv_99_3, cv_99_4, cv_99_5, cv_99_6, cv_99_7, cv_99_8, cv_99_9, cv_99_10, cv_99_11, cv_99_12, cv_99_13, cv_99_14, cv_99_15, cv_99_16, cv_99_17, cv_99_18, cv_99_19, cv_99_20, cv_99_21, cv_99_22, cv_99_23, cv_99_24, cv_99_25, cv_99_26, cv_99_27, cv_99_28, cv_99_29, cv_99_30, cv_99_31, cv_99_32, cv_99_33, cv_99_34, cv_99_35, cv_99_36, cv_99_37, cv_99_38, cv_99_39, cv_99_40, cv_99_41, cv_99_42, cv_99_43, cv_99_44, cv_99_45, cv_99_46, isa_128, ln_128, cv_128, isa_133, ln_133, cv_133, ↓reduceIte, true_and, and_true, vok_int, vok_b0, vok_b1, vok_bb, r_backI, r_backV, bb_eq0, Nat.reduceAdd, Nat.reduceMul, Nat.reduceEqDiff, not_true_eq_false, not_false_eq_true, if_true, if_false, false_and, and_false, c17, c98, e0, e1, e2, e3, e4, e5, b0, b1, b2, c1, q1, q2, bi, ei, h', Nat.reduceLeDiff]
        exact hgo
      · have h' : pr i ≤ pr (f s) := i_nlt.mp h
        have n7 : ∀ j x, it_up m 133 j x 99 45 = ii K := fun j x => by rw [it_up_f _ _ _ (by decide), hm 99 (by decide)]; exact h45
        have e6 : ii K + 1 = ii (K + 1) := ii_add (b := 1)
        simp only [w117_6, w117_9, w117_10, w117_13, w117_14, w117_17, w117_18, w117_19, w117_20, w117_21, w117_22, w117_23, w117_26, w117_27, w117_28, w117_51, w117_52, w117_55, w117_56, w117_57, w117_58, w117_59, w117_60, w117_63, w117_64, w117_65, w117_68, isk_99, cv_99_0, cv_99_1, cv_99_2, cv_99_3, cv_99_4, cv_99_5, cv_99_6, cv_99_7, cv_99_8, cv_99_9, cv_99_10, cv_99_11, cv_99_12, cv_99_13, cv_99_14, cv_99_15, cv_99_16, cv_99_17, cv_99_18, cv_99_19, cv_99_20, cv_99_21, cv_99_22, cv_99_23, cv_99_24, cv_99_25, cv_99_26, cv_99_27, cv_99_28, cv_99_29, cv_99_30, cv_99_31, cv_99_32, cv_99_33, cv_99_34, cv_99_35, cv_99_36, cv_99_37, cv_99_38, cv_99_39, cv_99_40, cv_99_41, cv_99_42, cv_99_43, cv_99_44, cv_99_45, cv_99_46, isa_128, ln_128, cv_128, isa_133, ln_133, cv_133, ↓reduceIte, true_and, and_true, vok_int, vok_b0, vok_b1, vok_bb, r_backI, r_backV, bb_eq0, Nat.reduceAdd, Nat.reduceMul, Nat.reduceEqDiff, not_true_eq_false, not_false_eq_true, if_true, if_false, false_and, and_false, c17, c98, e0, e1, e2, e3, e5, b0, b1, b2, c1, q1, q2, bi, ei, h', n7, e6, Nat.reduceLeDiff]
        refine hQ _ (fun a h1 h2 => ?_) (fun k hk => ?_) (it_up_same _ _ _ _) (fun j hj => ?_)
        · rw [it_up_f _ _ _ h1, it_up_f _ _ _ h2, hm a h2]
        · rw [it_up_s, if_neg hk, it_up_f _ _ _ (by decide), hm 99 (by decide)]
        · rw [show insF pr i (s + 1) f = va_up f (s + 1) i from if_neg h, it_up_f _ _ _ (by decide), it_up_s]
          by_cases e : j = s + 1
          · subst e; rw [if_pos rfl, va_up_self]
          · rw [if_neg e, va_up_ne _ _ e]; exact hc j hj e
  simp only [w117_0, w117_1, w117_4, isk_99, cv_99_0, cv_99_1, cv_99_2, cv_99_3, cv_99_4, cv_99_5, cv_99_6, cv_99_7, cv_99_8, cv_99_9, cv_99_10, cv_99_11, cv_99_12, cv_99_13, cv_99_14, cv_99_15, cv_99_16, cv_99_17, cv_99_18, cv_99_19, cv_99_20, cv_99_21, cv_99_22, cv_99_23, cv_99_24, cv_99_25, cv_99_26, cv_99_27, cv_99_28, cv_99_29, cv_99_30, cv_99_31, cv_99_32, cv_99_33, cv_99_34, cv_99_35, cv_99_36, cv_99_37, cv_99_38, cv_99_39, cv_99_40, cv_99_41, cv_99_42, cv_99_43, cv_99_44, cv_99_45, cv_99_46, ↓reduceIte, true_and, and_true, vok_int, vok_b0, vok_b1, vok_bb, r_backI, r_backV, bb_eq0, Nat.reduceAdd, Nat.reduceMul, Nat.reduceEqDiff, not_true_eq_false, not_false_eq_true, if_true, if_false, false_and, and_false, c17, c98, h45]
  exact loop K f m0 (Nat.le_refl _) (fun _ _ => rfl) (fun j hj hne => (hf j (by omega)).1) (fun j hj => (hf j hj).2) hQ
/-- Finds.search -/
theorem c79 {F e : Nat} {S : FST} {D : Nat → Prop} {cq : Int32 → Int32 → Int32 → Prop} {m0 : Nat → Nat → Int32} {v3 : Value} (hF : it_isk 6 F = true) (hF2 : 41 ≤ F) (hF3 : F ≤ 69) (he : e ≤ 40) (hsz : m0 13 2 = ii e) (hS : it_FR F 48 m0 S D) (hq : ∀ st pr ow ac ro, hC (m0 14) (m0 15) st pr ow ac ro 0 e ↔ cq st pr ow) (h97 : m0 97 1 = 0)
    (hQ : ∀ m', (∀ a, a ≠ 97 → a ≠ 98 → a ≠ F + 7 → m' a = m0 a) → m' 97 1 = ii (srch (fun i => S.1 i ≠ 0 ∧ cq (S.2.1 i) (S.2.2.1 i) (S.2.2.2.1 i)) S.2.2.1 48).1 → (∀ j, j < (srch (fun i => S.1 i ≠ 0 ∧ cq (S.2.1 i) (S.2.2.1 i) (S.2.2.2.1 i)) S.2.2.1 48).1 → m' 98 j = ii ((srch (fun i => S.1 i ≠ 0 ∧ cq (S.2.1 i) (S.2.2.1 i) (S.2.2.2.1 i)) S.2.2.1 48).2 j)) → Q (.inl none) (it_mem L xs m' rw o g z)) :
    iw (d + 2) 79 0 [.ref 97, .ref F, .ref 13, v3] [] (it_mem L xs m0 rw o g z) Q := by
  have loop : ∀ (n i : Nat) (m : Nat → Nat → Int32), i + n = 48 → (∀ a, a ≠ 97 → a ≠ 98 → a ≠ F + 7 → m a = m0 a) → m 97 1 = ii (srch (fun i => S.1 i ≠ 0 ∧ cq (S.2.1 i) (S.2.2.1 i) (S.2.2.2.1 i)) S.2.2.1 i).1 → (∀ j, j < (srch (fun i => S.1 i ≠ 0 ∧ cq (S.2.1 i) (S.2.2.1 i) (S.2.2.2.1 i)) S.2.2.1 i).1 → m 98 j = ii ((srch (fun i => S.1 i ≠ 0 ∧ cq (S.2.1 i) (S.2.2.1 i) (S.2.2.2.1 i)) S.2.2.1 i).2 j)) →
      iw (d + 2) 79 2 [.ref 97, .ref F, .ref 13, .int (ii i)] [] (it_mem L xs m rw o g z) Q := by
    intro n
    induction n with
    | zero =>
      intro i m hi hm h1 h2
      obtain rfl : i = 48 := by omega
      have e1 : (48 : Int32) ≤ ii 48 := by decide
      rw [w79_2]
      simp only [w79_3, w79_5, w79_48, ↓reduceIte, true_and, and_true, vok_int, vok_b0, vok_b1, vok_bb, r_backI, r_backV, bb_eq0, Nat.reduceAdd, Nat.reduceMul, Nat.reduceEqDiff, not_true_eq_false, not_false_eq_true, if_true, if_false, false_and, and_false, c17, c98, e1]
      exact hQ m hm h1 h2
    | succ n ih =>
      intro i m hi hm h1 h2
      have hi48 : i < 48 := by omega
      have e1 : ¬ (48 : Int32) ≤ ii i := by rw [lit_48, ii_le (by decide) (by omega)]; omega
      have e2 : ii i + 1 = ii (i + 1) := ii_add (b := 1)
      obtain ⟨o1, o2⟩ := srch_ok (cond := fun i => S.1 i ≠ 0 ∧ cq (S.2.1 i) (S.2.2.1 i) (S.2.2.2.1 i)) (pr := S.2.2.1) i
      obtain ⟨f1, f2, f3⟩ := hS.1 i hi48
      have g1 : m (F + 4) i = ii (S.1 i) := by rw [hm (F + 4) (by omega) (by omega) (by omega)]; exact f1
      rw [w79_2]
      by_cases h0 : S.1 i = 0
      · have hz : ¬ 0 < m (F + 4) i := by rw [g1, h0]; decide
        have hgo := ih (i + 1) m (by omega) hm (by rw [srch_f (fun q => q.1 h0)]; exact h1) (by rw [srch_f (fun q => q.1 h0)]; exact h2)
        simp only [w79_3, w79_5, w79_8, w79_9, w79_10, w79_13, w79_16, w79_17, w79_18, w79_19, w79_22, w79_23, w79_24, w79_27, w79_30, w79_33, w79_34, w79_35, w79_36, w79_39, w79_42, w79_45, ↓reduceIte, true_and, and_true, vok_int, vok_b0, vok_b1, vok_bb, r_backI, r_backV, bb_eq0, Nat.reduceAdd, Nat.reduceMul, Nat.reduceEqDiff, not_true_eq_false, not_false_eq_true, if_true, if_false, false_and, and_false, c17, c98, e1, hF, c26 hF hi48, hz, e2]
        exact hgo
      · have hz : 0 < m (F + 4) i := by rw [g1]; exact (ii_lt (a := 0) (by decide) (by omega)).mpr (by omega)
        obtain ⟨f4, f5, f6⟩ := f3 h0
        have g2 : m (F + 1) i = S.2.1 i := by rw [hm (F + 1) (by omega) (by omega) (by omega)]; exact f4
        have g3 : m (F + 2) i = S.2.2.1 i := by rw [hm (F + 2) (by omega) (by omega) (by omega)]; exact f5
        have g4 : m (F + 3) i = S.2.2.2.1 i := by rw [hm (F + 3) (by omega) (by omega) (by omega)]; exact f6
        have hs13 : m 13 2 = ii e := by rw [hm 13 (by decide) (by decide) (by omega)]; exact hsz
        have h29 := fun (Q : im_O → im_M → Prop) => c29 (d := d) (L := L) (xs := xs) (mi := it_up (it_up (it_up m (F + 7) 0 (S.2.1 i)) (F + 7) 1 (S.2.2.1 i)) (F + 7) 2 (S.2.2.2.1 i)) (rw := rw) (o := o) (g := g) (z := z) (Q := Q) (a := 13) (s := F + 7) (b := 0) (e := e) (v4 := .retAddr 0) (v5 := .retAddr 0) (v6 := .retAddr 0) isk_13 (iskg_6_6 hF) (Nat.zero_le _) (by rw [show it_ln L (13 + 1) = 40 from rfl]; exact he) rfl (by omega)
        have n13 : ∀ X j x, it_up X (F + 7) j x 13 = X 13 := fun X j x => it_up_f _ _ _ (by omega)
        have n14 : ∀ X j x, it_up X (F + 7) j x 14 = X 14 := fun X j x => it_up_f _ _ _ (by omega)
        have n15 : ∀ X j x, it_up X (F + 7) j x 15 = X 15 := fun X j x => it_up_f _ _ _ (by omega)
        have q14 : m 14 = m0 14 := hm 14 (by decide) (by decide) (by omega)
        have q15 : m 15 = m0 15 := hm 15 (by decide) (by decide) (by omega)
        have z0 : ii 0 = 0 := rfl
        simp only [it_up_s, Nat.reduceEqDiff, if_true, if_false, Nat.reduceAdd, n14, n15, q14, q15, hq, z0] at h29
        have hfm : ∀ a, a ≠ 97 → a ≠ 98 → a ≠ F + 7 → it_up (it_up (it_up m (F + 7) 0 (S.2.1 i)) (F + 7) 1 (S.2.2.1 i)) (F + 7) 2 (S.2.2.2.1 i) a = m0 a := fun a q1 q2 q3 => by rw [it_up_f _ _ _ q3, it_up_f _ _ _ q3, it_up_f _ _ _ q3, hm a q1 q2 q3]
        have hm97 : it_up (it_up (it_up m (F + 7) 0 (S.2.1 i)) (F + 7) 1 (S.2.2.1 i)) (F + 7) 2 (S.2.2.2.1 i) 97 = m 97 := by rw [it_up_f _ _ _ (by omega), it_up_f _ _ _ (by omega), it_up_f _ _ _ (by omega)]
        have hm98 : it_up (it_up (it_up m (F + 7) 0 (S.2.1 i)) (F + 7) 1 (S.2.2.1 i)) (F + 7) 2 (S.2.2.2.1 i) 98 = m 98 := by rw [it_up_f _ _ _ (by omega), it_up_f _ _ _ (by omega), it_up_f _ _ _ (by omega)]
        by_cases hc : cq (S.2.1 i) (S.2.2.1 i) (S.2.2.2.1 i)
        · have hgo : ∀ m', (∀ a, a ≠ 97 → a ≠ 98 → m' a = it_up (it_up (it_up m (F + 7) 0 (S.2.1 i)) (F + 7) 1 (S.2.2.1 i)) (F + 7) 2 (S.2.2.2.1 i) a) → m' 97 1 = ii ((srch (fun i => S.1 i ≠ 0 ∧ cq (S.2.1 i) (S.2.2.1 i) (S.2.2.2.1 i)) S.2.2.1 i).1 + 1) → (∀ j, j ≤ (srch (fun i => S.1 i ≠ 0 ∧ cq (S.2.1 i) (S.2.2.1 i) (S.2.2.2.1 i)) S.2.2.1 i).1 → m' 98 j = ii (insF S.2.2.1 i (srch (fun i => S.1 i ≠ 0 ∧ cq (S.2.1 i) (S.2.2.1 i) (S.2.2.2.1 i)) S.2.2.1 i).1 (srch (fun i => S.1 i ≠ 0 ∧ cq (S.2.1 i) (S.2.2.1 i) (S.2.2.2.1 i)) S.2.2.1 i).2 j)) → iw (d + 2) 79 2 [.ref 97, .ref F, .ref 13, .int (ii (i + 1))] [] (it_mem L xs m' rw o g z) Q := by
            intro m' k1 k2 k3
            refine ih (i + 1) m' (by omega) (fun a q1 q2 q3 => by rw [k1 a q1 q2, hfm a q1 q2 q3]) ?_ ?_
            · rw [srch_t ⟨h0, hc⟩]; exact k2
            · rw [srch_t ⟨h0, hc⟩]
              intro j hj
              exact k3 j (by dsimp only at hj; omega)
          simp only [w79_3, w79_5, w79_8, w79_9, w79_10, w79_13, w79_16, w79_17, w79_18, w79_19, w79_22, w79_23, w79_24, w79_27, w79_30, w79_33, w79_34, w79_35, w79_36, w79_39, isk_13, cv_13_0, cv_13_1, cv_13_2, isk_97, cv_97_0, cv_97_1, ↓reduceIte, true_and, and_true, vok_int, vok_b0, vok_b1, vok_bb, r_backI, r_backV, bb_eq0, Nat.reduceAdd, Nat.reduceMul, Nat.reduceEqDiff, not_true_eq_false, not_false_eq_true, if_true, if_false, false_and, and_false, c17, c98, e1, hF, c26 hF hi48, hz, hs13, c27 hF hi48, iskg_6_6 hF, g2, g3, g4, h29, eq_true hc, cvg_6_1 hF, n13]
          refine c80 (P := F + 2) (K := (srch (fun i => S.1 i ≠ 0 ∧ cq (S.2.1 i) (S.2.2.1 i) (S.2.2.2.1 i)) S.2.2.1 i).1) (pr := S.2.2.1) (f := (srch (fun i => S.1 i ≠ 0 ∧ cq (S.2.1 i) (S.2.2.1 i) (S.2.2.2.1 i)) S.2.2.1 i).2) (isag_6_1 hF) (by omega) (lng_6_1 hF) (by omega) (by omega) hi48 (by rw [hm97]; exact h1) ?_ (fun j hj => ?_) (fun m' k1 k2 k3 => ?_)
          · rw [hfm (F + 2) (by omega) (by omega) (by omega)]; exact f5
          · obtain ⟨s1, s2, s3⟩ := o2 j hj
            refine ⟨by rw [hm98]; exact h2 j hj, by omega, ?_⟩
            rw [hfm (F + 2) (by omega) (by omega) (by omega)]
            exact ((hS.1 _ (by omega)).2.2 s2).2.1
          · simp only [↓reduceIte, true_and, and_true, vok_int, vok_b0, vok_b1, vok_bb, r_backI, r_backV, bb_eq0, Nat.reduceAdd, Nat.reduceMul, Nat.reduceEqDiff, not_true_eq_false, not_false_eq_true, if_true, if_false, false_and, and_false, c17, c98, w79_42, w79_45, e2]
            exact hgo m' k1 k2 k3
        · have hgo := ih (i + 1) (it_up (it_up (it_up m (F + 7) 0 (S.2.1 i)) (F + 7) 1 (S.2.2.1 i)) (F + 7) 2 (S.2.2.2.1 i)) (by omega) hfm (by rw [srch_f (fun q => hc q.2), hm97]; exact h1) (by rw [srch_f (fun q => hc q.2), hm98]; exact h2)
          simp only [w79_3, w79_5, w79_8, w79_9, w79_10, w79_13, w79_16, w79_17, w79_18, w79_19, w79_22, w79_23, w79_24, w79_27, w79_30, w79_33, w79_34, w79_35, w79_36, w79_39, w79_42, w79_45, isk_13, cv_13_0, cv_13_1, cv_13_2, isk_97, cv_97_0, cv_97_1, ↓reduceIte, true_and, and_true, vok_int, vok_b0, vok_b1, vok_bb, r_backI, r_backV, bb_eq0, Nat.reduceAdd, Nat.reduceMul, Nat.reduceEqDiff, not_true_eq_false, not_false_eq_true, if_true, if_false, false_and, and_false, c17, c98, e1, hF, c26 hF hi48, hz, hs13, c27 hF hi48, iskg_6_6 hF, g2, g3, g4, h29, eq_false hc, e2]
          exact hgo
  simp only [w79_0, w79_1]
  exact loop 48 0 m0 (by decide) (fun _ _ _ _ => rfl) h97 (fun j hj => absurd hj (Nat.not_lt_zero _))
end
