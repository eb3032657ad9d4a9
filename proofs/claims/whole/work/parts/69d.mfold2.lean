/-! The reference's fold, from its beginning. -/
section
variable {d : Nat} {Q : im_O → im_M → Prop} {L : Nat} {xs : Nat → Int32} {rw : Nat → Nat} {o : Nat → Int64} {g z : Nat}
theorem c102A {p : Nat} {mi : Nat → Nat → Int32} {v3 v4 v5 v6 : Value} : ∀ (n t : Nat), t + n = 48 → (iw d 102 2 [.ref 99, .int (ii p), .int (ii t), v3, v4, v5, v6] [] (it_mem L xs (fun a b => if a = 126 ∧ b < t then 0 else mi a b) rw o g z) Q ↔ iw d 102 21 [.ref 99, .int (ii p), .int (ii 48), v3, v4, v5, v6] [] (it_mem L xs (fun a b => if a = 126 ∧ b < 48 then 0 else mi a b) rw o g z) Q) := by
  intro n
  induction n with
  | zero =>
    intro t ht
    have et : t = 48 := by omega
    subst et
    have e1 : (48 : Int32) ≤ ii 48 := by decide
    rw [w102_2]
    simp only [w102_3, w102_5, ↓reduceIte, true_and, and_true, vok_int, vok_b0, vok_b1, vok_bb, r_backI, r_backV, bb_eq0, Nat.reduceAdd, Nat.reduceMul, Nat.reduceEqDiff, not_true_eq_false, not_false_eq_true, if_true, if_false, false_and, and_false, c17, c98, e1]
  | succ n ih =>
    intro t ht
    have e1 : ¬ (48 : Int32) ≤ ii t := by rw [lit_48, ii_le (by decide) (by omega)]; omega
    have e2 : ii t + 1 = ii (t + 1) := ii_add (b := 1)
    have e3 : (ii t).toNatClampNeg = t := ii_clamp (by omega)
    have b1 : it_inb L 126 (ii t) := ii_inb (by omega) (by rw [ln_126]; omega)
    have v0 : vp_nar .boolean (0 : Int32) = 0 := rfl
    have em : it_up (fun a b => if a = 126 ∧ b < t then 0 else mi a b) 126 t 0 = fun a b => if a = 126 ∧ b < t + 1 then 0 else mi a b := by
      funext a b
      rw [it_up_app]
      by_cases h : a = 126 ∧ b = t
      · rw [if_pos h, if_pos (by omega)]
      · rw [if_neg h]
        by_cases h2 : a = 126 ∧ b < t
        · rw [if_pos h2, if_pos (by omega)]
        · rw [if_neg h2, if_neg (by omega)]
    rw [← ih (t + 1) (by omega), w102_2]
    simp only [w102_3, w102_5, w102_8, w102_9, w102_12, w102_13, w102_14, w102_15, w102_18, isk_99, cv_99_0, cv_99_1, cv_99_2, cv_99_3, cv_99_4, cv_99_5, cv_99_6, cv_99_7, cv_99_8, cv_99_9, cv_99_10, cv_99_11, cv_99_12, cv_99_13, cv_99_14, cv_99_15, cv_99_16, cv_99_17, cv_99_18, cv_99_19, cv_99_20, cv_99_21, cv_99_22, cv_99_23, cv_99_24, cv_99_25, cv_99_26, cv_99_27, cv_99_28, cv_99_29, cv_99_30, cv_99_31, cv_99_32, cv_99_33, cv_99_34, cv_99_35, cv_99_36, cv_99_37, cv_99_38, cv_99_39, cv_99_40, cv_99_41, cv_99_42, cv_99_43, cv_99_44, cv_99_45, cv_99_46, isa_126, ln_126, cv_126, ↓reduceIte, true_and, and_true, vok_int, vok_b0, vok_b1, vok_bb, r_backI, r_backV, bb_eq0, Nat.reduceAdd, Nat.reduceMul, Nat.reduceEqDiff, not_true_eq_false, not_false_eq_true, if_true, if_false, false_and, and_false, c17, c98, e1, b1, e3, v0, em, e2, Nat.reduceLeDiff]
theorem c102 {p : Nat} {kn sp : Nat → Nat} {E : EVT} {A : LWT} {W : (Nat → Nat → Int32) → Prop} {mi : Nat → Nat → Int32} {S0 : FST} {v2 v3 v4 v5 v6 : Value} (h0 : S0.1 = fun _ => 0) (h105 : it_h105 A W) (hp : p < 3) (hn : ∀ r, r < 3 → mi 119 (3 * p + r) = ii (kn r) ∧ kn r ≤ 16)
    (hs : ∀ r j, r < 3 → j < kn r → mi 115 (16 * r + j) = ii (sp (16 * r + j)) ∧ sp (16 * r + j) < 1000 ∧ it_evt E mi 114 116 117 118 (16 * r + j) ∧ (E.1 (16 * r + j) = 0 → E.2.2.1 (16 * r + j) = 16 * r + j)) (hAW : kn 0 + kn 1 + kn 2 ≠ 0 → it_lwM A mi ∧ W mi)
    (hQ : ∀ mi', (∀ a, a < 104 ∨ (107 ≤ a ∧ a ≤ 125) ∨ 133 ≤ a → mi' a = mi a) → it_MR 48 mi' (List.foldl (fstep E A) S0 (ford kn sp 48 (fun _ => 0))) (fun e => e ∈ ford kn sp 48 (fun _ => 0)) → Q (.inl none) (it_mem L xs mi' rw o g z)) :
    iw (d + 6) 102 0 [.ref 99, .int (ii p), v2, v3, v4, v5, v6] [] (it_mem L xs mi rw o g z) Q := by
  have e0 : (0 : Int32) = ii 0 := rfl
  have ez : (fun a b => if a = 126 ∧ b < 0 then 0 else mi a b) = mi := by
    funext a b
    rw [if_neg (by omega)]
  have hA1 := c102A (d := d + 6) (L := L) (xs := xs) (rw := rw) (o := o) (g := g) (z := z) (Q := Q) (p := p) (mi := mi) (v3 := v3) (v4 := v4) (v5 := v5) (v6 := v6) 48 0 (by omega)
  rw [ez] at hA1
  have hbeg : iw (d + 6) 102 0 [.ref 99, .int (ii p), v2, v3, v4, v5, v6] [] (it_mem L xs mi rw o g z) Q ↔ iw (d + 6) 102 2 [.ref 99, .int (ii p), .int (ii 0), v3, v4, v5, v6] [] (it_mem L xs mi rw o g z) Q := by
    simp only [w102_0, w102_1]
    exact Iff.rfl
  rw [hbeg, hA1]
  obtain ⟨k0', l0⟩ := hn 0 (by decide)
  obtain ⟨k1', l1⟩ := hn 1 (by decide)
  obtain ⟨k2', l2⟩ := hn 2 (by decide)
  rw [Nat.add_zero] at k0'
  have x0 : (3 : Int32) * ii p + 0 = ii (3 * p) := by rw [lit_3, ii_mul, e0, ii_add]; rfl
  have x1 : (3 : Int32) * ii p + 1 = ii (3 * p + 1) := by rw [lit_3, ii_mul, lit_1, ii_add]
  have x2 : (3 : Int32) * ii p + 2 = ii (3 * p + 2) := by rw [lit_3, ii_mul, lit_2, ii_add]
  have y0 : (ii (3 * p)).toNatClampNeg = 3 * p := ii_clamp (by omega)
  have y1 : (ii (3 * p + 1)).toNatClampNeg = 3 * p + 1 := ii_clamp (by omega)
  have y2 : (ii (3 * p + 2)).toNatClampNeg = 3 * p + 2 := ii_clamp (by omega)
  have z0 : (0 : Int32) + ii (kn 0) = ii (kn 0) := by rw [e0, ii_add, Nat.zero_add]
  have b0 : it_inb L 119 (ii (3 * p)) := ii_inb (by omega) (by rw [ln_119]; omega)
  have b1 : it_inb L 119 (ii (3 * p + 1)) := ii_inb (by omega) (by rw [ln_119]; omega)
  have b2 : it_inb L 119 (ii (3 * p + 2)) := ii_inb (by omega) (by rw [ln_119]; omega)
  have m1 : ∀ X j x, it_up X 132 j x 119 = X 119 := fun X j x => it_up_f _ _ _ (by decide)
  have m2 : ∀ b, (if 119 = 126 ∧ b < 48 then (0 : Int32) else mi 119 b) = mi 119 b := fun b => if_neg (by omega)
  simp only [w102_21, w102_22, w102_23, w102_24, w102_25, w102_26, w102_27, w102_30, w102_31, w102_34, w102_35, w102_36, w102_37, w102_38, w102_39, w102_42, w102_43, w102_44, w102_45, w102_46, w102_47, w102_48, w102_49, w102_50, w102_53, w102_56, w102_57, isk_99, cv_99_0, cv_99_1, cv_99_2, cv_99_3, cv_99_4, cv_99_5, cv_99_6, cv_99_7, cv_99_8, cv_99_9, cv_99_10, cv_99_11, cv_99_12, cv_99_13, cv_99_14, cv_99_15, cv_99_16, cv_99_17, cv_99_18, cv_99_19, cv_99_20, cv_99_21, cv_99_22, cv_99_23, cv_99_24, cv_99_25, cv_99_26, cv_99_27, cv_99_28, cv_99_29, cv_99_30, cv_99_31, cv_99_32, cv_99_33, cv_99_34, cv_99_35, cv_99_36, cv_99_37, cv_99_38, cv_99_39, cv_99_40, cv_99_41, cv_99_42, cv_99_43, cv_99_44, cv_99_45, cv_99_46, isa_119, ln_119, cv_119, isa_132, ln_132, cv_132, ↓reduceIte, true_and, and_true, vok_int, vok_b0, vok_b1, vok_bb, r_backI, r_backV, bb_eq0, Nat.reduceAdd, Nat.reduceMul, Nat.reduceEqDiff, not_true_eq_false, not_false_eq_true, if_true, if_false, false_and, and_false, c17, c98, Int32.reduceLE, Int32.reduceAdd, k0, k1, k2, in30 ln_132, in31 ln_132, in32 ln_132, Nat.reduceLeDiff, x0, x1, x2, y0, y1, y2, b0, b1, b2, m1, m2, k0', k1', k2', z0, ii_add]
  have hmm : ∀ a, a ≠ 126 → a ≠ 132 → (it_up (it_up (it_up (fun a b => if a = 126 ∧ b < 48 then 0 else mi a b) 132 0 0) 132 1 0) 132 2 0) a = mi a := by
    intro a ha ha2
    rw [it_up_f _ _ _ ha2, it_up_f _ _ _ ha2, it_up_f _ _ _ ha2]
    funext b
    rw [if_neg (by omega)]
  have hen := ford_enough (kn := kn) (sp := sp) (kn 0 + kn 1 + kn 2) (fun _ => 0) (by omega) (48 - (kn 0 + kn 1 + kn 2))
  rw [show kn 0 + kn 1 + kn 2 + (48 - (kn 0 + kn 1 + kn 2)) = 48 by omega] at hen
  refine c102C (kn := kn) (sp := sp) (E := E) (A := A) (T := kn 0 + kn 1 + kn 2) h105 hp (by omega) (kn 0 + kn 1 + kn 2) 0 (fun _ => 0) S0 (fun _ => False) _ _ _ _ (by omega) (by omega) (fun r hr => ?_) (fun r j hr hj => ?_) (fun h => ⟨lwM_cong (hAW h).1 (fun a h1 h2 => hmm a (by omega) (by omega)), h105.1 _ _ (hAW h).2 (fun a h1 h2 => hmm a (by omega) (by omega)) (by rw [hmm 99 (by omega) (by omega)]) (by rw [hmm 99 (by omega) (by omega)])⟩) ?_ (fun r j _ _ _ => by rw [h0]) (fun mi' hm' hS' => ?_)
  · obtain ⟨n1, n2⟩ := hn r hr
    refine ⟨?_, Nat.zero_le _, by rw [hmm 119 (by omega) (by omega)]; exact n1, n2⟩
    rcases i_three hr with rfl | rfl | rfl <;> simp [it_up_app] <;> rfl
  · obtain ⟨s1, s2, s3, s4⟩ := hs r j hr hj
    exact ⟨by rw [hmm 115 (by omega) (by omega)]; exact s1, s2, evtM_cong s3 (fun a h1 h2 => hmm a (by omega) (by omega)), s4⟩
  · refine ⟨fun i hi => ?_, fun e he hd => hd.elim⟩
    rw [h0]
    refine ⟨?_, Nat.le_refl 0, fun h => absurd rfl h⟩
    rw [it_up_f _ _ _ (by omega), it_up_f _ _ _ (by omega), it_up_f _ _ _ (by omega), bb_f (fun h => h rfl)]
    simp only
    rw [if_pos ⟨trivial, hi⟩]
  · refine hQ mi' (fun a ha => by rw [hm' a ha, hmm a (by omega) (by omega)]) ?_
    rw [hen]
    have hS2 : it_MR 48 mi' (List.foldl (fstep E A) S0 (ford kn sp (kn 0 + kn 1 + kn 2) (fun _ => 0))) (fun e => False ∨ e ∈ ford kn sp (kn 0 + kn 1 + kn 2) (fun _ => 0)) := ⟨fun i hi => ⟨(hS'.1 i hi).1, by have := (hS'.1 i hi).2.1; omega, (hS'.1 i hi).2.2⟩, hS'.2⟩
    exact MR_cong hS2 (fun _ _ _ => rfl) (fun e he => Or.inr he)
end
