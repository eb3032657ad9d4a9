/-! The reference's canBe, over what hasRule answers. -/
/-- what is wanted of hasRule: W is what it rests on (workflow, roles) -/
def it_h105 (A : LWT) (W : (Nat → Nat → Int32) → Prop) : Prop := (∀ mi mi', W mi → (∀ a, 107 ≤ a → a ≤ 112 → mi' a = mi a) → mi' 99 16 = mi 99 16 → mi' 99 20 = mi 99 20 → W mi') ∧
  ∀ (d L : Nat) (xs : Nat → Int32) (mi : Nat → Nat → Int32) (rw : Nat → Nat) (o : Nat → Int64) (g z i u : Nat) (v : Int32) (Q : im_O → im_M → Prop), i < 48 → u < 4 → W mi → (∀ mi', (∀ a, a < 104 ∨ 107 ≤ a → mi' a = mi a) → Q (.inl (some (.int (bb (A.2.2.2 (mi 127 i) (mi 128 i) (mi 129 i) (ii u) (A.1 u) v))))) (it_mem L xs mi' rw o g z)) → iw (d + 3) 105 0 [.ref 99, .int (ii i), .int (ii u), .int v, .retAddr 0, .retAddr 0] [] (it_mem L xs mi rw o g z) Q
/-- a fold as the reference has it -/
def it_MR (N : Nat) (m : Nat → Nat → Int32) (S : FST) (D : Nat → Prop) : Prop := (∀ i, i < 48 → m 126 i = bb (S.1 i ≠ 0) ∧ S.1 i ≤ N ∧ (S.1 i ≠ 0 → m 127 i = S.2.1 i ∧ m 128 i = S.2.2.1 i ∧ m 129 i = S.2.2.2.1 i ∧ m 130 i = ii (S.1 i))) ∧ ∀ e, e < 48 → D e → m 131 e = bb (S.2.2.2.2 e)
def it_lwM (A : LWT) (m : Nat → Nat → Int32) : Prop := (∀ u, u < 4 → m 111 u = A.1 u ∧ m 112 u = A.2.1 u) ∧ m 107 0 = A.2.2.1
section
variable {d : Nat} {Q : im_O → im_M → Prop} {L : Nat} {xs : Nat → Int32} {mi : Nat → Nat → Int32} {rw : Nat → Nat} {o : Nat → Int64} {g z : Nat}
theorem c104 {N c : Nat} {S : FST} {E : EVT} {A : LWT} {D : Nat → Prop} {W : (Nat → Nat → Int32) → Prop} (h105 : it_h105 A W) (hW : W mi) (h2 : E.1 c < 4) (h4 : E.2.1 c < 4) (h6 : E.2.2.1 c < 48) (hA : it_lwM A mi) (hS : it_MR N mi S D)
    (hQ : ∀ mi', (∀ a, a < 104 ∨ 107 ≤ a → mi' a = mi a) → Q (.inl (some (.int (bb (¬ fskip E A S c))))) (it_mem L xs mi' rw o g z)) :
    iw (d + 4) 104 0 [.ref 99, .int (ii (E.1 c)), .int (ii (E.2.1 c)), .int (ii (E.2.2.1 c)), .int (E.2.2.2 c)] [] (it_mem L xs mi rw o g z) Q := by
  obtain ⟨a1, a2⟩ := hA
  obtain ⟨s1, _⟩ := hS
  have ek : (ii (E.1 c)).toNatClampNeg = E.1 c := ii_clamp (by omega)
  have eu : (ii (E.2.1 c)).toNatClampNeg = E.2.1 c := ii_clamp (by omega)
  have ei : (ii (E.2.2.1 c)).toNatClampNeg = E.2.2.1 c := ii_clamp (by omega)
  have b1 : it_inb L 111 (ii (E.2.1 c)) := ii_inb (by omega) (by rw [ln_111]; omega)
  have b2 : it_inb L 112 (ii (E.1 c)) := ii_inb (by omega) (by rw [ln_112]; omega)
  have b3 : it_inb L 126 (ii (E.2.2.1 c)) := ii_inb (by omega) (by rw [ln_126]; omega)
  have p1 := (a1 _ h4).1
  have p2 := (a1 _ h2).2
  have hsame := hQ mi (fun _ _ => rfl)
  simp only [w104_0, w104_1, w104_4, w104_5, w104_6, w104_7, w104_10, w104_11, w104_12, isk_99, cv_99_0, cv_99_1, cv_99_2, cv_99_3, cv_99_4, cv_99_5, cv_99_6, cv_99_7, cv_99_8, cv_99_9, cv_99_10, cv_99_11, cv_99_12, cv_99_13, cv_99_14, cv_99_15, cv_99_16, cv_99_17, cv_99_18, cv_99_19, cv_99_20, cv_99_21, cv_99_22, cv_99_23, cv_99_24, cv_99_25, cv_99_26, cv_99_27, cv_99_28, cv_99_29, cv_99_30, cv_99_31, cv_99_32, cv_99_33, cv_99_34, cv_99_35, cv_99_36, cv_99_37, cv_99_38, cv_99_39, cv_99_40, cv_99_41, cv_99_42, cv_99_43, cv_99_44, cv_99_45, cv_99_46, isa_111, ln_111, cv_111, isa_112, ln_112, cv_112, ↓reduceIte, true_and, and_true, vok_int, vok_b0, vok_b1, vok_bb, r_backI, r_backV, bb_eq0, Nat.reduceAdd, Nat.reduceMul, Nat.reduceEqDiff, not_true_eq_false, not_false_eq_true, if_true, if_false, false_and, and_false, c17, c98, b1, b2, ek, eu, p1, p2]
  by_cases hp : A.2.1 (E.1 c) ≤ A.1 (E.2.1 c)
  · rw [if_pos hp]
    by_cases hk : E.1 c = 0
    · have hsk : ¬ fskip E A S c := by
        rintro (h | h)
        · exact h hp
        · exact h.1 hk
      rw [bb_t hsk] at hsame
      have e0 : ii (E.1 c) = 0 := by rw [hk]; rfl
      simp only [w104_17, w104_18, w104_21, w104_22, ↓reduceIte, true_and, and_true, vok_int, vok_b0, vok_b1, vok_bb, r_backI, r_backV, bb_eq0, Nat.reduceAdd, Nat.reduceMul, Nat.reduceEqDiff, not_true_eq_false, not_false_eq_true, if_true, if_false, false_and, and_false, c17, c98, e0]
      exact hsame
    · have e0 : ¬ ii (E.1 c) = 0 := fun q => hk ((ii_inj (b := 0) (by omega) (by decide)).mp q)
      obtain ⟨d1, d2, d3⟩ := s1 _ h6
      by_cases hd : S.1 (E.2.2.1 c) = 0
      · have hsk : fskip E A S c := Or.inr ⟨hk, Or.inl hd⟩
        rw [bb_f (fun q => q hsk)] at hsame
        have d5 : mi 126 (E.2.2.1 c) = 0 := by rw [d1, bb_f (fun q => q hd)]
        simp only [w104_17, w104_18, w104_21, w104_22, w104_23, w104_24, w104_27, w104_28, w104_29, w104_52, w104_53, isk_99, cv_99_0, cv_99_1, cv_99_2, cv_99_3, cv_99_4, cv_99_5, cv_99_6, cv_99_7, cv_99_8, cv_99_9, cv_99_10, cv_99_11, cv_99_12, cv_99_13, cv_99_14, cv_99_15, cv_99_16, cv_99_17, cv_99_18, cv_99_19, cv_99_20, cv_99_21, cv_99_22, cv_99_23, cv_99_24, cv_99_25, cv_99_26, cv_99_27, cv_99_28, cv_99_29, cv_99_30, cv_99_31, cv_99_32, cv_99_33, cv_99_34, cv_99_35, cv_99_36, cv_99_37, cv_99_38, cv_99_39, cv_99_40, cv_99_41, cv_99_42, cv_99_43, cv_99_44, cv_99_45, cv_99_46, isa_126, ln_126, cv_126, ↓reduceIte, true_and, and_true, vok_int, vok_b0, vok_b1, vok_bb, r_backI, r_backV, bb_eq0, Nat.reduceAdd, Nat.reduceMul, Nat.reduceEqDiff, not_true_eq_false, not_false_eq_true, if_true, if_false, false_and, and_false, c17, c98, e0, b3, ei, d5]
        exact hsame
      · have d5 : mi 126 (E.2.2.1 c) = 1 := by rw [d1, bb_t hd]
        have z1 : ¬ (1 : Int32) = 0 := by decide
        obtain ⟨g1, g2, g3, _⟩ := d3 hd
        by_cases hm : E.1 c = 1
        · have e1 : ii (E.1 c) = 1 := by rw [hm]; rfl
          simp only [w104_17, w104_18, w104_21, w104_22, w104_23, w104_24, w104_27, w104_28, w104_29, isk_99, cv_99_0, cv_99_1, cv_99_2, cv_99_3, cv_99_4, cv_99_5, cv_99_6, cv_99_7, cv_99_8, cv_99_9, cv_99_10, cv_99_11, cv_99_12, cv_99_13, cv_99_14, cv_99_15, cv_99_16, cv_99_17, cv_99_18, cv_99_19, cv_99_20, cv_99_21, cv_99_22, cv_99_23, cv_99_24, cv_99_25, cv_99_26, cv_99_27, cv_99_28, cv_99_29, cv_99_30, cv_99_31, cv_99_32, cv_99_33, cv_99_34, cv_99_35, cv_99_36, cv_99_37, cv_99_38, cv_99_39, cv_99_40, cv_99_41, cv_99_42, cv_99_43, cv_99_44, cv_99_45, cv_99_46, isa_126, ln_126, cv_126, ↓reduceIte, true_and, and_true, vok_int, vok_b0, vok_b1, vok_bb, r_backI, r_backV, bb_eq0, Nat.reduceAdd, Nat.reduceMul, Nat.reduceEqDiff, not_true_eq_false, not_false_eq_true, if_true, if_false, false_and, and_false, c17, c98, e0, b3, ei, d5, z1]
          simp only [w104_32, w104_33, w104_34, w104_37, w104_38, w104_39, w104_40, w104_42, isk_99, cv_99_0, cv_99_1, cv_99_2, cv_99_3, cv_99_4, cv_99_5, cv_99_6, cv_99_7, cv_99_8, cv_99_9, cv_99_10, cv_99_11, cv_99_12, cv_99_13, cv_99_14, cv_99_15, cv_99_16, cv_99_17, cv_99_18, cv_99_19, cv_99_20, cv_99_21, cv_99_22, cv_99_23, cv_99_24, cv_99_25, cv_99_26, cv_99_27, cv_99_28, cv_99_29, cv_99_30, cv_99_31, cv_99_32, cv_99_33, cv_99_34, cv_99_35, cv_99_36, cv_99_37, cv_99_38, cv_99_39, cv_99_40, cv_99_41, cv_99_42, cv_99_43, cv_99_44, cv_99_45, cv_99_46, ↓reduceIte, true_and, and_true, vok_int, vok_b0, vok_b1, vok_bb, r_backI, r_backV, bb_eq0, Nat.reduceAdd, Nat.reduceMul, Nat.reduceEqDiff, not_true_eq_false, not_false_eq_true, if_true, if_false, false_and, and_false, c17, c98, e1]
          refine h105.2 d L xs mi rw o g z _ _ _ _ h6 h4 hW (fun mi' hm' => ?_)
          have hfin := hQ mi' hm'
          rw [g1, g2, g3]
          by_cases ha : A.2.2.2 (S.2.1 (E.2.2.1 c)) (S.2.2.1 (E.2.2.1 c)) (S.2.2.2.1 (E.2.2.1 c)) (ii (E.2.1 c)) (A.1 (E.2.1 c)) (E.2.2.2 c)
          · have hsk : ¬ fskip E A S c := by
              rintro (h | h)
              · exact h hp
              · rcases h.2 with h | h
                · exact hd h
                · exact h.2 ha
            rw [bb_t hsk] at hfin
            rw [bb_t ha]
            simp only [↓reduceIte, true_and, and_true, vok_int, vok_b0, vok_b1, vok_bb, r_backI, r_backV, bb_eq0, Nat.reduceAdd, Nat.reduceMul, Nat.reduceEqDiff, not_true_eq_false, not_false_eq_true, if_true, if_false, false_and, and_false, c17, c98, w104_45, w104_48, w104_49, w104_52, w104_53, z1]
            exact hfin
          · have hsk : fskip E A S c := Or.inr ⟨hk, Or.inr ⟨hm, ha⟩⟩
            rw [bb_f (fun q => q hsk)] at hfin
            rw [bb_f ha]
            simp only [↓reduceIte, true_and, and_true, vok_int, vok_b0, vok_b1, vok_bb, r_backI, r_backV, bb_eq0, Nat.reduceAdd, Nat.reduceMul, Nat.reduceEqDiff, not_true_eq_false, not_false_eq_true, if_true, if_false, false_and, and_false, c17, c98, w104_45, w104_48, w104_49, w104_52, w104_53]
            exact hfin
        · have hsk : ¬ fskip E A S c := by
            rintro (h | h)
            · exact h hp
            · rcases h.2 with h | h
              · exact hd h
              · exact hm h.1
          rw [bb_t hsk] at hsame
          have e1 : ¬ ii (E.1 c) = 1 := fun q => hm ((ii_inj (b := 1) (by omega) (by decide)).mp q)
          simp only [w104_17, w104_18, w104_21, w104_22, w104_23, w104_24, w104_27, w104_28, w104_29, w104_32, w104_33, w104_34, w104_48, w104_49, w104_52, w104_53, isk_99, cv_99_0, cv_99_1, cv_99_2, cv_99_3, cv_99_4, cv_99_5, cv_99_6, cv_99_7, cv_99_8, cv_99_9, cv_99_10, cv_99_11, cv_99_12, cv_99_13, cv_99_14, cv_99_15, cv_99_16, cv_99_17, cv_99_18, cv_99_19, cv_99_20, cv_99_21, cv_99_22, cv_99_23, cv_99_24, cv_99_25, cv_99_26, cv_99_27, cv_99_28, cv_99_29, cv_99_30, cv_99_31, cv_99_32, cv_99_33, cv_99_34, cv_99_35, cv_99_36, cv_99_37, cv_99_38, cv_99_39, cv_99_40, cv_99_41, cv_99_42, cv_99_43, cv_99_44, cv_99_45, cv_99_46, isa_126, ln_126, cv_126, ↓reduceIte, true_and, and_true, vok_int, vok_b0, vok_b1, vok_bb, r_backI, r_backV, bb_eq0, Nat.reduceAdd, Nat.reduceMul, Nat.reduceEqDiff, not_true_eq_false, not_false_eq_true, if_true, if_false, false_and, and_false, c17, c98, e0, e1, b3, ei, d5, z1]
          exact hsame
  · have hsk : fskip E A S c := Or.inl hp
    rw [bb_f (fun q => q hsk)] at hsame
    rw [if_neg hp]
    simp only [w104_15, w104_16, ↓reduceIte, true_and, and_true, vok_int, vok_b0, vok_b1, vok_bb, r_backI, r_backV, bb_eq0, Nat.reduceAdd, Nat.reduceMul, Nat.reduceEqDiff, not_true_eq_false, not_false_eq_true, if_true, if_false, false_and, and_false, c17, c98]
    exact hsame
end
