/-! One event of the fold, pure; Fold.skips. -/
theorem alw_f {m m' : Nat → Nat → Int32} {k : Nat} {st pr ow ac ro goal : Int32} (h : ∀ a, 17 ≤ a → a < 25 → m' a = m a) : it_alw m' k st pr ow ac ro goal ↔ it_alw m k st pr ow ac ro goal := by
  unfold it_alw
  rw [h 18 (by decide) (by decide), h 19 (by decide) (by decide), h 20 (by decide) (by decide), h 21 (by decide) (by decide), h 23 (by decide) (by decide), h 24 (by decide) (by decide)]
section
variable {d : Nat} {Q : im_O → im_M → Prop} {L : Nat} {xs : Nat → Int32} {mi : Nat → Nat → Int32} {rw : Nat → Nat} {o : Nat → Int64} {g z : Nat}
theorem c24 {F N c k : Nat} {S : FST} {E : EVT} {A : LWT} {D : Nat → Prop} {v4 v5 v6 v7 : Value} (hF : it_isk 6 F = true) (hF2 : 41 ≤ F) (hc : c < 48) (hE : it_evt E mi 28 30 31 32 c) (hA : it_lwC A mi k) (hN : N < 1000) (hS : it_FR F N mi S D)
    (hQ : ∀ mi', (∀ a, a ≠ F + 7 → mi' a = mi a) → Q (.inl (some (.int (bb (fskip E A S c))))) (it_mem L xs mi' rw o g z)) :
    iw (d + 3) 24 0 [.ref F, .int (ii c), .ref 27, .ref 16, v4, v5, v6, v7] [] (it_mem L xs mi rw o g z) Q := by
  obtain ⟨h1, h2, h3, h4, h5, h6, h7⟩ := hE
  obtain ⟨a1, a2, a3, a4, a5, a6⟩ := hA
  obtain ⟨s1, _⟩ := hS
  have ec : (ii c).toNatClampNeg = c := ii_clamp (by omega)
  have eu : (ii (E.2.1 c)).toNatClampNeg = E.2.1 c := ii_clamp (by omega)
  have b1 : it_inb L 28 (ii c) := ii_inb (by omega) (by rw [ln_28]; omega)
  have b2 : it_inb L 30 (ii c) := ii_inb (by omega) (by rw [ln_30]; omega)
  have b3 : it_inb L 31 (ii c) := ii_inb (by omega) (by rw [ln_31]; omega)
  have b4 : it_inb L 32 (ii c) := ii_inb (by omega) (by rw [ln_32]; omega)
  have b5 : it_inb L 25 (ii (E.2.1 c)) := ii_inb (by omega) (by rw [ln_25]; omega)
  have p1 := (a1 _ h4).1
  have p2 := (a1 _ h2).2
  have hsame := hQ mi (fun _ _ => rfl)
  simp only [w24_0, w24_1, w24_4, w24_5, w24_6, w24_8, w24_9, w24_12, w24_13, w24_14, w24_16, w24_17, w24_19, w24_21, w24_24, isk_16, cv_16_0, cv_16_1, cv_16_2, isk_27, cv_27_0, cv_27_1, cv_27_2, cv_27_3, cv_27_4, cv_27_5, cv_27_6, isa_28, ln_28, cv_28, isa_30, ln_30, cv_30, ↓reduceIte, true_and, and_true, vok_int, vok_b0, vok_b1, vok_bb, r_backI, r_backV, bb_eq0, Nat.reduceAdd, Nat.reduceMul, Nat.reduceEqDiff, not_true_eq_false, not_false_eq_true, if_true, if_false, false_and, and_false, c17, c98, b1, b2, ec, h1, h3, c25 h4 h2, p1, p2]
  by_cases hp : A.2.1 (E.1 c) ≤ A.1 (E.2.1 c)
  · have hp' : ¬ bb (A.2.1 (E.1 c) ≤ A.1 (E.2.1 c)) = 0 := fun q => bb_eq0.mp q hp
    by_cases hk : E.1 c = 0
    · have hsk : ¬ fskip E A S c := by
        rintro (h | h)
        · exact h hp
        · exact h.1 hk
      rw [bb_f hsk] at hsame
      have e0 : ii (E.1 c) = 0 := by rw [hk]; rfl
      simp only [hp, w24_27, w24_28, w24_29, w24_31, w24_34, w24_35, ↓reduceIte, true_and, and_true, vok_int, vok_b0, vok_b1, vok_bb, r_backI, r_backV, bb_eq0, Nat.reduceAdd, Nat.reduceMul, Nat.reduceEqDiff, not_true_eq_false, not_false_eq_true, if_true, if_false, false_and, and_false, c17, c98, e0]
      exact hsame
    · have e0 : ¬ ii (E.1 c) = 0 := fun q => hk ((ii_inj (b := 0) (by omega) (by decide)).mp q)
      simp only [hp, w24_27, w24_28, w24_29, w24_31, w24_34, w24_35, w24_36, w24_37, w24_40, w24_41, w24_42, w24_44, w24_45, w24_47, w24_50, isk_27, cv_27_0, cv_27_1, cv_27_2, cv_27_3, cv_27_4, cv_27_5, cv_27_6, isa_31, ln_31, cv_31, ↓reduceIte, true_and, and_true, vok_int, vok_b0, vok_b1, vok_bb, r_backI, r_backV, bb_eq0, Nat.reduceAdd, Nat.reduceMul, Nat.reduceEqDiff, not_true_eq_false, not_false_eq_true, if_true, if_false, false_and, and_false, c17, c98, e0, b3, ec, h5, hF, c26 hF h6]
      obtain ⟨d1, d2, d3⟩ := s1 _ h6
      by_cases hd : S.1 (E.2.2.1 c) = 0
      · have hsk : fskip E A S c := Or.inr ⟨hk, Or.inl hd⟩
        rw [bb_t hsk] at hsame
        have e9 : ¬ 0 < mi (F + 4) (E.2.2.1 c) := by rw [d1, hd]; decide
        simp only [e9, w24_53, w24_54, ↓reduceIte, true_and, and_true, vok_int, vok_b0, vok_b1, vok_bb, r_backI, r_backV, bb_eq0, Nat.reduceAdd, Nat.reduceMul, Nat.reduceEqDiff, not_true_eq_false, not_false_eq_true, if_true, if_false, false_and, and_false, c17, c98]
        exact hsame
      · have e9 : 0 < mi (F + 4) (E.2.2.1 c) := by rw [d1]; exact (ii_lt (a := 0) (by decide) (by omega)).mpr (by omega)
        obtain ⟨g1, g2, g3⟩ := d3 hd
        by_cases hm : E.1 c = 1
        · have e1 : ii (E.1 c) = 1 := by rw [hm]; rfl
          have n25 : ∀ X j x, it_up X (F + 7) j x 25 = X 25 := fun X j x => it_up_f _ _ _ (by omega)
          have n32 : ∀ X j x, it_up X (F + 7) j x 32 = X 32 := fun X j x => it_up_f _ _ _ (by omega)
          have hM : ∀ a, a ≠ F + 7 → it_up (it_up (it_up (it_up (it_up mi (F + 7) 0 (S.2.1 (E.2.2.1 c))) (F + 7) 1 (S.2.2.1 (E.2.2.1 c))) (F + 7) 2 (S.2.2.2.1 (E.2.2.1 c))) (F + 7) 3 (ii (E.2.1 c))) (F + 7) 4 (A.1 (E.2.1 c)) a = mi a := fun a h => by rw [it_up_f _ _ _ h, it_up_f _ _ _ h, it_up_f _ _ _ h, it_up_f _ _ _ h, it_up_f _ _ _ h]
          have h28 := fun (Q : im_O → im_M → Prop) => c28 (d := d) (L := L) (xs := xs) (mi := it_up (it_up (it_up (it_up (it_up mi (F + 7) 0 (S.2.1 (E.2.2.1 c))) (F + 7) 1 (S.2.2.1 (E.2.2.1 c))) (F + 7) 2 (S.2.2.2.1 (E.2.2.1 c))) (F + 7) 3 (ii (E.2.1 c))) (F + 7) 4 (A.1 (E.2.1 c))) (rw := rw) (o := o) (g := g) (z := z) (Q := Q) (goal := E.2.2.2 c) (v := .retAddr 0) (iskg_6_6 hF) a3 (by rw [hM 17 (by omega)]; exact a4) (by rw [hM 20 (by omega), hM 21 (by omega)]; exact a5)
          have hal : ∀ st pr ow ac ro goal, it_alw (it_up (it_up (it_up (it_up (it_up mi (F + 7) 0 (S.2.1 (E.2.2.1 c))) (F + 7) 1 (S.2.2.1 (E.2.2.1 c))) (F + 7) 2 (S.2.2.2.1 (E.2.2.1 c))) (F + 7) 3 (ii (E.2.1 c))) (F + 7) 4 (A.1 (E.2.1 c))) k st pr ow ac ro goal ↔ A.2.2.2 st pr ow ac ro goal := fun st pr ow ac ro goal => (alw_f (fun a _ _ => hM a (by omega))).trans (a6 st pr ow ac ro goal).symm
          have hfin := hQ _ hM
          simp only [it_up_s, Nat.reduceEqDiff, if_true, if_false] at h28
          simp only [e9, w24_55, w24_57, w24_58, w24_61, w24_62, w24_63, w24_64, w24_66, w24_69, w24_71, w24_73, w24_75, w24_78, w24_80, w24_81, w24_84, w24_86, w24_87, w24_90, w24_91, w24_94, w24_96, w24_97, w24_100, w24_101, w24_102, isk_16, cv_16_0, cv_16_1, cv_16_2, isk_17, cv_17_0, cv_17_1, cv_17_2, cv_17_3, cv_17_4, cv_17_5, isa_25, ln_25, cv_25, isk_27, cv_27_0, cv_27_1, cv_27_2, cv_27_3, cv_27_4, cv_27_5, cv_27_6, isa_32, ln_32, cv_32, ↓reduceIte, true_and, and_true, vok_int, vok_b0, vok_b1, vok_bb, r_backI, r_backV, bb_eq0, Nat.reduceAdd, Nat.reduceMul, Nat.reduceEqDiff, not_true_eq_false, not_false_eq_true, if_true, if_false, false_and, and_false, c17, c98, e1, hF, iskg_6_6 hF, c27 hF h6, b4, b5, eu, ec, n25, n32, p1, h7, g1, g2, g3, h28, hal]
          by_cases ha : A.2.2.2 (S.2.1 (E.2.2.1 c)) (S.2.2.1 (E.2.2.1 c)) (S.2.2.2.1 (E.2.2.1 c)) (ii (E.2.1 c)) (A.1 (E.2.1 c)) (E.2.2.2 c)
          · have hsk : ¬ fskip E A S c := by
              rintro (h | h)
              · exact h hp
              · rcases h.2 with h | h
                · exact hd h
                · exact h.2 ha
            rw [bb_f hsk] at hfin
            simp only [ha, w24_105, w24_108, w24_109, w24_112, w24_113, ↓reduceIte, true_and, and_true, vok_int, vok_b0, vok_b1, vok_bb, r_backI, r_backV, bb_eq0, Nat.reduceAdd, Nat.reduceMul, Nat.reduceEqDiff, not_true_eq_false, not_false_eq_true, if_true, if_false, false_and, and_false, c17, c98]
            exact hfin
          · have hsk : fskip E A S c := Or.inr ⟨hk, Or.inr ⟨hm, ha⟩⟩
            rw [bb_t hsk] at hfin
            simp only [ha, w24_105, w24_108, w24_109, w24_112, w24_113, ↓reduceIte, true_and, and_true, vok_int, vok_b0, vok_b1, vok_bb, r_backI, r_backV, bb_eq0, Nat.reduceAdd, Nat.reduceMul, Nat.reduceEqDiff, not_true_eq_false, not_false_eq_true, if_true, if_false, false_and, and_false, c17, c98]
            exact hfin
        · have hsk : ¬ fskip E A S c := by
            rintro (h | h)
            · exact h hp
            · rcases h.2 with h | h
              · exact hd h
              · exact hm h.1
          rw [bb_f hsk] at hsame
          have e1 : ¬ ii (E.1 c) = 1 := fun q => hm ((ii_inj (b := 1) (by omega) (by decide)).mp q)
          simp only [e9, w24_55, w24_57, w24_58, w24_61, w24_62, ↓reduceIte, true_and, and_true, vok_int, vok_b0, vok_b1, vok_bb, r_backI, r_backV, bb_eq0, Nat.reduceAdd, Nat.reduceMul, Nat.reduceEqDiff, not_true_eq_false, not_false_eq_true, if_true, if_false, false_and, and_false, c17, c98, e1]
          exact hsame
  · have hsk : fskip E A S c := Or.inl hp
    rw [bb_t hsk] at hsame
    simp only [hp, w24_27, w24_28, ↓reduceIte, true_and, and_true, vok_int, vok_b0, vok_b1, vok_bb, r_backI, r_backV, bb_eq0, Nat.reduceAdd, Nat.reduceMul, Nat.reduceEqDiff, not_true_eq_false, not_false_eq_true, if_true, if_false, false_and, and_false, c17, c98]
    exact hsame
end
