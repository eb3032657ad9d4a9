/-! One event taken: Fold.take. -/
theorem fstep_t {E : EVT} {A : LWT} {S : FST} {e : Nat} (h : fskip E A S e) : fstep E A S e = (S.1, S.2.1, S.2.2.1, S.2.2.2.1, va_up S.2.2.2.2 e True) := @if_pos _ (Classical.propDecidable _) h _ _ _
theorem fstep_f {E : EVT} {A : LWT} {S : FST} {e : Nat} (h : ¬ fskip E A S e) : fstep E A S e = (va_up S.1 (E.2.2.1 e) (S.1 (E.2.2.1 e) + 1), (if E.1 e = 0 then va_up S.2.1 (E.2.2.1 e) A.2.2.1 else if E.1 e = 1 then va_up S.2.1 (E.2.2.1 e) (E.2.2.2 e) else S.2.1), (if E.1 e = 0 ∨ E.1 e = 2 then va_up S.2.2.1 (E.2.2.1 e) (E.2.2.2 e) else S.2.2.1), (if E.1 e = 0 then va_up S.2.2.2.1 (E.2.2.1 e) 4 else if E.1 e = 1 ∨ E.1 e = 2 then S.2.2.2.1 else va_up S.2.2.2.1 (E.2.2.1 e) (E.2.2.2 e)), va_up S.2.2.2.2 e False) := @if_neg _ (Classical.propDecidable _) h _ _ _
theorem nar_bb {c : Prop} : vp_nar .boolean (bb c) = bb c := by
  by_cases h : c
  · rw [bb_t h]; rfl
  · rw [bb_f h]; rfl
theorem FR_t {F N c : Nat} {m m' : Nat → Nat → Int32} {S : FST} {D : Nat → Prop} {E : EVT} {A : LWT} (hsk : fskip E A S c) (hS : it_FR F N m S D) (h : ∀ a, F + 1 ≤ a → a ≤ F + 4 → m' a = m a) (h5 : m' (F + 5) = fun b => if b = c then 1 else m (F + 5) b) : it_FR F (N + 1) m' (fstep E A S c) (fun e => D e ∨ e = c) := by
  rw [fstep_t hsk]
  refine ⟨fun i hi => ?_, fun e he hD => ?_⟩
  · obtain ⟨s1, s2, s3⟩ := hS.1 i hi
    rw [h (F + 4) (by omega) (by omega), h (F + 1) (by omega) (by omega), h (F + 2) (by omega) (by omega), h (F + 3) (by omega) (by omega)]
    exact ⟨s1, Nat.le_succ_of_le s2, s3⟩
  · rw [h5]
    simp only
    by_cases e1 : e = c
    · subst e1
      rw [if_pos rfl, va_up_self, bb_T]
    · rw [if_neg e1, va_up_ne _ _ e1]
      rcases hD with hD | hD
      · exact hS.2 e he hD
      · exact absurd hD e1
theorem FR_f {F N c : Nat} {m m' : Nat → Nat → Int32} {S : FST} {D : Nat → Prop} {E : EVT} {A : LWT} (hsk : ¬ fskip E A S c) (hS : it_FR F N m S D) (hi : E.2.2.1 c < 48)
    (h4 : m' (F + 4) = fun b => if b = E.2.2.1 c then ii (S.1 (E.2.2.1 c) + 1) else m (F + 4) b) (h5 : m' (F + 5) = fun b => if b = c then 0 else m (F + 5) b)
    (h1 : m' (F + 1) = if E.1 c = 0 then (fun b => if b = E.2.2.1 c then A.2.2.1 else m (F + 1) b) else if E.1 c = 1 then (fun b => if b = E.2.2.1 c then E.2.2.2 c else m (F + 1) b) else m (F + 1))
    (h2 : m' (F + 2) = if E.1 c = 0 ∨ E.1 c = 2 then (fun b => if b = E.2.2.1 c then E.2.2.2 c else m (F + 2) b) else m (F + 2))
    (h3 : m' (F + 3) = if E.1 c = 0 then (fun b => if b = E.2.2.1 c then 4 else m (F + 3) b) else if E.1 c = 1 ∨ E.1 c = 2 then m (F + 3) else (fun b => if b = E.2.2.1 c then E.2.2.2 c else m (F + 3) b)) : it_FR F (N + 1) m' (fstep E A S c) (fun e => D e ∨ e = c) := by
  rw [fstep_f hsk]
  have hd : E.1 c ≠ 0 → S.1 (E.2.2.1 c) ≠ 0 := fun h0 hz => hsk (Or.inr ⟨h0, Or.inl hz⟩)
  refine ⟨fun i hi2 => ?_, fun e he hD => ?_⟩
  · obtain ⟨s1, s2, s3⟩ := hS.1 i hi2
    by_cases ei : i = E.2.2.1 c
    · subst ei
      refine ⟨?_, ?_, fun _ => ⟨?_, ?_, ?_⟩⟩
      · rw [h4]; simp [va_up_self]
      · simp only; rw [va_up_self]; omega
      · rw [h1]
        by_cases e0 : E.1 c = 0
        · simp [e0, va_up_self]
        · by_cases e1 : E.1 c = 1
          · simp [e1, va_up_self]
          · simp only [e0, e1, if_false]; exact (s3 (hd e0)).1
      · rw [h2]
        by_cases e0 : E.1 c = 0 ∨ E.1 c = 2
        · simp [e0, va_up_self]
        · simp only [e0, if_false]; exact (s3 (hd (fun q => e0 (Or.inl q)))).2.1
      · rw [h3]
        by_cases e0 : E.1 c = 0
        · simp [e0, va_up_self]
        · by_cases e1 : E.1 c = 1 ∨ E.1 c = 2
          · simp only [e0, e1, if_true, if_false]; exact (s3 (hd e0)).2.2
          · simp [e0, e1, va_up_self]
    · refine ⟨?_, ?_, fun hz => ?_⟩
      · rw [h4]; simp only; rw [if_neg ei, va_up_ne _ _ ei]; exact s1
      · simp only; rw [va_up_ne _ _ ei]; omega
      · simp only at hz ⊢
        rw [va_up_ne _ _ ei] at hz
        obtain ⟨t1, t2, t3⟩ := s3 hz
        refine ⟨?_, ?_, ?_⟩
        · rw [h1]
          by_cases e0 : E.1 c = 0
          · simp [e0, ei, va_up_ne _ _ ei, t1]
          · by_cases e1 : E.1 c = 1
            · simp [e1, ei, va_up_ne _ _ ei, t1]
            · simp [e0, e1, t1]
        · rw [h2]
          by_cases e0 : E.1 c = 0 ∨ E.1 c = 2
          · simp [e0, ei, va_up_ne _ _ ei, t2]
          · simp [e0, t2]
        · rw [h3]
          by_cases e0 : E.1 c = 0
          · simp [e0, ei, va_up_ne _ _ ei, t3]
          · by_cases e1 : E.1 c = 1 ∨ E.1 c = 2
            · simp [e0, e1, t3]
            · simp [e0, e1, ei, va_up_ne _ _ ei, t3]
  · rw [h5]
    simp only
    by_cases e1 : e = c
    · subst e1
      rw [if_pos rfl, va_up_self, bb_F]
    · rw [if_neg e1, va_up_ne _ _ e1]
      rcases hD with hD | hD
      · exact hS.2 e he hD
      · exact absurd hD e1
section
variable {d : Nat} {Q : im_O → im_M → Prop} {L : Nat} {xs : Nat → Int32} {mi : Nat → Nat → Int32} {rw : Nat → Nat} {o : Nat → Int64} {g z : Nat}
theorem c23 {F N c k : Nat} {S : FST} {E : EVT} {A : LWT} {D : Nat → Prop} {v4 v5 : Value} (hF : it_isk 6 F = true) (hF2 : 41 ≤ F) (hc : c < 48) (hE : it_evt E mi 28 30 31 32 c) (hA : it_lwC A mi k) (hN : N < 1000) (hS : it_FR F N mi S D)
    (hQ : ∀ mi', (∀ a, a ≤ F ∨ F + 8 ≤ a ∨ a = F + 6 → mi' a = mi a) → it_FR F (N + 1) mi' (fstep E A S c) (fun e => D e ∨ e = c) → Q (.inl none) (it_mem L xs mi' rw o g z)) :
    iw (d + 4) 23 0 [.ref F, .int (ii c), .ref 27, .ref 16, v4, v5] [] (it_mem L xs mi rw o g z) Q := by
  have hE0 := hE
  obtain ⟨h1, h2, h3, h4, h5, h6, h7⟩ := hE
  have ec : (ii c).toNatClampNeg = c := ii_clamp (by omega)
  have bl : it_inb L (F + 5) (ii c) := ii_inb (by omega) (by rw [lng_6_4 hF]; omega)
  have h8 : 8 ≤ F + 5 := by omega
  simp only [w23_0, w23_1, w23_4, w23_5, w23_6, w23_7, w23_8, w23_9, isk_16, cv_16_0, cv_16_1, cv_16_2, isk_27, cv_27_0, cv_27_1, cv_27_2, cv_27_3, cv_27_4, cv_27_5, cv_27_6, ↓reduceIte, true_and, and_true, vok_int, vok_b0, vok_b1, vok_bb, r_backI, r_backV, bb_eq0, Nat.reduceAdd, Nat.reduceMul, Nat.reduceEqDiff, not_true_eq_false, not_false_eq_true, if_true, if_false, false_and, and_false, c17, c98, hF, cvg_6_4 hF]
  refine c24 hF hF2 hc hE0 hA hN hS (fun mi1 hm1 => ?_)
  have m1 : ∀ a, a ≠ F + 7 → ∀ b, mi1 a b = mi a b := fun a h b => by rw [hm1 a h]
  have hS1 : it_FR F N mi1 S D := by
    obtain ⟨s1, s2⟩ := hS
    refine ⟨fun i hi => ?_, fun e he hD => ?_⟩
    · rw [hm1 (F + 4) (by omega), hm1 (F + 1) (by omega), hm1 (F + 2) (by omega), hm1 (F + 3) (by omega)]
      exact s1 i hi
    · rw [hm1 (F + 5) (by omega)]
      exact s2 e he hD
  by_cases hsk : fskip E A S c
  · have e1 : bb (fskip E A S c) = 1 := bb_t hsk
    have v1 : vp_nar .boolean (1 : Int32) = 1 := by rw [← e1]; exact nar_bb
    have z1 : ¬ (1 : Int32) = 0 := by decide
    rw [e1]
    simp only [r_backI, w23_12, w23_13, w23_14, w23_17, w23_18, w23_19, w23_22, ↓reduceIte, true_and, and_true, vok_int, vok_b0, vok_b1, vok_bb, r_backI, r_backV, bb_eq0, Nat.reduceAdd, Nat.reduceMul, Nat.reduceEqDiff, not_true_eq_false, not_false_eq_true, if_true, if_false, false_and, and_false, c17, c98, hF, cvg_6_4 hF, isag_6_4 hF, cvag_6_4 hF, bl, ec, h8, v1, it_up_same, z1]
    refine hQ _ (fun a ha => ?_) (FR_t hsk hS1 (fun a ha1 ha2 => it_up_f _ _ _ (by omega)) (it_up_row _ _ _ _))
    rw [it_up_f _ _ _ (by omega)]
    exact hm1 a (by omega)
  · have e1 : bb (fskip E A S c) = 0 := bb_f hsk
    have v1 : vp_nar .boolean (0 : Int32) = 0 := by rw [← e1]; exact nar_bb
    have b1 : it_inb L 28 (ii c) := ii_inb (by omega) (by rw [ln_28]; omega)
    have b3 : it_inb L 31 (ii c) := ii_inb (by omega) (by rw [ln_31]; omega)
    have b4 : it_inb L 32 (ii c) := ii_inb (by omega) (by rw [ln_32]; omega)
    have q1 : it_inb L (F + 1) (ii (E.2.2.1 c)) := ii_inb (by omega) (by rw [lng_6_0 hF]; omega)
    have q2 : it_inb L (F + 2) (ii (E.2.2.1 c)) := ii_inb (by omega) (by rw [lng_6_1 hF]; omega)
    have q3 : it_inb L (F + 3) (ii (E.2.2.1 c)) := ii_inb (by omega) (by rw [lng_6_2 hF]; omega)
    have q4 : it_inb L (F + 4) (ii (E.2.2.1 c)) := ii_inb (by omega) (by rw [lng_6_3 hF]; omega)
    have ei : (ii (E.2.2.1 c)).toNatClampNeg = E.2.2.1 c := ii_clamp (by omega)
    have g1 : 8 ≤ F + 1 := by omega
    have g2 : 8 ≤ F + 2 := by omega
    have g3 : 8 ≤ F + 3 := by omega
    have g4 : 8 ≤ F + 4 := by omega
    have n28 : ∀ X j x, it_up X (F + 5) j x 28 = X 28 := fun X j x => it_up_f _ _ _ (by omega)
    have n31 : ∀ X j x, it_up X (F + 5) j x 31 = X 31 := fun X j x => it_up_f _ _ _ (by omega)
    have n32 : ∀ X j x, it_up X (F + 5) j x 32 = X 32 := fun X j x => it_up_f _ _ _ (by omega)
    have n18 : ∀ X j x, it_up X (F + 5) j x 18 = X 18 := fun X j x => it_up_f _ _ _ (by omega)
    have r28 := (m1 28 (by omega) c).trans h1
    have r31 := (m1 31 (by omega) c).trans h5
    have r32 := (m1 32 (by omega) c).trans h7
    have r18 := (m1 18 (by omega) 0).trans hA.2.1
    obtain ⟨d1, d2, _⟩ := hS1.1 _ h6
    have d4 : ii (S.1 (E.2.2.1 c)) + 1 = ii (S.1 (E.2.2.1 c) + 1) := ii_add (b := 1)
    rw [e1]
    simp only [r_backI, w23_12, w23_13, w23_14, w23_17, w23_18, w23_19, w23_22, w23_23, w23_24, w23_27, w23_28, w23_29, w23_31, w23_32, w23_35, w23_36, w23_37, w23_39, w23_40, w23_43, w23_44, isk_27, cv_27_0, cv_27_1, cv_27_2, cv_27_3, cv_27_4, cv_27_5, cv_27_6, isa_28, ln_28, cv_28, isa_31, ln_31, cv_31, isa_32, ln_32, cv_32, ↓reduceIte, true_and, and_true, vok_int, vok_b0, vok_b1, vok_bb, r_backI, r_backV, bb_eq0, Nat.reduceAdd, Nat.reduceMul, Nat.reduceEqDiff, not_true_eq_false, not_false_eq_true, if_true, if_false, false_and, and_false, c17, c98, hF, cvg_6_4 hF, isag_6_4 hF, cvag_6_4 hF, bl, ec, h8, v1, it_up_same, b1, b3, b4, n28, n31, n32, r28, r31, r32]
    have hfr : ∀ X, (∀ a, a ≤ F ∨ F + 8 ≤ a ∨ a = F + 6 → X a = mi a) → X (F + 4) = (fun b => if b = E.2.2.1 c then ii (S.1 (E.2.2.1 c) + 1) else mi1 (F + 4) b) → X (F + 5) = (fun b => if b = c then 0 else mi1 (F + 5) b) → (X (F + 1) = if E.1 c = 0 then (fun b => if b = E.2.2.1 c then A.2.2.1 else mi1 (F + 1) b) else if E.1 c = 1 then (fun b => if b = E.2.2.1 c then E.2.2.2 c else mi1 (F + 1) b) else mi1 (F + 1)) → (X (F + 2) = if E.1 c = 0 ∨ E.1 c = 2 then (fun b => if b = E.2.2.1 c then E.2.2.2 c else mi1 (F + 2) b) else mi1 (F + 2)) → (X (F + 3) = if E.1 c = 0 then (fun b => if b = E.2.2.1 c then 4 else mi1 (F + 3) b) else if E.1 c = 1 ∨ E.1 c = 2 then mi1 (F + 3) else (fun b => if b = E.2.2.1 c then E.2.2.2 c else mi1 (F + 3) b)) → Q (.inl none) (it_mem L xs X rw o g z) := fun X x0 x4 x5 x1 x2 x3 => hQ X x0 (FR_f hsk hS1 h6 x4 x5 x1 x2 x3)
    have u1 : ∀ X j x, it_up X (F + 1) j x (F + 4) = X (F + 4) := fun X j x => it_up_f _ _ _ (by omega)
    have u2 : ∀ X j x, it_up X (F + 2) j x (F + 4) = X (F + 4) := fun X j x => it_up_f _ _ _ (by omega)
    have u3 : ∀ X j x, it_up X (F + 3) j x (F + 4) = X (F + 4) := fun X j x => it_up_f _ _ _ (by omega)
    have u5 : ∀ X j x, it_up X (F + 5) j x (F + 4) = X (F + 4) := fun X j x => it_up_f _ _ _ (by omega)
    have y0 : ii 0 = 0 := rfl
    have y1 : ii 1 = 1 := rfl
    have y2 : ii 2 = 2 := rfl
    have y3 : ii 3 = 3 := rfl
    have y10 : ¬ (1 : Int32) = 0 := by decide
    have y20 : ¬ (2 : Int32) = 0 := by decide
    have y21 : ¬ (2 : Int32) = 1 := by decide
    have y30 : ¬ (3 : Int32) = 0 := by decide
    have y31 : ¬ (3 : Int32) = 1 := by decide
    have y32 : ¬ (3 : Int32) = 2 := by decide
    rcases (show E.1 c = 0 ∨ E.1 c = 1 ∨ E.1 c = 2 ∨ E.1 c = 3 by omega) with hk | hk | hk | hk
    · simp only [hk, y0, w23_45, w23_72, w23_73, w23_76, w23_78, w23_79, w23_82, w23_85, w23_86, w23_87, w23_90, w23_92, w23_94, w23_95, w23_96, w23_99, w23_101, w23_102, w23_103, w23_106, w23_107, w23_110, w23_112, w23_114, w23_115, w23_118, w23_119, w23_122, w23_124, w23_126, w23_127, w23_130, w23_131, w23_134, w23_136, w23_138, w23_139, w23_140, w23_143, w23_145, w23_146, w23_147, w23_148, w23_149, w23_150, isk_16, cv_16_0, cv_16_1, cv_16_2, isk_17, cv_17_0, cv_17_1, cv_17_2, cv_17_3, cv_17_4, cv_17_5, isa_18, ln_18, cv_18, ↓reduceIte, true_and, and_true, vok_int, vok_b0, vok_b1, vok_bb, r_backI, r_backV, bb_eq0, Nat.reduceAdd, Nat.reduceMul, Nat.reduceEqDiff, not_true_eq_false, not_false_eq_true, if_true, if_false, false_and, and_false, c17, c98, hF, cvg_6_0 hF, cvg_6_1 hF, cvg_6_2 hF, cvg_6_3 hF, isag_6_0 hF, isag_6_1 hF, isag_6_2 hF, isag_6_3 hF, cvag_6_3 hF, q1, q2, q3, q4, ei, g1, g2, g3, g4, c31, n18, r18, u1, u2, u3, u5, d1, d4]
      refine hfr _ (fun a ha => ?_) ?_ ?_ ?_ ?_ ?_
      · simp (disch := omega) only [it_up_f]
        exact hm1 a (by omega)
      · simp (disch := omega) only [it_up_row, it_up_f]
      · simp (disch := omega) only [it_up_row, it_up_f]
      · simp (disch := omega) only [it_up_row, it_up_f, hk]
        simp
      · simp (disch := omega) only [it_up_row, it_up_f, hk]
        simp
      · simp (disch := omega) only [it_up_row, it_up_f, hk]
        simp
    · simp only [hk, y1, y10, w23_45, w23_72, w23_73, w23_76, w23_78, w23_79, w23_82, w23_85, w23_86, w23_87, w23_90, w23_92, w23_94, w23_95, w23_96, w23_99, w23_101, w23_102, w23_103, w23_106, w23_107, w23_110, w23_112, w23_114, w23_115, w23_118, w23_119, w23_122, w23_124, w23_126, w23_127, w23_130, w23_131, w23_134, w23_136, w23_138, w23_139, w23_140, w23_143, w23_145, w23_146, w23_147, w23_148, w23_149, w23_150, isk_16, cv_16_0, cv_16_1, cv_16_2, isk_17, cv_17_0, cv_17_1, cv_17_2, cv_17_3, cv_17_4, cv_17_5, isa_18, ln_18, cv_18, ↓reduceIte, true_and, and_true, vok_int, vok_b0, vok_b1, vok_bb, r_backI, r_backV, bb_eq0, Nat.reduceAdd, Nat.reduceMul, Nat.reduceEqDiff, not_true_eq_false, not_false_eq_true, if_true, if_false, false_and, and_false, c17, c98, hF, cvg_6_0 hF, cvg_6_1 hF, cvg_6_2 hF, cvg_6_3 hF, isag_6_0 hF, isag_6_1 hF, isag_6_2 hF, isag_6_3 hF, cvag_6_3 hF, q1, q2, q3, q4, ei, g1, g2, g3, g4, c31, n18, r18, u1, u2, u3, u5, d1, d4]
      refine hfr _ (fun a ha => ?_) ?_ ?_ ?_ ?_ ?_
      · simp (disch := omega) only [it_up_f]
        exact hm1 a (by omega)
      · simp (disch := omega) only [it_up_row, it_up_f]
      · simp (disch := omega) only [it_up_row, it_up_f]
      · simp (disch := omega) only [it_up_row, it_up_f, hk]
        simp
      · simp (disch := omega) only [it_up_row, it_up_f, hk]
        simp
      · simp (disch := omega) only [it_up_row, it_up_f, hk]
        simp
    · simp only [hk, y2, y20, y21, w23_45, w23_72, w23_73, w23_76, w23_78, w23_79, w23_82, w23_85, w23_86, w23_87, w23_90, w23_92, w23_94, w23_95, w23_96, w23_99, w23_101, w23_102, w23_103, w23_106, w23_107, w23_110, w23_112, w23_114, w23_115, w23_118, w23_119, w23_122, w23_124, w23_126, w23_127, w23_130, w23_131, w23_134, w23_136, w23_138, w23_139, w23_140, w23_143, w23_145, w23_146, w23_147, w23_148, w23_149, w23_150, isk_16, cv_16_0, cv_16_1, cv_16_2, isk_17, cv_17_0, cv_17_1, cv_17_2, cv_17_3, cv_17_4, cv_17_5, isa_18, ln_18, cv_18, ↓reduceIte, true_and, and_true, vok_int, vok_b0, vok_b1, vok_bb, r_backI, r_backV, bb_eq0, Nat.reduceAdd, Nat.reduceMul, Nat.reduceEqDiff, not_true_eq_false, not_false_eq_true, if_true, if_false, false_and, and_false, c17, c98, hF, cvg_6_0 hF, cvg_6_1 hF, cvg_6_2 hF, cvg_6_3 hF, isag_6_0 hF, isag_6_1 hF, isag_6_2 hF, isag_6_3 hF, cvag_6_3 hF, q1, q2, q3, q4, ei, g1, g2, g3, g4, c31, n18, r18, u1, u2, u3, u5, d1, d4]
      refine hfr _ (fun a ha => ?_) ?_ ?_ ?_ ?_ ?_
      · simp (disch := omega) only [it_up_f]
        exact hm1 a (by omega)
      · simp (disch := omega) only [it_up_row, it_up_f]
      · simp (disch := omega) only [it_up_row, it_up_f]
      · simp (disch := omega) only [it_up_row, it_up_f, hk]
        simp
      · simp (disch := omega) only [it_up_row, it_up_f, hk]
        simp
      · simp (disch := omega) only [it_up_row, it_up_f, hk]
        simp
    · simp only [hk, y3, y30, y31, y32, w23_45, w23_72, w23_73, w23_76, w23_78, w23_79, w23_82, w23_85, w23_86, w23_87, w23_90, w23_92, w23_94, w23_95, w23_96, w23_99, w23_101, w23_102, w23_103, w23_106, w23_107, w23_110, w23_112, w23_114, w23_115, w23_118, w23_119, w23_122, w23_124, w23_126, w23_127, w23_130, w23_131, w23_134, w23_136, w23_138, w23_139, w23_140, w23_143, w23_145, w23_146, w23_147, w23_148, w23_149, w23_150, isk_16, cv_16_0, cv_16_1, cv_16_2, isk_17, cv_17_0, cv_17_1, cv_17_2, cv_17_3, cv_17_4, cv_17_5, isa_18, ln_18, cv_18, ↓reduceIte, true_and, and_true, vok_int, vok_b0, vok_b1, vok_bb, r_backI, r_backV, bb_eq0, Nat.reduceAdd, Nat.reduceMul, Nat.reduceEqDiff, not_true_eq_false, not_false_eq_true, if_true, if_false, false_and, and_false, c17, c98, hF, cvg_6_0 hF, cvg_6_1 hF, cvg_6_2 hF, cvg_6_3 hF, isag_6_0 hF, isag_6_1 hF, isag_6_2 hF, isag_6_3 hF, cvag_6_3 hF, q1, q2, q3, q4, ei, g1, g2, g3, g4, c31, n18, r18, u1, u2, u3, u5, d1, d4]
      refine hfr _ (fun a ha => ?_) ?_ ?_ ?_ ?_ ?_
      · simp (disch := omega) only [it_up_f]
        exact hm1 a (by omega)
      · simp (disch := omega) only [it_up_row, it_up_f]
      · simp (disch := omega) only [it_up_row, it_up_f]
      · simp (disch := omega) only [it_up_row, it_up_f, hk]
        simp
      · simp (disch := omega) only [it_up_row, it_up_f, hk]
        simp
      · simp (disch := omega) only [it_up_row, it_up_f, hk]
        simp
end
