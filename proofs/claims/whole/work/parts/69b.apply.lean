/-! The reference's apply. -/
theorem MR_t {N c : Nat} {m m' : Nat → Nat → Int32} {S : FST} {D : Nat → Prop} {E : EVT} {A : LWT} (hsk : fskip E A S c) (hS : it_MR N m S D) (h : ∀ a, 126 ≤ a → a ≤ 130 → m' a = m a) (h5 : m' 131 = fun b => if b = c then 1 else m 131 b) : it_MR (N + 1) m' (fstep E A S c) (fun e => D e ∨ e = c) := by
  rw [fstep_t hsk]
  refine ⟨fun i hi => ?_, fun e he hD => ?_⟩
  · obtain ⟨s1, s2, s3⟩ := hS.1 i hi
    rw [h 126 (by omega) (by omega), h 127 (by omega) (by omega), h 128 (by omega) (by omega), h 129 (by omega) (by omega), h 130 (by omega) (by omega)]
    exact ⟨s1, Nat.le_succ_of_le s2, s3⟩
  · rw [h5]
    simp only
    by_cases e1 : e = c
    · subst e1
      rw [if_pos rfl, va_up_self, bb_T]
    · rw [if_neg e1, va_up_ne _ _ e1]
      rcases hD with hD | hD
      · exact hS.2 e he hD
      · exact absurd hD e1
theorem MR_f {N c : Nat} {m m' : Nat → Nat → Int32} {S : FST} {D : Nat → Prop} {E : EVT} {A : LWT} (hsk : ¬ fskip E A S c) (hS : it_MR N m S D) (hi : E.2.2.1 c < 48)
    (h6 : m' 126 = fun b => if b = E.2.2.1 c then 1 else m 126 b) (h4 : m' 130 = fun b => if b = E.2.2.1 c then ii (S.1 (E.2.2.1 c) + 1) else m 130 b) (h5 : m' 131 = fun b => if b = c then 0 else m 131 b)
    (h1 : m' 127 = if E.1 c = 0 then (fun b => if b = E.2.2.1 c then A.2.2.1 else m 127 b) else if E.1 c = 1 then (fun b => if b = E.2.2.1 c then E.2.2.2 c else m 127 b) else m 127)
    (h2 : m' 128 = if E.1 c = 0 ∨ E.1 c = 2 then (fun b => if b = E.2.2.1 c then E.2.2.2 c else m 128 b) else m 128)
    (h3 : m' 129 = if E.1 c = 0 then (fun b => if b = E.2.2.1 c then 4 else m 129 b) else if E.1 c = 1 ∨ E.1 c = 2 then m 129 else (fun b => if b = E.2.2.1 c then E.2.2.2 c else m 129 b)) : it_MR (N + 1) m' (fstep E A S c) (fun e => D e ∨ e = c) := by
  rw [fstep_f hsk]
  have hd : E.1 c ≠ 0 → S.1 (E.2.2.1 c) ≠ 0 := fun h0 hz => hsk (Or.inr ⟨h0, Or.inl hz⟩)
  refine ⟨fun i hi2 => ?_, fun e he hD => ?_⟩
  · obtain ⟨s1, s2, s3⟩ := hS.1 i hi2
    by_cases ei : i = E.2.2.1 c
    · subst ei
      refine ⟨?_, ?_, fun _ => ⟨?_, ?_, ?_, ?_⟩⟩
      · rw [h6]
        simp only [if_true]
        rw [bb_t]
        rw [va_up_self]
        omega
      · simp only; rw [va_up_self]; omega
      · rw [h1]
        by_cases e0 : E.1 c = 0
        · simp [e0, va_up_self]
        · by_cases e1 : E.1 c = 1
          · simp [e1, va_up_self]
          · simp only [e0, e1, if_false]; exact (s3 (hd e0)).1
      · rw [h2]
        by_cases e0 : E.1 c = 0 ∨ E.1 c = 2
        · simp [e0, va_up_self]
        · simp only [e0, if_false]; exact (s3 (hd (fun q => e0 (Or.inl q)))).2.1
      · rw [h3]
        by_cases e0 : E.1 c = 0
        · simp [e0, va_up_self]
        · by_cases e1 : E.1 c = 1 ∨ E.1 c = 2
          · simp only [e0, e1, if_true, if_false]; exact (s3 (hd e0)).2.2.1
          · simp [e0, e1, va_up_self]
      · rw [h4]; simp [va_up_self]
    · refine ⟨?_, ?_, fun hz => ?_⟩
      · rw [h6]; simp only; rw [if_neg ei, va_up_ne _ _ ei]; exact s1
      · simp only; rw [va_up_ne _ _ ei]; omega
      · simp only at hz ⊢
        rw [va_up_ne _ _ ei] at hz
        obtain ⟨t1, t2, t3, t4⟩ := s3 hz
        refine ⟨?_, ?_, ?_, ?_⟩
        · rw [h1]
          by_cases e0 : E.1 c = 0
          · simp [e0, ei, va_up_ne _ _ ei, t1]
          · by_cases e1 : E.1 c = 1
            · simp [e1, ei, va_up_ne _ _ ei, t1]
            · simp [e0, e1, t1]
        · rw [h2]
          by_cases e0 : E.1 c = 0 ∨ E.1 c = 2
          · simp [e0, ei, va_up_ne _ _ ei, t2]
          · simp [e0, t2]
        · rw [h3]
          by_cases e0 : E.1 c = 0
          · simp [e0, ei, va_up_ne _ _ ei, t3]
          · by_cases e1 : E.1 c = 1 ∨ E.1 c = 2
            · simp [e0, e1, t3]
            · simp [e0, e1, ei, va_up_ne _ _ ei, t3]
        · rw [h4]; simp [ei, va_up_ne _ _ ei, t4]
  · rw [h5]
    simp only
    by_cases e1 : e = c
    · subst e1
      rw [if_pos rfl, va_up_self, bb_F]
    · rw [if_neg e1, va_up_ne _ _ e1]
      rcases hD with hD | hD
      · exact hS.2 e he hD
      · exact absurd hD e1
section
variable {d : Nat} {Q : im_O → im_M → Prop} {L : Nat} {xs : Nat → Int32} {mi : Nat → Nat → Int32} {rw : Nat → Nat} {o : Nat → Int64} {g z : Nat}
theorem c103 {N c : Nat} {S : FST} {E : EVT} {A : LWT} {D : Nat → Prop} {W : (Nat → Nat → Int32) → Prop} {v2 : Value} (h105 : it_h105 A W) (hW : W mi) (hc : c < 48) (hE : it_evt E mi 114 116 117 118 c) (h0 : E.1 c = 0 → S.1 (E.2.2.1 c) = 0) (hA : it_lwM A mi) (hN : N < 1000) (hS : it_MR N mi S D)
    (hQ : ∀ mi', (∀ a, a < 104 ∨ (107 ≤ a ∧ a ≤ 125) ∨ 132 ≤ a → mi' a = mi a) → it_MR (N + 1) mi' (fstep E A S c) (fun e => D e ∨ e = c) → Q (.inl none) (it_mem L xs mi' rw o g z)) :
    iw (d + 5) 103 0 [.ref 99, .int (ii c), v2] [] (it_mem L xs mi rw o g z) Q := by
  obtain ⟨h1, h2, h3, h4, h5, h6, h7⟩ := hE
  have ec : (ii c).toNatClampNeg = c := ii_clamp (by omega)
  have b1 : it_inb L 114 (ii c) := ii_inb (by omega) (by rw [ln_114]; omega)
  have b2 : it_inb L 116 (ii c) := ii_inb (by omega) (by rw [ln_116]; omega)
  have b3 : it_inb L 117 (ii c) := ii_inb (by omega) (by rw [ln_117]; omega)
  have b4 : it_inb L 118 (ii c) := ii_inb (by omega) (by rw [ln_118]; omega)
  have b5 : it_inb L 131 (ii c) := ii_inb (by omega) (by rw [ln_131]; omega)
  simp only [w103_0, w103_1, w103_4, w103_5, w103_6, w103_7, w103_8, w103_11, w103_12, w103_13, w103_14, w103_17, w103_18, w103_19, w103_20, w103_23, w103_24, w103_25, w103_26, w103_27, w103_30, w103_31, w103_32, isk_99, cv_99_0, cv_99_1, cv_99_2, cv_99_3, cv_99_4, cv_99_5, cv_99_6, cv_99_7, cv_99_8, cv_99_9, cv_99_10, cv_99_11, cv_99_12, cv_99_13, cv_99_14, cv_99_15, cv_99_16, cv_99_17, cv_99_18, cv_99_19, cv_99_20, cv_99_21, cv_99_22, cv_99_23, cv_99_24, cv_99_25, cv_99_26, cv_99_27, cv_99_28, cv_99_29, cv_99_30, cv_99_31, cv_99_32, cv_99_33, cv_99_34, cv_99_35, cv_99_36, cv_99_37, cv_99_38, cv_99_39, cv_99_40, cv_99_41, cv_99_42, cv_99_43, cv_99_44, cv_99_45, cv_99_46, isa_114, ln_114, cv_114, isa_116, ln_116, cv_116, isa_117, ln_117, cv_117, isa_118, ln_118, cv_118, isa_131, ln_131, cv_131, ↓reduceIte, true_and, and_true, vok_int, vok_b0, vok_b1, vok_bb, r_backI, r_backV, bb_eq0, Nat.reduceAdd, Nat.reduceMul, Nat.reduceEqDiff, not_true_eq_false, not_false_eq_true, if_true, if_false, false_and, and_false, c17, c98, b1, b2, b3, b4, ec, h1, h3, h5, h7]
  refine c104 h105 hW h2 h4 h6 hA hS (fun mi1 hm1 => ?_)
  have m1 : ∀ a, a < 104 ∨ 107 ≤ a → ∀ b, mi1 a b = mi a b := fun a h b => by rw [hm1 a h]
  have hS1 : it_MR N mi1 S D := by
    obtain ⟨s1, s2⟩ := hS
    refine ⟨fun i hi => ?_, fun e he hD => ?_⟩
    · rw [hm1 126 (by omega), hm1 127 (by omega), hm1 128 (by omega), hm1 129 (by omega), hm1 130 (by omega)]
      exact s1 i hi
    · rw [hm1 131 (by omega)]
      exact s2 e he hD
  have v0 : vp_nar .boolean (0 : Int32) = 0 := rfl
  have v1 : vp_nar .boolean (1 : Int32) = 1 := rfl
  have z1 : ¬ (1 : Int32) = 0 := by decide
  by_cases hsk : fskip E A S c
  · have e1 : bb (¬ fskip E A S c) = 0 := bb_f (fun q => q hsk)
    rw [e1]
    simp only [↓reduceIte, true_and, and_true, vok_int, vok_b0, vok_b1, vok_bb, r_backI, r_backV, bb_eq0, Nat.reduceAdd, Nat.reduceMul, Nat.reduceEqDiff, not_true_eq_false, not_false_eq_true, if_true, if_false, false_and, and_false, c17, c98, w103_35, w103_38, w103_39, w103_42, w103_43, w103_44, w103_45, w103_48, w103_49, w103_50, w103_53, isk_99, cv_99_0, cv_99_1, cv_99_2, cv_99_3, cv_99_4, cv_99_5, cv_99_6, cv_99_7, cv_99_8, cv_99_9, cv_99_10, cv_99_11, cv_99_12, cv_99_13, cv_99_14, cv_99_15, cv_99_16, cv_99_17, cv_99_18, cv_99_19, cv_99_20, cv_99_21, cv_99_22, cv_99_23, cv_99_24, cv_99_25, cv_99_26, cv_99_27, cv_99_28, cv_99_29, cv_99_30, cv_99_31, cv_99_32, cv_99_33, cv_99_34, cv_99_35, cv_99_36, cv_99_37, cv_99_38, cv_99_39, cv_99_40, cv_99_41, cv_99_42, cv_99_43, cv_99_44, cv_99_45, cv_99_46, isa_131, ln_131, cv_131, b5, ec, v1, it_up_same, z1, Nat.reduceLeDiff]
    refine hQ _ (fun a ha => ?_) (MR_t hsk hS1 (fun a ha1 ha2 => it_up_f _ _ _ (by omega)) (it_up_row _ _ _ _))
    rw [it_up_f _ _ _ (by omega)]
    exact hm1 a (by omega)
  · have e1 : bb (¬ fskip E A S c) = 1 := bb_t hsk
    have q1 : it_inb L 126 (ii (E.2.2.1 c)) := ii_inb (by omega) (by rw [ln_126]; omega)
    have q2 : it_inb L 127 (ii (E.2.2.1 c)) := ii_inb (by omega) (by rw [ln_127]; omega)
    have q3 : it_inb L 128 (ii (E.2.2.1 c)) := ii_inb (by omega) (by rw [ln_128]; omega)
    have q4 : it_inb L 129 (ii (E.2.2.1 c)) := ii_inb (by omega) (by rw [ln_129]; omega)
    have q5 : it_inb L 130 (ii (E.2.2.1 c)) := ii_inb (by omega) (by rw [ln_130]; omega)
    have q6 : it_inb L 107 0 := ii_inb (n := 0) (by decide) (by rw [ln_107]; decide)
    have ei : (ii (E.2.2.1 c)).toNatClampNeg = E.2.2.1 c := ii_clamp (by omega)
    have r114 := (m1 114 (by omega) c).trans h1
    have r118 := (m1 118 (by omega) c).trans h7
    have r107 := (m1 107 (by omega) 0).trans hA.2
    obtain ⟨d1, d2, d3⟩ := hS1.1 _ h6
    have d4 : ii (S.1 (E.2.2.1 c)) + 1 = ii (S.1 (E.2.2.1 c) + 1) := ii_add (b := 1)
    have hd : E.1 c ≠ 0 → S.1 (E.2.2.1 c) ≠ 0 := fun h0 hz => hsk (Or.inr ⟨h0, Or.inl hz⟩)
    rw [e1]
    simp only [↓reduceIte, true_and, and_true, vok_int, vok_b0, vok_b1, vok_bb, r_backI, r_backV, bb_eq0, Nat.reduceAdd, Nat.reduceMul, Nat.reduceEqDiff, not_true_eq_false, not_false_eq_true, if_true, if_false, false_and, and_false, c17, c98, w103_35, w103_38, w103_39, w103_42, w103_43, w103_44, w103_45, w103_48, w103_49, w103_50, w103_53, w103_54, w103_55, w103_58, w103_59, isk_99, cv_99_0, cv_99_1, cv_99_2, cv_99_3, cv_99_4, cv_99_5, cv_99_6, cv_99_7, cv_99_8, cv_99_9, cv_99_10, cv_99_11, cv_99_12, cv_99_13, cv_99_14, cv_99_15, cv_99_16, cv_99_17, cv_99_18, cv_99_19, cv_99_20, cv_99_21, cv_99_22, cv_99_23, cv_99_24, cv_99_25, cv_99_26, cv_99_27, cv_99_28, cv_99_29, cv_99_30, cv_99_31, cv_99_32, cv_99_33, cv_99_34, cv_99_35, cv_99_36, cv_99_37, cv_99_38, cv_99_39, cv_99_40, cv_99_41, cv_99_42, cv_99_43, cv_99_44, cv_99_45, cv_99_46, isa_114, ln_114, cv_114, isa_131, ln_131, cv_131, b1, b5, ec, v0, it_up_same, z1, Nat.reduceLeDiff, it_up_f mi1 c 0 (show 114 ≠ 131 by decide), r114]
    have hfr : ∀ X, (∀ a, a < 104 ∨ (107 ≤ a ∧ a ≤ 125) ∨ 132 ≤ a → X a = mi a) → X 126 = (fun b => if b = E.2.2.1 c then 1 else mi1 126 b) → X 130 = (fun b => if b = E.2.2.1 c then ii (S.1 (E.2.2.1 c) + 1) else mi1 130 b) → X 131 = (fun b => if b = c then 0 else mi1 131 b) → (X 127 = if E.1 c = 0 then (fun b => if b = E.2.2.1 c then A.2.2.1 else mi1 127 b) else if E.1 c = 1 then (fun b => if b = E.2.2.1 c then E.2.2.2 c else mi1 127 b) else mi1 127) → (X 128 = if E.1 c = 0 ∨ E.1 c = 2 then (fun b => if b = E.2.2.1 c then E.2.2.2 c else mi1 128 b) else mi1 128) → (X 129 = if E.1 c = 0 then (fun b => if b = E.2.2.1 c then 4 else mi1 129 b) else if E.1 c = 1 ∨ E.1 c = 2 then mi1 129 else (fun b => if b = E.2.2.1 c then E.2.2.2 c else mi1 129 b)) → Q (.inl none) (it_mem L xs X rw o g z) := fun X x0 x6 x4 x5 x1 x2 x3 => hQ X x0 (MR_f hsk hS1 h6 x6 x4 x5 x1 x2 x3)
    have y0 : ii 0 = 0 := rfl
    have y1 : ii 1 = 1 := rfl
    have y2 : ii 2 = 2 := rfl
    have y3 : ii 3 = 3 := rfl
    have y10 : ¬ (1 : Int32) = 0 := by decide
    have y20 : ¬ (2 : Int32) = 0 := by decide
    have y21 : ¬ (2 : Int32) = 1 := by decide
    have y30 : ¬ (3 : Int32) = 0 := by decide
    have y31 : ¬ (3 : Int32) = 1 := by decide
    have y32 : ¬ (3 : Int32) = 2 := by decide
    have there1 : S.1 (E.2.2.1 c) ≠ 0 → mi1 126 (E.2.2.1 c) = 1 := fun h => by rw [d1, bb_t h]
    have same126 : S.1 (E.2.2.1 c) ≠ 0 → mi1 126 = (fun b => if b = E.2.2.1 c then 1 else mi1 126 b) := by
      intro h
      funext b
      by_cases e : b = E.2.2.1 c
      · rw [if_pos e, e]; exact there1 h
      · rw [if_neg e]
    rcases (show E.1 c = 0 ∨ E.1 c = 1 ∨ E.1 c = 2 ∨ E.1 c = 3 by omega) with hk | hk | hk | hk
    · have s0 := h0 hk
      have s9 : (0 : Int32) + 1 = ii (S.1 (E.2.2.1 c) + 1) := by rw [s0]; rfl
      simp (disch := first | omega | decide) only [hk, y0, w103_60, w103_88, w103_89, w103_92, w103_93, w103_94, w103_95, w103_96, w103_99, w103_100, w103_101, w103_104, w103_105, w103_106, w103_107, w103_108, w103_111, w103_112, w103_113, w103_116, w103_117, w103_118, w103_119, w103_120, w103_123, w103_124, w103_125, w103_126, w103_127, w103_130, w103_131, w103_132, w103_133, w103_136, w103_137, w103_140, w103_141, w103_142, w103_145, w103_146, w103_147, w103_148, w103_151, w103_152, w103_155, w103_156, w103_157, w103_160, w103_161, w103_162, w103_163, w103_166, w103_167, w103_170, w103_171, w103_172, w103_175, w103_176, w103_177, w103_178, w103_179, w103_182, w103_183, w103_184, w103_185, w103_186, w103_187, w103_188, isk_99, cv_99_0, cv_99_1, cv_99_2, cv_99_3, cv_99_4, cv_99_5, cv_99_6, cv_99_7, cv_99_8, cv_99_9, cv_99_10, cv_99_11, cv_99_12, cv_99_13, cv_99_14, cv_99_15, cv_99_16, cv_99_17, cv_99_18, cv_99_19, cv_99_20, cv_99_21, cv_99_22, cv_99_23, cv_99_24, cv_99_25, cv_99_26, cv_99_27, cv_99_28, cv_99_29, cv_99_30, cv_99_31, cv_99_32, cv_99_33, cv_99_34, cv_99_35, cv_99_36, cv_99_37, cv_99_38, cv_99_39, cv_99_40, cv_99_41, cv_99_42, cv_99_43, cv_99_44, cv_99_45, cv_99_46, isa_107, ln_107, cv_107, isa_118, ln_118, cv_118, isa_126, ln_126, cv_126, isa_127, ln_127, cv_127, isa_128, ln_128, cv_128, isa_129, ln_129, cv_129, isa_130, ln_130, cv_130, ↓reduceIte, true_and, and_true, vok_int, vok_b0, vok_b1, vok_bb, r_backI, r_backV, bb_eq0, Nat.reduceAdd, Nat.reduceMul, Nat.reduceEqDiff, not_true_eq_false, not_false_eq_true, if_true, if_false, false_and, and_false, c17, c98, b4, ec, q1, q2, q3, q4, q5, q6, ei, v1, k0, it_up_same, it_up_f, r107, r118, s9, d4, Nat.reduceLeDiff]
      refine hfr _ (fun a ha => ?_) ?_ ?_ ?_ ?_ ?_ ?_
      · simp (disch := omega) only [it_up_f]
        exact hm1 a (by omega)
      · simp (disch := omega) only [it_up_row, it_up_f]
      · simp (disch := omega) only [it_up_row, it_up_f]
        funext b
        by_cases e : b = E.2.2.1 c
        · simp [e]
        · simp [e]
      · simp (disch := omega) only [it_up_row, it_up_f]
      · simp (disch := omega) only [it_up_row, it_up_f, hk]
        simp
      · simp (disch := omega) only [it_up_row, it_up_f, hk]
        simp
      · simp (disch := omega) only [it_up_row, it_up_f, hk]
        simp
    · have sd := hd (by omega)
      have s9 := (d3 sd).2.2.2
      simp (disch := first | omega | decide) only [hk, y1, y10, w103_60, w103_88, w103_89, w103_92, w103_93, w103_94, w103_95, w103_96, w103_99, w103_100, w103_101, w103_104, w103_105, w103_106, w103_107, w103_108, w103_111, w103_112, w103_113, w103_116, w103_117, w103_118, w103_119, w103_120, w103_123, w103_124, w103_125, w103_126, w103_127, w103_130, w103_131, w103_132, w103_133, w103_136, w103_137, w103_140, w103_141, w103_142, w103_145, w103_146, w103_147, w103_148, w103_151, w103_152, w103_155, w103_156, w103_157, w103_160, w103_161, w103_162, w103_163, w103_166, w103_167, w103_170, w103_171, w103_172, w103_175, w103_176, w103_177, w103_178, w103_179, w103_182, w103_183, w103_184, w103_185, w103_186, w103_187, w103_188, isk_99, cv_99_0, cv_99_1, cv_99_2, cv_99_3, cv_99_4, cv_99_5, cv_99_6, cv_99_7, cv_99_8, cv_99_9, cv_99_10, cv_99_11, cv_99_12, cv_99_13, cv_99_14, cv_99_15, cv_99_16, cv_99_17, cv_99_18, cv_99_19, cv_99_20, cv_99_21, cv_99_22, cv_99_23, cv_99_24, cv_99_25, cv_99_26, cv_99_27, cv_99_28, cv_99_29, cv_99_30, cv_99_31, cv_99_32, cv_99_33, cv_99_34, cv_99_35, cv_99_36, cv_99_37, cv_99_38, cv_99_39, cv_99_40, cv_99_41, cv_99_42, cv_99_43, cv_99_44, cv_99_45, cv_99_46, isa_107, ln_107, cv_107, isa_118, ln_118, cv_118, isa_126, ln_126, cv_126, isa_127, ln_127, cv_127, isa_128, ln_128, cv_128, isa_129, ln_129, cv_129, isa_130, ln_130, cv_130, ↓reduceIte, true_and, and_true, vok_int, vok_b0, vok_b1, vok_bb, r_backI, r_backV, bb_eq0, Nat.reduceAdd, Nat.reduceMul, Nat.reduceEqDiff, not_true_eq_false, not_false_eq_true, if_true, if_false, false_and, and_false, c17, c98, b4, ec, q1, q2, q3, q4, q5, q6, ei, v1, k0, it_up_same, it_up_f, r107, r118, s9, d4, Nat.reduceLeDiff]
      refine hfr _ (fun a ha => ?_) ?_ ?_ ?_ ?_ ?_ ?_
      · simp (disch := omega) only [it_up_f]
        exact hm1 a (by omega)
      · simp (disch := omega) only [it_up_row, it_up_f]
        exact same126 sd
      · simp (disch := omega) only [it_up_row, it_up_f]
      · simp (disch := omega) only [it_up_row, it_up_f]
      · simp (disch := omega) only [it_up_row, it_up_f, hk]
        simp
      · simp (disch := omega) only [it_up_row, it_up_f, hk]
        simp
      · simp (disch := omega) only [it_up_row, it_up_f, hk]
        simp
    · have sd := hd (by omega)
      have s9 := (d3 sd).2.2.2
      simp (disch := first | omega | decide) only [hk, y2, y20, y21, w103_60, w103_88, w103_89, w103_92, w103_93, w103_94, w103_95, w103_96, w103_99, w103_100, w103_101, w103_104, w103_105, w103_106, w103_107, w103_108, w103_111, w103_112, w103_113, w103_116, w103_117, w103_118, w103_119, w103_120, w103_123, w103_124, w103_125, w103_126, w103_127, w103_130, w103_131, w103_132, w103_133, w103_136, w103_137, w103_140, w103_141, w103_142, w103_145, w103_146, w103_147, w103_148, w103_151, w103_152, w103_155, w103_156, w103_157, w103_160, w103_161, w103_162, w103_163, w103_166, w103_167, w103_170, w103_171, w103_172, w103_175, w103_176, w103_177, w103_178, w103_179, w103_182, w103_183, w103_184, w103_185, w103_186, w103_187, w103_188, isk_99, cv_99_0, cv_99_1, cv_99_2, cv_99_3, cv_99_4, cv_99_5, cv_99_6, cv_99_7, cv_99_8, cv_99_9, cv_99_10, cv_99_11, cv_99_12, cv_99_13, cv_99_14, cv_99_15, cv_99_16, cv_99_17, cv_99_18, cv_99_19, cv_99_20, cv_99_21, cv_99_22, cv_99_23, cv_99_24, cv_99_25, cv_99_26, cv_99_27, cv_99_28, cv_99_29, cv_99_30, cv_99_31, cv_99_32, cv_99_33, cv_99_34, cv_99_35, cv_99_36, cv_99_37, cv_99_38, cv_99_39, cv_99_40, cv_99_41, cv_99_42, cv_99_43, cv_99_44, cv_99_45, cv_99_46, isa_107, ln_107, cv_107, isa_118, ln_118, cv_118, isa_126, ln_126, cv_126, isa_127, ln_127, cv_127, isa_128, ln_128, cv_128, isa_129, ln_129, cv_129, isa_130, ln_130, cv_130, ↓reduceIte, true_and, and_true, vok_int, vok_b0, vok_b1, vok_bb, r_backI, r_backV, bb_eq0, Nat.reduceAdd, Nat.reduceMul, Nat.reduceEqDiff, not_true_eq_false, not_false_eq_true, if_true, if_false, false_and, and_false, c17, c98, b4, ec, q1, q2, q3, q4, q5, q6, ei, v1, k0, it_up_same, it_up_f, r107, r118, s9, d4, Nat.reduceLeDiff]
      refine hfr _ (fun a ha => ?_) ?_ ?_ ?_ ?_ ?_ ?_
      · simp (disch := omega) only [it_up_f]
        exact hm1 a (by omega)
      · simp (disch := omega) only [it_up_row, it_up_f]
        exact same126 sd
      · simp (disch := omega) only [it_up_row, it_up_f]
      · simp (disch := omega) only [it_up_row, it_up_f]
      · simp (disch := omega) only [it_up_row, it_up_f, hk]
        simp
      · simp (disch := omega) only [it_up_row, it_up_f, hk]
        simp
      · simp (disch := omega) only [it_up_row, it_up_f, hk]
        simp
    · have sd := hd (by omega)
      have s9 := (d3 sd).2.2.2
      simp (disch := first | omega | decide) only [hk, y3, y30, y31, y32, w103_60, w103_88, w103_89, w103_92, w103_93, w103_94, w103_95, w103_96, w103_99, w103_100, w103_101, w103_104, w103_105, w103_106, w103_107, w103_108, w103_111, w103_112, w103_113, w103_116, w103_117, w103_118, w103_119, w103_120, w103_123, w103_124, w103_125, w103_126, w103_127, w103_130, w103_131, w103_132, w103_133, w103_136, w103_137, w103_140, w103_141, w103_142, w103_145, w103_146, w103_147, w103_148, w103_151, w103_152, w103_155, w103_156, w103_157, w103_160, w103_161, w103_162, w103_163, w103_166, w103_167, w103_170, w103_171, w103_172, w103_175, w103_176, w103_177, w103_178, w103_179, w103_182, w103_183, w103_184, w103_185, w103_186, w103_187, w103_188, isk_99, cv_99_0, cv_99_1, cv_99_2, cv_99_3, cv_99_4, cv_99_5, cv_99_6, cv_99_7, cv_99_8, cv_99_9, cv_99_10, cv_99_11, cv_99_12, cv_99_13, cv_99_14, cv_99_15, cv_99_16, cv_99_17, cv_99_18, cv_99_19, cv_99_20, cv_99_21, cv_99_22, cv_99_23, cv_99_24, cv_99_25, cv_99_26, cv_99_27, cv_99_28, cv_99_29, cv_99_30, cv_99_31, cv_99_32, cv_99_33, cv_99_34, cv_99_35, cv_99_36, cv_99_37, cv_99_38, cv_99_39, cv_99_40, cv_99_41, cv_99_42, cv_99_43, cv_99_44, cv_99_45, cv_99_46, isa_107, ln_107, cv_107, isa_118, ln_118, cv_118, isa_126, ln_126, cv_126, isa_127, ln_127, cv_127, isa_128, ln_128, cv_128, isa_129, ln_129, cv_129, isa_130, ln_130, cv_130, ↓reduceIte, true_and, and_true, vok_int, vok_b0, vok_b1, vok_bb, r_backI, r_backV, bb_eq0, Nat.reduceAdd, Nat.reduceMul, Nat.reduceEqDiff, not_true_eq_false, not_false_eq_true, if_true, if_false, false_and, and_false, c17, c98, b4, ec, q1, q2, q3, q4, q5, q6, ei, v1, k0, it_up_same, it_up_f, r107, r118, s9, d4, Nat.reduceLeDiff]
      refine hfr _ (fun a ha => ?_) ?_ ?_ ?_ ?_ ?_ ?_
      · simp (disch := omega) only [it_up_f]
        exact hm1 a (by omega)
      · simp (disch := omega) only [it_up_row, it_up_f]
        exact same126 sd
      · simp (disch := omega) only [it_up_row, it_up_f]
      · simp (disch := omega) only [it_up_row, it_up_f]
      · simp (disch := omega) only [it_up_row, it_up_f, hk]
        simp
      · simp (disch := omega) only [it_up_row, it_up_f, hk]
        simp
      · simp (disch := omega) only [it_up_row, it_up_f, hk]
        simp
end
