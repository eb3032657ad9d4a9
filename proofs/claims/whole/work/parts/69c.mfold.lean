/-! The reference's fold. -/
theorem ford_enough {kn sp : Nat → Nat} : ∀ (n : Nat) (nx : Nat → Nat), (kn 0 - nx 0) + (kn 1 - nx 1) + (kn 2 - nx 2) = n → ∀ t, ford kn sp (n + t) nx = ford kn sp n nx := by
  intro n
  induction n with
  | zero =>
    intro nx hn t
    cases t with
    | zero => rfl
    | succ t =>
      have hb : fbest nx kn sp = none := fbest_none.mpr (by omega)
      rw [show 0 + (t + 1) = t + 1 by omega]
      show (match fbest nx kn sp with | none => [] | some o => (16 * o + nx o) :: ford kn sp t (va_up nx o (nx o + 1))) = []
      rw [hb]
  | succ n ih =>
    intro nx hn t
    rw [show n + 1 + t = (n + t) + 1 by omega]
    show (match fbest nx kn sp with | none => [] | some o => (16 * o + nx o) :: ford kn sp (n + t) (va_up nx o (nx o + 1))) = (match fbest nx kn sp with | none => [] | some o => (16 * o + nx o) :: ford kn sp n (va_up nx o (nx o + 1)))
    cases hb : fbest nx kn sp with
    | none => rfl
    | some q =>
      obtain ⟨hq, hq2⟩ := fbest_some hb
      simp only
      rw [ih (va_up nx q (nx q + 1)) ?_ t]
      rcases i_three hq with rfl | rfl | rfl
      · rw [va_up_self, va_up_ne _ _ (by decide), va_up_ne _ _ (by decide)]; omega
      · rw [va_up_self, va_up_ne _ _ (by decide), va_up_ne _ _ (by decide)]; omega
      · rw [va_up_self, va_up_ne _ _ (by decide), va_up_ne _ _ (by decide)]; omega
def oc (nx : Nat → Nat) (b : Option Nat) : Int32 := match b with | none => -1 | some q => ii (16 * q + nx q)
section
variable {d : Nat} {Q : im_O → im_M → Prop} {L : Nat} {xs : Nat → Int32} {mi : Nat → Nat → Int32} {rw : Nat → Nat} {o : Nat → Int64} {g z : Nat}
theorem c102L {p q : Nat} {nx kn sp : Nat → Nat} {b : Option Nat} {v1 v2 : Int32} {v : Value} (hp : p < 3) (hq : q < 3) (hn : ∀ r, r < 3 → mi 132 r = ii (nx r) ∧ nx r ≤ kn r ∧ mi 119 (3 * p + r) = ii (kn r) ∧ kn r ≤ 16) (hs : ∀ r, r < 3 → nx r < kn r → mi 115 (16 * r + nx r) = ii (sp (16 * r + nx r)) ∧ sp (16 * r + nx r) < 1000)
    (hb : ∀ r, b = some r → r < 3 ∧ nx r < kn r)
    (h : ∀ v', iw d 102 69 [.ref 99, .int (ii p), .int v1, .int v2, .int (oc nx (fb1 nx kn sp b q)), .int (ii (q + 1)), v'] [] (it_mem L xs mi rw o g z) Q) :
    iw d 102 69 [.ref 99, .int (ii p), .int v1, .int v2, .int (oc nx b), .int (ii q), v] [] (it_mem L xs mi rw o g z) Q := by
  obtain ⟨n1, n2, n3, n4⟩ := hn q hq
  have e : (ii q).toNatClampNeg = q := ii_clamp (by omega)
  have e3 : ¬ (3 : Int32) ≤ ii q := by rw [lit_3, ii_le (by decide) (by omega)]; omega
  have e1 : ii q + 1 = ii (q + 1) := ii_add (b := 1)
  have c0 : (3 : Int32) * ii p + ii q = ii (3 * p + q) := by rw [lit_3, ii_mul, ii_add]
  have c3 : (ii (3 * p + q)).toNatClampNeg = 3 * p + q := ii_clamp (by omega)
  have c1 : (16 : Int32) * ii q + ii (nx q) = ii (16 * q + nx q) := by rw [lit_16, ii_mul, ii_add]
  have b2 : it_inb L 132 (ii q) := inb3 hq ln_132
  have b3 : it_inb L 119 (ii (3 * p + q)) := ii_inb (by omega) (by rw [ln_119]; omega)
  rw [w102_69]
  by_cases hk : nx q < kn q
  · have e4 : ¬ ii (nx q) = ii (kn q) := fun w => by have := (ii_inj (by omega) (by omega)).mp w; omega
    have c2 : (ii (16 * q + nx q)).toNatClampNeg = 16 * q + nx q := ii_clamp (by omega)
    have b1 : it_inb L 115 (ii (16 * q + nx q)) := ii_inb (by omega) (by rw [ln_115]; omega)
    obtain ⟨s1, s2⟩ := hs q hq hk
    cases b with
    | none =>
      have hfb : fb1 nx kn sp none q = some q := by
        unfold fb1
        rw [if_pos hk]
      have hh := h (.int (ii (16 * q + nx q)))
      rw [hfb] at hh
      have m0 : (-1 : Int32) < 0 := by decide
      simp only [oc, w102_71, w102_72, w102_75, w102_76, w102_79, w102_81, w102_82, w102_83, w102_86, w102_87, w102_88, w102_89, w102_91, w102_92, w102_93, w102_96, w102_99, w102_101, w102_103, w102_104, w102_105, w102_108, w102_110, w102_111, w102_112, w102_114, w102_116, w102_119, w102_120, w102_123, w102_125, w102_126, w102_127, w102_130, w102_132, w102_133, w102_136, w102_138, w102_140, w102_143, isk_99, cv_99_0, cv_99_1, cv_99_2, cv_99_3, cv_99_4, cv_99_5, cv_99_6, cv_99_7, cv_99_8, cv_99_9, cv_99_10, cv_99_11, cv_99_12, cv_99_13, cv_99_14, cv_99_15, cv_99_16, cv_99_17, cv_99_18, cv_99_19, cv_99_20, cv_99_21, cv_99_22, cv_99_23, cv_99_24, cv_99_25, cv_99_26, cv_99_27, cv_99_28, cv_99_29, cv_99_30, cv_99_31, cv_99_32, cv_99_33, cv_99_34, cv_99_35, cv_99_36, cv_99_37, cv_99_38, cv_99_39, cv_99_40, cv_99_41, cv_99_42, cv_99_43, cv_99_44, cv_99_45, cv_99_46, isa_115, ln_115, cv_115, isa_119, ln_119, cv_119, isa_132, ln_132, cv_132, ↓reduceIte, true_and, and_true, vok_int, vok_b0, vok_b1, vok_bb, r_backI, r_backV, bb_eq0, Nat.reduceAdd, Nat.reduceMul, Nat.reduceEqDiff, not_true_eq_false, not_false_eq_true, if_true, if_false, false_and, and_false, c17, c98, e3, b2, b3, e, c0, c3, n1, n3, e4, c1, m0, e1] at hh ⊢
      exact hh
    | some r =>
      obtain ⟨r1, r2⟩ := hb r rfl
      obtain ⟨t1, t2⟩ := hs r r1 r2
      obtain ⟨_, w2, _, w4⟩ := hn r r1
      have m1 : ¬ ii (16 * r + nx r) < 0 := by rw [lit_0, ii_lt (by omega) (by decide)]; omega
      have c5 : (ii (16 * r + nx r)).toNatClampNeg = 16 * r + nx r := ii_clamp (by omega)
      have b5 : it_inb L 115 (ii (16 * r + nx r)) := ii_inb (by omega) (by rw [ln_115]; omega)
      by_cases hlt : sp (16 * q + nx q) < sp (16 * r + nx r)
      · have e5 : ¬ ii (sp (16 * r + nx r)) ≤ ii (sp (16 * q + nx q)) := by rw [ii_le (by omega) (by omega)]; omega
        have hfb2 : fb1 nx kn sp (some r) q = some q := by
          unfold fb1
          rw [if_pos hk]
          simp only
          rw [if_pos hlt]
        have hh := h (.int (ii (16 * q + nx q)))
        rw [hfb2] at hh
        simp only [oc, w102_71, w102_72, w102_75, w102_76, w102_79, w102_81, w102_82, w102_83, w102_86, w102_87, w102_88, w102_89, w102_91, w102_92, w102_93, w102_96, w102_99, w102_101, w102_103, w102_104, w102_105, w102_108, w102_110, w102_111, w102_112, w102_114, w102_116, w102_119, w102_120, w102_123, w102_125, w102_126, w102_127, w102_130, w102_132, w102_133, w102_136, w102_138, w102_140, w102_143, isk_99, cv_99_0, cv_99_1, cv_99_2, cv_99_3, cv_99_4, cv_99_5, cv_99_6, cv_99_7, cv_99_8, cv_99_9, cv_99_10, cv_99_11, cv_99_12, cv_99_13, cv_99_14, cv_99_15, cv_99_16, cv_99_17, cv_99_18, cv_99_19, cv_99_20, cv_99_21, cv_99_22, cv_99_23, cv_99_24, cv_99_25, cv_99_26, cv_99_27, cv_99_28, cv_99_29, cv_99_30, cv_99_31, cv_99_32, cv_99_33, cv_99_34, cv_99_35, cv_99_36, cv_99_37, cv_99_38, cv_99_39, cv_99_40, cv_99_41, cv_99_42, cv_99_43, cv_99_44, cv_99_45, cv_99_46, isa_115, ln_115, cv_115, isa_119, ln_119, cv_119, isa_132, ln_132, cv_132, ↓reduceIte, true_and, and_true, vok_int, vok_b0, vok_b1, vok_bb, r_backI, r_backV, bb_eq0, Nat.reduceAdd, Nat.reduceMul, Nat.reduceEqDiff, not_true_eq_false, not_false_eq_true, if_true, if_false, false_and, and_false, c17, c98, e3, b1, b2, b3, b5, e, c0, c2, c3, c5, n1, n3, e4, c1, m1, s1, t1, e5, e1] at hh ⊢
        exact hh
      · have e5 : ii (sp (16 * r + nx r)) ≤ ii (sp (16 * q + nx q)) := by rw [ii_le (by omega) (by omega)]; omega
        have hfb2 : fb1 nx kn sp (some r) q = some r := by
          unfold fb1
          rw [if_pos hk]
          simp only
          rw [if_neg hlt]
        have hh := h (.int (ii (16 * q + nx q)))
        rw [hfb2] at hh
        simp only [oc, w102_71, w102_72, w102_75, w102_76, w102_79, w102_81, w102_82, w102_83, w102_86, w102_87, w102_88, w102_89, w102_91, w102_92, w102_93, w102_96, w102_99, w102_101, w102_103, w102_104, w102_105, w102_108, w102_110, w102_111, w102_112, w102_114, w102_116, w102_119, w102_120, w102_123, w102_125, w102_126, w102_127, w102_130, w102_132, w102_133, w102_136, w102_138, w102_140, w102_143, isk_99, cv_99_0, cv_99_1, cv_99_2, cv_99_3, cv_99_4, cv_99_5, cv_99_6, cv_99_7, cv_99_8, cv_99_9, cv_99_10, cv_99_11, cv_99_12, cv_99_13, cv_99_14, cv_99_15, cv_99_16, cv_99_17, cv_99_18, cv_99_19, cv_99_20, cv_99_21, cv_99_22, cv_99_23, cv_99_24, cv_99_25, cv_99_26, cv_99_27, cv_99_28, cv_99_29, cv_99_30, cv_99_31, cv_99_32, cv_99_33, cv_99_34, cv_99_35, cv_99_36, cv_99_37, cv_99_38, cv_99_39, cv_99_40, cv_99_41, cv_99_42, cv_99_43, cv_99_44, cv_99_45, cv_99_46, isa_115, ln_115, cv_115, isa_119, ln_119, cv_119, isa_132, ln_132, cv_132, ↓reduceIte, true_and, and_true, vok_int, vok_b0, vok_b1, vok_bb, r_backI, r_backV, bb_eq0, Nat.reduceAdd, Nat.reduceMul, Nat.reduceEqDiff, not_true_eq_false, not_false_eq_true, if_true, if_false, false_and, and_false, c17, c98, e3, b1, b2, b3, b5, e, c0, c2, c3, c5, n1, n3, e4, c1, m1, s1, t1, e5, e1] at hh ⊢
        exact hh
  · have e4 : nx q = kn q := by omega
    have hfb : fb1 nx kn sp b q = b := by
      unfold fb1
      rw [if_neg hk]
    have hh := h v
    rw [hfb] at hh
    simp only [w102_71, w102_72, w102_75, w102_76, w102_79, w102_81, w102_82, w102_83, w102_86, w102_87, w102_88, w102_89, w102_91, w102_92, w102_93, w102_96, w102_99, w102_101, w102_103, w102_104, w102_105, w102_108, w102_110, w102_111, w102_112, w102_114, w102_116, w102_119, w102_120, w102_123, w102_125, w102_126, w102_127, w102_130, w102_132, w102_133, w102_136, w102_138, w102_140, w102_143, isk_99, cv_99_0, cv_99_1, cv_99_2, cv_99_3, cv_99_4, cv_99_5, cv_99_6, cv_99_7, cv_99_8, cv_99_9, cv_99_10, cv_99_11, cv_99_12, cv_99_13, cv_99_14, cv_99_15, cv_99_16, cv_99_17, cv_99_18, cv_99_19, cv_99_20, cv_99_21, cv_99_22, cv_99_23, cv_99_24, cv_99_25, cv_99_26, cv_99_27, cv_99_28, cv_99_29, cv_99_30, cv_99_31, cv_99_32, cv_99_33, cv_99_34, cv_99_35, cv_99_36, cv_99_37, cv_99_38, cv_99_39, cv_99_40, cv_99_41, cv_99_42, cv_99_43, cv_99_44, cv_99_45, cv_99_46, isa_115, ln_115, cv_115, isa_119, ln_119, cv_119, isa_132, ln_132, cv_132, ↓reduceIte, true_and, and_true, vok_int, vok_b0, vok_b1, vok_bb, r_backI, r_backV, bb_eq0, Nat.reduceAdd, Nat.reduceMul, Nat.reduceEqDiff, not_true_eq_false, not_false_eq_true, if_true, if_false, false_and, and_false, c17, c98, e3, b2, b3, e, c0, c3, n1, n3, e4, e1]
    exact hh
end
