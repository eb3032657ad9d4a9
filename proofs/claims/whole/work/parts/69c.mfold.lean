/-! The reference's fold. -/
theorem ford_enough {kn sp : Nat → Nat} : ∀ (n : Nat) (nx : Nat → Nat), (kn 0 - nx 0) + (kn 1 - nx 1) + (kn 2 - nx 2) = n → ∀ t, ford kn sp (n + t) nx = ford kn sp n nx := by
  intro n
  induction n with
  | zero =>
    intro nx hn t
    cases t with
    | zero => rfl
    | succ t =>
      have hb : fbest nx kn sp = none := fbest_none.mpr (by omega)
      rw [show 0 + (t + 1) = t + 1 by omega]
      show (match fbest nx kn sp with | none => [] | some o => (16 * o + nx o) :: ford kn sp t (va_up nx o (nx o + 1))) = []
      rw [hb]
  | succ n ih =>
    intro nx hn t
    rw [show n + 1 + t = (n + t) + 1 by omega]
    show (match fbest nx kn sp with | none => [] | some o => (16 * o + nx o) :: ford kn sp (n + t) (va_up nx o (nx o + 1))) = (match fbest nx kn sp with | none => [] | some o => (16 * o + nx o) :: ford kn sp n (va_up nx o (nx o + 1)))
    cases hb : fbest nx kn sp with
    | none => rfl
    | some q =>
      obtain ⟨hq, hq2⟩ := fbest_some hb
      simp only
      rw [ih (va_up nx q (nx q + 1)) ?_ t]
      rcases i_three hq with rfl | rfl | rfl
      · rw [va_up_self, va_up_ne _ _ (by decide), va_up_ne _ _ (by decide)]; omega
      · rw [va_up_self, va_up_ne _ _ (by decide), va_up_ne _ _ (by decide)]; omega
      · rw [va_up_self, va_up_ne _ _ (by decide), va_up_ne _ _ (by decide)]; omega
def oc (nx : Nat → Nat) (b : Option Nat) : Int32 := match b with | none => -1 | some q => ii (16 * q + nx q)
section
variable {d : Nat} {Q : im_O → im_M → Prop} {L : Nat} {xs : Nat → Int32} {mi : Nat → Nat → Int32} {rw : Nat → Nat} {o : Nat → Int64} {g z : Nat}
theorem c102L {p q : Nat} {nx kn sp : Nat → Nat} {b : Option Nat} {v1 v2 : Int32} {v : Value} (hp : p < 3) (hq : q < 3) (hn : ∀ r, r < 3 → mi 132 r = ii (nx r) ∧ nx r ≤ kn r ∧ mi 119 (3 * p + r) = ii (kn r) ∧ kn r ≤ 16) (hs : ∀ r, r < 3 → nx r < kn r → mi 115 (16 * r + nx r) = ii (sp (16 * r + nx r)) ∧ sp (16 * r + nx r) < 1000)
    (hb : ∀ r, b = some r → r < 3 ∧ nx r < kn r)
    (h : ∀ v', iw d 102 69 [.ref 99, .int (ii p), .int v1, .int v2, .int (oc nx (fb1 nx kn sp b q)), .int (ii (q + 1)), v'] [] (it_mem L xs mi rw o g z) Q) :
    iw d 102 69 [.ref 99, .int (ii p), .int v1, .int v2, .int (oc nx b), .int (ii q), v] [] (it_mem L xs mi rw o g z) Q := by
  obtain ⟨n1, n2, n3, n4⟩ := hn q hq
  have e : (ii q).toNatClampNeg = q := ii_clamp (by omega)
  have e3 : ¬ (3 : Int32) ≤ ii q := by rw [lit_3, ii_le (by decide) (by omega)]; omega
  have e1 : ii q + 1 = ii (q + 1) := ii_add (b := 1)
  have c0 : (3 : Int32) * ii p + ii q = ii (3 * p + q) := by rw [lit_3, ii_mul, ii_add]
  have c3 : (ii (3 * p + q)).toNatClampNeg = 3 * p + q := ii_clamp (by omega)
  have c1 : (16 : Int32) * ii q + ii (nx q) = ii (16 * q + nx q) := by rw [lit_16, ii_mul, ii_add]
  have b2 : it_inb L 132 (ii q) := inb3 hq ln_132
  have b3 : it_inb L 119 (ii (3 * p + q)) := ii_inb (by omega) (by rw [ln_119]; omega)
  rw [w102_69]
  by_cases hk : nx q < kn q
  · have e4 : ¬ ii (nx q) = ii (kn q) := fun w => by have := (ii_inj (by omega) (by omega)).mp w; omega
    have c2 : (ii (16 * q + nx q)).toNatClampNeg = 16 * q + nx q := ii_clamp (by omega)
    have b1 : it_inb L 115 (ii (16 * q + nx q)) := ii_inb (by omega) (by rw [ln_115]; omega)
    obtain ⟨s1, s2⟩ := hs q hq hk
    cases b with
    | none =>
      have hfb : fb1 nx kn sp none q = some q := by
        unfold fb1
        rw [if_pos hk]
      have hh := h (.int (ii (16 * q + nx q)))
      rw [hfb] at hh
      have m0 : (-1 : Int32) < 0 := by decide
      simp only [oc, w102_71, w102_72, w102_75, w102_76, w102_79, w102_81, w102_82, w102_83, w102_86, w102_87, w102_88, w102_89, w102_91, w102_92, w102_93, w102_96, w102_99, w102_101, w102_103, w102_104, w102_105, w102_108, w102_110, w102_111, w102_112, w102_114, w102_116, w102_119, w102_120, w102_123, w102_125, w102_126, w102_127, w102_130, w102_132, w102_133, w102_136, w102_138, w102_140, w102_143, isk_99, cv_99_0, cv_99_1, cv_99_2, cv_99_3, cv_99_4, cv_99_5, cv_99_6, cv_99_7, cv_99_8, cv_99_9, cv_99_10, cv_99_11, cv_99_12, cv_99_13, cv_99_14, cv_99_15, cv_99_16, cv_99_17, cv_99_18, cv_99_19, cv_99_20, cv_99_21, cv_99_22, cv_99_23, cv_99_24, cv_99_25, cv_99_26, cv_99_27, cv_99_28, cv_99_29, cv_99_30, cv_99_31, cv_99_32, cv_99_33, cv_99_34, cv_99_35, cv_99_36, cv_99_37, cv_99_38, cv_99_39, cv_99_40, cv_99_41, cv_99_42, cv_99_43, cv_99_44, cv_99_45, cv_99_46, isa_115, ln_115, cv_115, isa_119, ln_119, cv_119, isa_132, ln_132, cv_132, ↓reduceIte, true_and, and_true, vok_int, vok_b0, vok_b1, vok_bb, r_backI, r_backV, bb_eq0, Nat.reduceAdd, Nat.reduceMul, Nat.reduceEqDiff, not_true_eq_false, not_false_eq_true, if_true, if_false, false_and, and_false, c17, c98, e3, b2, b3, e, c0, c3, n1, n3, e4, c1, m0, e1] at hh ⊢
      exact hh
    | some r =>
      obtain ⟨r1, r2⟩ := hb r rfl
      obtain ⟨t1, t2⟩ := hs r r1 r2
      obtain ⟨_, w2, _, w4⟩ := hn r r1
      have m1 : ¬ ii (16 * r + nx r) < 0 := by rw [lit_0, ii_lt (by omega) (by decide)]; omega
      have c5 : (ii (16 * r + nx r)).toNatClampNeg = 16 * r + nx r := ii_clamp (by omega)
      have b5 : it_inb L 115 (ii (16 * r + nx r)) := ii_inb (by omega) (by rw [ln_115]; omega)
      by_cases hlt : sp (16 * q + nx q) < sp (16 * r + nx r)
      · have e5 : ¬ ii (sp (16 * r + nx r)) ≤ ii (sp (16 * q + nx q)) := by rw [ii_le (by omega) (by omega)]; omega
        have hfb2 : fb1 nx kn sp (some r) q = some q := by
          unfold fb1
          rw [if_pos hk]
          simp only
          rw [if_pos hlt]
        have hh := h (.int (ii (16 * q + nx q)))
        rw [hfb2] at hh
        simp only [oc, w102_71, w102_72, w102_75, w102_76, w102_79, w102_81, w102_82, w102_83, w102_86, w102_87, w102_88, w102_89, w102_91, w102_92, w102_93, w102_96, w102_99, w102_101, w102_103, w102_104, w102_105, w102_108, w102_110, w102_111, w102_112, w102_114, w102_116, w102_119, w102_120, w102_123, w102_125, w102_126, w102_127, w102_130, w102_132, w102_133, w102_136, w102_138, w102_140, w102_143, isk_99, cv_99_0, cv_99_1, cv_99_2, cv_99_3, cv_99_4, cv_99_5, cv_99_6, cv_99_7, cv_99_8, cv_99_9, cv_99_10, cv_99_11, cv_99_12, cv_99_13, cv_99_14, cv_99_15, cv_99_16, cv_99_17, cv_99_18, cv_99_19, cv_99_20, cv_99_21, cv_99_22, cv_99_23, cv_99_24, cv_99_25, cv_99_26, cv_99_27, cv_99_28, cv_99_29, cv_99_30, cv_99_31, cv_99_32, cv_99_33, cv_99_34, cv_99_35, cv_99_36, cv_99_37, cv_99_38, cv_99_39, cv_99_40, cv_99_41, cv_99_42, cv_99_43, cv_99_44, cv_99_45, cv_99_46, isa_115, ln_115, cv_115, isa_119, ln_119, cv_119, isa_132, ln_132, cv_132, ↓reduceIte, true_and, and_true, vok_int, vok_b0, vok_b1, vok_bb, r_backI, r_backV, bb_eq0, Nat.reduceAdd, Nat.reduceMul, Nat.reduceEqDiff, not_true_eq_false, not_false_eq_true, if_true, if_false, false_and, and_false, c17, c98, e3, b1, b2, b3, b5, e, c0, c2, c3, c5, n1, n3, e4, c1, m1, s1, t1, e5, e1] at hh ⊢
        exact hh
      · have e5 : ii (sp (16 * r + nx r)) ≤ ii (sp (16 * q + nx q)) := by rw [ii_le (by omega) (by omega)]; omega
        have hfb2 : fb1 nx kn sp (some r) q = some r := by
          unfold fb1
          rw [if_pos hk]
          simp only
          rw [if_neg hlt]
        have hh := h (.int (ii (16 * q + nx q)))
        rw [hfb2] at hh
        simp only [oc, w102_71, w102_72, w102_75, w102_76, w102_79, w102_81, w102_82, w102_83, w102_86, w102_87, w102_88, w102_89, w102_91, w102_92, w102_93, w102_96, w102_99, w102_101, w102_103, w102_104, w102_105, w102_108, w102_110, w102_111, w102_112, w102_114, w102_116, w102_119, w102_120, w102_123, w102_125, w102_126, w102_127, w102_130, w102_132, w102_133, w102_136, w102_138, w102_140, w102_143, isk_99, cv_99_0, cv_99_1, cv_99_2, cv_99_3, cv_99_4, cv_99_5, cv_99_6, cv_99_7, cv_99_8, cv_99_9, cv_99_10, cv_99_11, cv_99_12, cv_99_13, cv_99_14, cv_99_15, cv_99_16, cv_99_17, cv_99_18, cv_99_19, cv_99_20, cv_99_21, cv_99_22, cv_99_23, cv_99_24, cv_99_25, cv_99_26, cv_99_27, cv_99_28, cv_99_29, cv_99_30, cv_99_31, cv_99_32, cv_99_33, cv_99_34, cv_99_35, cv_99_36, cv_99_37, cv_99_38, cv_99_39, cv_99_40, cv_99_41, cv_99_42, cv_99_43, cv_99_44, cv_99_45, cv_99_46, isa_115, ln_115, cv_115, isa_119, ln_119, cv_119, isa_132, ln_132, cv_132, ↓reduceIte, true_and, and_true, vok_int, vok_b0, vok_b1, vok_bb, r_backI, r_backV, bb_eq0, Nat.reduceAdd, Nat.reduceMul, Nat.reduceEqDiff, not_true_eq_false, not_false_eq_true, if_true, if_false, false_and, and_false, c17, c98, e3, b1, b2, b3, b5, e, c0, c2, c3, c5, n1, n3, e4, c1, m1, s1, t1, e5, e1] at hh ⊢
        exact hh
  · have e4 : nx q = kn q := by omega
    have hfb : fb1 nx kn sp b q = b := by
      unfold fb1
      rw [if_neg hk]
    have hh := h v
    rw [hfb] at hh
    simp only [w102_71, w102_72, w102_75, w102_76, w102_79, w102_81, w102_82, w102_83, w102_86, w102_87, w102_88, w102_89, w102_91, w102_92, w102_93, w102_96, w102_99, w102_101, w102_103, w102_104, w102_105, w102_108, w102_110, w102_111, w102_112, w102_114, w102_116, w102_119, w102_120, w102_123, w102_125, w102_126, w102_127, w102_130, w102_132, w102_133, w102_136, w102_138, w102_140, w102_143, isk_99, cv_99_0, cv_99_1, cv_99_2, cv_99_3, cv_99_4, cv_99_5, cv_99_6, cv_99_7, cv_99_8, cv_99_9, cv_99_10, cv_99_11, cv_99_12, cv_99_13, cv_99_14, cv_99_15, cv_99_16, cv_99_17, cv_99_18, cv_99_19, cv_99_20, cv_99_21, cv_99_22, cv_99_23, cv_99_24, cv_99_25, cv_99_26, cv_99_27, cv_99_28, cv_99_29, cv_99_30, cv_99_31, cv_99_32, cv_99_33, cv_99_34, cv_99_35, cv_99_36, cv_99_37, cv_99_38, cv_99_39, cv_99_40, cv_99_41, cv_99_42, cv_99_43, cv_99_44, cv_99_45, cv_99_46, isa_115, ln_115, cv_115, isa_119, ln_119, cv_119, isa_132, ln_132, cv_132, ↓reduceIte, true_and, and_true, vok_int, vok_b0, vok_b1, vok_bb, r_backI, r_backV, bb_eq0, Nat.reduceAdd, Nat.reduceMul, Nat.reduceEqDiff, not_true_eq_false, not_false_eq_true, if_true, if_false, false_and, and_false, c17, c98, e3, b2, b3, e, c0, c3, n1, n3, e4, e1]
    exact hh
end
theorem fstep_1 {E : EVT} {A : LWT} {S : FST} {c i : Nat} (h : i ≠ E.2.2.1 c ∨ fskip E A S c) : (fstep E A S c).1 i = S.1 i := by
  by_cases hs : fskip E A S c
  · rw [fstep_t hs]
  · rw [fstep_f hs]
    rcases h with h | h
    · exact va_up_ne _ _ h
    · exact absurd h hs
/-- what hasn't been weighed isn't there -/
def it_Z (nx : Nat → Nat) (S : FST) : Prop := ∀ r j, r < 3 → nx r ≤ j → j < 16 → S.1 (16 * r + j) = 0
theorem Z_step {nx : Nat → Nat} {E : EVT} {A : LWT} {S : FST} {q : Nat} (hq : q < 3) (hlt : nx q < 16) (hk : E.1 (16 * q + nx q) = 0 → E.2.2.1 (16 * q + nx q) = 16 * q + nx q) (h : it_Z nx S) : it_Z (va_up nx q (nx q + 1)) (fstep E A S (16 * q + nx q)) := by
  intro r j hr hj hj2
  have hz : S.1 (16 * r + j) = 0 := by
    by_cases e : r = q
    · subst e; rw [va_up_self] at hj; exact h r j hr (by omega) hj2
    · rw [va_up_ne _ _ e] at hj; exact h r j hr hj hj2
  by_cases hs : fskip E A S (16 * q + nx q)
  · rw [fstep_1 (Or.inr hs)]; exact hz
  · rw [fstep_1 (Or.inl ?_)]
    · exact hz
    · intro e
      by_cases k0 : E.1 (16 * q + nx q) = 0
      · rw [hk k0] at e
        by_cases er : r = q
        · subst er; rw [va_up_self] at hj; omega
        · omega
      · exact hs (Or.inr ⟨k0, Or.inl (by rw [← e]; exact hz)⟩)
theorem lwM_cong {A : LWT} {m m' : Nat → Nat → Int32} (h : it_lwM A m) (hm : ∀ a, 107 ≤ a → a ≤ 125 → m' a = m a) : it_lwM A m' := by
  unfold it_lwM
  rw [hm 111 (by omega) (by omega), hm 112 (by omega) (by omega), hm 107 (by omega) (by omega)]
  exact h
theorem evtM_cong {E : EVT} {m m' : Nat → Nat → Int32} {c : Nat} (h : it_evt E m 114 116 117 118 c) (hm : ∀ a, 107 ≤ a → a ≤ 125 → m' a = m a) : it_evt E m' 114 116 117 118 c := by
  unfold it_evt
  rw [hm 114 (by omega) (by omega), hm 116 (by omega) (by omega), hm 117 (by omega) (by omega), hm 118 (by omega) (by omega)]
  exact h
theorem MR_cong {N : Nat} {m m' : Nat → Nat → Int32} {S : FST} {D D' : Nat → Prop} (h : it_MR N m S D) (hm : ∀ a, 126 ≤ a → a ≤ 131 → m' a = m a) (hD : ∀ e, D' e → D e) : it_MR N m' S D' := by
  refine ⟨fun i hi => ?_, fun e he hd => ?_⟩
  · rw [hm 126 (by omega) (by omega), hm 127 (by omega) (by omega), hm 128 (by omega) (by omega), hm 129 (by omega) (by omega), hm 130 (by omega) (by omega)]
    exact h.1 i hi
  · rw [hm 131 (by omega) (by omega)]
    exact h.2 e he (hD e hd)
section
variable {d : Nat} {Q : im_O → im_M → Prop} {L : Nat} {xs : Nat → Int32} {rw : Nat → Nat} {o : Nat → Int64} {g z : Nat}
theorem c102C {p T : Nat} {kn sp : Nat → Nat} {E : EVT} {A : LWT} {W : (Nat → Nat → Int32) → Prop} (h105 : it_h105 A W) (hp : p < 3) (hT : T ≤ 48) : ∀ (n t : Nat) (nx : Nat → Nat) (S : FST) (D : Nat → Prop) (mi : Nat → Nat → Int32) (v4 v5 v6 : Value), t + n = T → (kn 0 - nx 0) + (kn 1 - nx 1) + (kn 2 - nx 2) = n →
    (∀ r, r < 3 → mi 132 r = ii (nx r) ∧ nx r ≤ kn r ∧ mi 119 (3 * p + r) = ii (kn r) ∧ kn r ≤ 16) → (∀ r j, r < 3 → j < kn r → mi 115 (16 * r + j) = ii (sp (16 * r + j)) ∧ sp (16 * r + j) < 1000 ∧ it_evt E mi 114 116 117 118 (16 * r + j) ∧ (E.1 (16 * r + j) = 0 → E.2.2.1 (16 * r + j) = 16 * r + j)) → (n ≠ 0 → it_lwM A mi ∧ W mi) → it_MR t mi S D → it_Z nx S →
    (∀ mi', (∀ a, a < 104 ∨ (107 ≤ a ∧ a ≤ 125) ∨ 133 ≤ a → mi' a = mi a) → it_MR T mi' (List.foldl (fstep E A) S (ford kn sp n nx)) (fun e => D e ∨ e ∈ ford kn sp n nx) → Q (.inl none) (it_mem L xs mi' rw o g z)) →
    iw (d + 6) 102 58 [.ref 99, .int (ii p), .int (ii T), .int (ii t), v4, v5, v6] [] (it_mem L xs mi rw o g z) Q := by
  intro n
  induction n with
  | zero =>
    intro t nx S D mi v4 v5 v6 ht hn0 hn hs hAW hS hZ hQ
    have et : t = T := by omega
    subst et
    have e1 : ii t ≤ ii t := (ii_le (by omega) (by omega)).mpr (Nat.le_refl _)
    rw [w102_58]
    simp only [w102_59, w102_60, w102_172, ↓reduceIte, true_and, and_true, vok_int, vok_b0, vok_b1, vok_bb, r_backI, r_backV, bb_eq0, Nat.reduceAdd, Nat.reduceMul, Nat.reduceEqDiff, not_true_eq_false, not_false_eq_true, if_true, if_false, false_and, and_false, c17, c98, e1]
    refine hQ mi (fun _ _ => rfl) ?_
    exact MR_cong hS (fun _ _ _ => rfl) (fun e he => by rcases he with he | he; exact he; cases he)
  | succ n ih =>
    intro t nx S D mi v4 v5 v6 ht hn0 hn hs hAW hS hZ hQ
    obtain ⟨hA, hW⟩ := hAW (by omega)
    have e1 : ¬ ii T ≤ ii t := by rw [ii_le (by omega) (by omega)]; omega
    have e2 : ii t + 1 = ii (t + 1) := ii_add (b := 1)
    have hs' : ∀ r, r < 3 → nx r < kn r → mi 115 (16 * r + nx r) = ii (sp (16 * r + nx r)) ∧ sp (16 * r + nx r) < 1000 := fun r hr hk => ⟨(hs r (nx r) hr hk).1, (hs r (nx r) hr hk).2.1⟩
    rw [w102_58]
    simp only [w102_59, w102_60, w102_63, w102_64, w102_66, w102_67, ↓reduceIte, true_and, and_true, vok_int, vok_b0, vok_b1, vok_bb, r_backI, r_backV, bb_eq0, Nat.reduceAdd, Nat.reduceMul, Nat.reduceEqDiff, not_true_eq_false, not_false_eq_true, if_true, if_false, false_and, and_false, c17, c98, e1]
    have step := fun (b : Option Nat) (q : Nat) (v : Value) (hq : q < 3) hb hh => c102L (d := d + 6) (L := L) (xs := xs) (mi := mi) (rw := rw) (o := o) (g := g) (z := z) (Q := Q) (p := p) (q := q) (nx := nx) (kn := kn) (sp := sp) (b := b) (v1 := ii T) (v2 := ii t) (v := v) hp hq hn hs' hb hh
    have a0 : ∀ x, fb1 nx kn sp none 0 = some x → x < 3 ∧ nx x < kn x := fun x hx => by
      obtain ⟨h1, h2⟩ := fb1_some (fun _ h => by cases h) hx
      rcases h2 with h2 | h2
      · exact ⟨by omega, h1⟩
      · cases h2
    have a1 : ∀ x, fb1 nx kn sp (fb1 nx kn sp none 0) 1 = some x → x < 3 ∧ nx x < kn x := fun x hx => by
      obtain ⟨h1, h2⟩ := fb1_some (fun y hy => (a0 y hy).2) hx
      rcases h2 with h2 | h2
      · exact ⟨by omega, h1⟩
      · exact ⟨(a0 x h2).1, h1⟩
    refine step none 0 v6 (by decide) (fun r hr => by cases hr) (fun v61 => step _ 1 v61 (by decide) a0 (fun v62 => step _ 2 v62 (by decide) a1 (fun v63 => ?_)))
    have e9 : (3 : Int32) ≤ ii (2 + 1) := by decide
    cases hb : fbest nx kn sp with
    | none =>
      exfalso
      rw [fbest_none] at hb
      omega
    | some q =>
      obtain ⟨hq, hq2⟩ := fbest_some hb
      obtain ⟨n1, n2, n3, n4⟩ := hn q hq
      obtain ⟨x1, x2, x3, x4⟩ := hs q (nx q) hq hq2
      have hb' : fb1 nx kn sp (fb1 nx kn sp (fb1 nx kn sp none 0) 1) 2 = some q := hb
      have ef : ford kn sp (n + 1) nx = (16 * q + nx q) :: ford kn sp n (va_up nx q (nx q + 1)) := by
        show (match fbest nx kn sp with | none => [] | some o => (16 * o + nx o) :: ford kn sp n (va_up nx o (nx o + 1))) = _
        rw [hb]
      rw [ef] at hQ
      rw [hb', w102_69]
      have ed : ii (16 * q + nx q) / 16 = ii q := by
        rw [lit_16, ii_div (by omega) (by decide)]
        congr 1
        omega
      have eq : (ii q).toNatClampNeg = q := ii_clamp (by omega)
      have b2 : it_inb L 132 (ii q) := inb3 hq ln_132
      have g2 : ii (nx q) + 1 = ii (nx q + 1) := ii_add (b := 1)
      simp only [oc, w102_71, w102_72, w102_146, w102_147, w102_150, w102_152, w102_154, w102_155, w102_156, w102_157, w102_158, w102_159, w102_160, w102_161, w102_163, isk_99, cv_99_0, cv_99_1, cv_99_2, cv_99_3, cv_99_4, cv_99_5, cv_99_6, cv_99_7, cv_99_8, cv_99_9, cv_99_10, cv_99_11, cv_99_12, cv_99_13, cv_99_14, cv_99_15, cv_99_16, cv_99_17, cv_99_18, cv_99_19, cv_99_20, cv_99_21, cv_99_22, cv_99_23, cv_99_24, cv_99_25, cv_99_26, cv_99_27, cv_99_28, cv_99_29, cv_99_30, cv_99_31, cv_99_32, cv_99_33, cv_99_34, cv_99_35, cv_99_36, cv_99_37, cv_99_38, cv_99_39, cv_99_40, cv_99_41, cv_99_42, cv_99_43, cv_99_44, cv_99_45, cv_99_46, isa_132, ln_132, cv_132, ↓reduceIte, true_and, and_true, vok_int, vok_b0, vok_b1, vok_bb, r_backI, r_backV, bb_eq0, Nat.reduceAdd, Nat.reduceMul, Nat.reduceEqDiff, not_true_eq_false, not_false_eq_true, if_true, if_false, false_and, and_false, c17, c98, e9, n16, ed, eq, b2, n1, g2, Nat.reduceLeDiff]
      have hmm : ∀ a, a ≠ 132 → it_up mi 132 q (ii (nx q + 1)) a = mi a := fun a ha => it_up_f _ _ _ ha
      have hW1 : W (it_up mi 132 q (ii (nx q + 1))) := h105.1 _ _ hW (fun a _ _ => hmm a (by omega)) (by rw [hmm 99 (by decide)]) (by rw [hmm 99 (by decide)])
      refine c103 h105 hW1 (by omega) (evtM_cong x3 (fun a _ _ => hmm a (by omega))) (fun k0 => by rw [x4 k0]; exact hZ q (nx q) hq (Nat.le_refl _) (by omega)) (lwM_cong hA (fun a _ _ => hmm a (by omega))) (by omega) (MR_cong hS (fun a _ _ => hmm a (by omega)) (fun _ h => h)) (fun mi1 hm1 hS1 => ?_)
      simp only [↓reduceIte, true_and, and_true, vok_int, vok_b0, vok_b1, vok_bb, r_backI, r_backV, bb_eq0, Nat.reduceAdd, Nat.reduceMul, Nat.reduceEqDiff, not_true_eq_false, not_false_eq_true, if_true, if_false, false_and, and_false, c17, c98, w102_166, w102_169, e2]
      have hm2 : ∀ a, a < 104 ∨ (107 ≤ a ∧ a ≤ 125) ∨ 133 ≤ a → mi1 a = mi a := fun a ha => by rw [hm1 a (by omega), hmm a (by omega)]
      refine ih (t + 1) (va_up nx q (nx q + 1)) (fstep E A S (16 * q + nx q)) (fun e => D e ∨ e = 16 * q + nx q) mi1 _ _ _ (by omega) ?_ (fun r hr => ?_) (fun r j hr hj => ?_) (fun _ => ⟨lwM_cong hA (fun a _ _ => hm2 a (by omega)), h105.1 _ _ hW (fun a _ _ => hm2 a (by omega)) (by rw [hm2 99 (by omega)]) (by rw [hm2 99 (by omega)])⟩) hS1 (Z_step hq (by omega) x4 hZ) (fun mi' hm' hS' => ?_)
      · rcases i_three hq with rfl | rfl | rfl
        · rw [va_up_self, va_up_ne _ _ (by decide), va_up_ne _ _ (by decide)]; omega
        · rw [va_up_self, va_up_ne _ _ (by decide), va_up_ne _ _ (by decide)]; omega
        · rw [va_up_self, va_up_ne _ _ (by decide), va_up_ne _ _ (by decide)]; omega
      · obtain ⟨r1, r2, r3, r4⟩ := hn r hr
        refine ⟨?_, ?_, ?_, r4⟩
        · rw [hm1 132 (by omega), it_up_s]
          by_cases e : r = q
          · subst e; rw [if_pos rfl, va_up_self]
          · rw [if_neg e, va_up_ne _ _ e]; exact r1
        · by_cases e : r = q
          · subst e; rw [va_up_self]; omega
          · rw [va_up_ne _ _ e]; exact r2
        · rw [hm2 119 (by omega)]; exact r3
      · obtain ⟨s1, s2, s3, s4⟩ := hs r j hr hj
        refine ⟨?_, s2, evtM_cong s3 (fun a _ _ => hm2 a (by omega)), s4⟩
        rw [hm2 115 (by omega)]
        exact s1
      · refine hQ mi' (fun a ha => by rw [hm' a ha, hm2 a ha]) ?_
        exact MR_cong hS' (fun _ _ _ => rfl) (fun e he => by
          rcases he with he | he
          · exact Or.inl (Or.inl he)
          · rcases List.mem_cons.mp he with he | he
            · exact Or.inl (Or.inr he)
            · exact Or.inr he)
end
