/-! The reference's holds against the condition that was read. -/
section
variable {d : Nat} {Q : im_O → im_M → Prop} {L : Nat} {xs : Nat → Int32} {rw : Nat → Nat} {o : Nat → Int64} {g z : Nat}
variable {B n i : Nat} {T : Nat → Nat} {qq : Bool} {who ro : Int32} {E : Int32 × Int32 × Int32}
def it_PT (d L : Nat) (xs : Nat → Int32) (rw : Nat → Nat) (o : Nat → Int64) (g z : Nat) (Q : im_O → im_M → Prop) (B n i : Nat) (T : Nat → Nat) (qq : Bool) (who ro : Int32) (E : Int32 × Int32 × Int32) (r : Nat) : Prop :=
  ∀ (p D : Nat) (c : CV) (X t : Prop) (mi : Nat → Nat → Int32), it_hx B n i T qq who ro E mi → p ≤ n → D + r ≤ 6 → (pT qq T n r p).2 = some c → mi 105 D = bb X →
    (∀ mi', it_hf D mi mi' → mi' 104 D = mi 104 D → mi' 105 D = bb (X ∧ ¬ (c.2 (fun k v => hfit k v E.1 E.2.1 E.2.2 who ro) ↔ t)) → it_H d L xs rw o g z Q B n i who D (pT qq T n r p).1 0 mi') → it_H d L xs rw o g z Q B n i who D p (bb t) mi
def it_PA (d L : Nat) (xs : Nat → Int32) (rw : Nat → Nat) (o : Nat → Int64) (g z : Nat) (Q : im_O → im_M → Prop) (B n i : Nat) (T : Nat → Nat) (qq : Bool) (who ro : Int32) (E : Int32 × Int32 × Int32) (r : Nat) : Prop :=
  ∀ (p D : Nat) (c : CV) (X : Prop) (mi : Nat → Nat → Int32), it_hx B n i T qq who ro E mi → p ≤ n → D + r ≤ 6 → (pA qq T n r p).2 = some c → mi 105 D = bb X →
    (∀ mi', it_hf D mi mi' → mi' 104 D = mi 104 D → mi' 105 D = bb (X ∧ c.2 (fun k v => hfit k v E.1 E.2.1 E.2.2 who ro)) → it_H d L xs rw o g z Q B n i who D (pA qq T n r p).1 0 mi') → it_H d L xs rw o g z Q B n i who D p 0 mi
def it_PC (d L : Nat) (xs : Nat → Int32) (rw : Nat → Nat) (o : Nat → Int64) (g z : Nat) (Q : im_O → im_M → Prop) (B n i : Nat) (T : Nat → Nat) (qq : Bool) (who ro : Int32) (E : Int32 × Int32 × Int32) (r : Nat) : Prop :=
  ∀ (p D : Nat) (c : CV) (S : Prop) (mi : Nat → Nat → Int32), it_hx B n i T qq who ro E mi → p ≤ n → D + r ≤ 6 → (pC qq T n r p).2 = some c → mi 104 D = bb S → mi 105 D = 1 →
    (∀ mi' S' A', it_hf D mi mi' → mi' 104 D = bb S' → mi' 105 D = bb A' → ((S' ∨ A') ↔ (S ∨ c.2 (fun k v => hfit k v E.1 E.2.1 E.2.2 who ro))) → it_H d L xs rw o g z Q B n i who D (pC qq T n r p).1 0 mi') → it_H d L xs rw o g z Q B n i who D p 0 mi
theorem bb_of {a b : Prop} (h : a ↔ b) : bb a = bb b := bb_inj.mpr h
theorem hd_L38 {r : Nat} (hT : it_PT d L xs rw o g z Q B n i T qq who ro E r) : ∀ (m p : Nat) (c0 : CV) (D : Nat) (X : Prop) (mi : Nat → Nat → Int32) (c : CV), it_hx B n i T qq who ro E mi → p ≤ n → D + r ≤ 6 → (pL T 38 cvA (pT qq T n r) m p c0).2 = some c → mi 105 D = bb (X ∧ c0.2 (fun k v => hfit k v E.1 E.2.1 E.2.2 who ro)) →
    (∀ mi', it_hf D mi mi' → mi' 104 D = mi 104 D → mi' 105 D = bb (X ∧ c.2 (fun k v => hfit k v E.1 E.2.1 E.2.2 who ro)) → it_H d L xs rw o g z Q B n i who D (pL T 38 cvA (pT qq T n r) m p c0).1 0 mi') → it_H d L xs rw o g z Q B n i who D p 0 mi := by
  intro m
  induction m with
  | zero =>
    intro p c0 D X mi c hx hp hD hc h5 hQ
    cases hc
    exact hQ mi hf_refl rfl h5
  | succ m ih =>
    intro p c0 D X mi c hx hp hD hc h5 hQ
    have hz := hx.2.2.2.1
    by_cases h : T p = 38
    · have hpn : p < n := Nat.lt_of_not_le (fun q => by rw [hz p q] at h; omega)
      cases hb : (pT qq T n r (p + 1)).2 with
      | none => rw [pL_n h hb] at hc; cases hc
      | some b =>
        rw [pL_s h hb] at hc hQ
        obtain ⟨f1, f2, f3⟩ := pT_ok (qq := qq) hz r (p + 1) (by omega)
        refine h_38 hx h ?_
        have h0 := hT (p + 1) D b (X ∧ c0.2 (fun k v => hfit k v E.1 E.2.1 E.2.2 who ro)) False mi hx (by omega) hD hb h5
        rw [bb_F] at h0
        refine h0 (fun m1 g1 g2 g3 => ?_)
        refine ih _ _ D X m1 c (hx_fr hx g1.1) f2 hD hc ?_ (fun m2 k1 k2 k3 => hQ m2 (hf_trans g1 k1) (k2.trans g2) k3)
        rw [g3]
        apply bb_of
        show _ ↔ X ∧ (c0.2 _ ∧ b.2 _)
        simp only [iff_false, Classical.not_not, and_assoc]
    · rw [pL_0 h] at hc hQ
      cases hc
      exact hQ mi hf_refl rfl h5
theorem hd_A {r : Nat} (hT : it_PT d L xs rw o g z Q B n i T qq who ro E r) : it_PA d L xs rw o g z Q B n i T qq who ro E r := by
  intro p D c X mi hx hp hD hc h5 hQ
  have hz := hx.2.2.2.1
  unfold pA at hc hQ
  cases hb : (pT qq T n r p).2 with
  | none => rw [pS_n hb] at hc; cases hc
  | some b =>
    rw [pS_s hb] at hc hQ
    obtain ⟨f1, f2, f3⟩ := pT_ok (qq := qq) hz r p hp
    have h0 := hT p D b X False mi hx hp hD hb h5
    rw [bb_F] at h0
    refine h0 (fun m1 g1 g2 g3 => ?_)
    refine hd_L38 hT _ _ _ D X m1 c (hx_fr hx g1.1) f2 hD hc ?_ (fun m2 k1 k2 k3 => hQ m2 (hf_trans g1 k1) (k2.trans g2) k3)
    rw [g3]
    apply bb_of
    simp only [iff_false, Classical.not_not]
theorem hd_L124 {r : Nat} (hA : it_PA d L xs rw o g z Q B n i T qq who ro E r) : ∀ (m p : Nat) (c0 : CV) (D : Nat) (S S1 A1 : Prop) (mi : Nat → Nat → Int32) (c : CV), it_hx B n i T qq who ro E mi → p ≤ n → D + r ≤ 6 → (pL T 124 cvO (pA qq T n r) m p c0).2 = some c → mi 104 D = bb S1 → mi 105 D = bb A1 → ((S1 ∨ A1) ↔ (S ∨ c0.2 (fun k v => hfit k v E.1 E.2.1 E.2.2 who ro))) →
    (∀ mi' S' A', it_hf D mi mi' → mi' 104 D = bb S' → mi' 105 D = bb A' → ((S' ∨ A') ↔ (S ∨ c.2 (fun k v => hfit k v E.1 E.2.1 E.2.2 who ro))) → it_H d L xs rw o g z Q B n i who D (pL T 124 cvO (pA qq T n r) m p c0).1 0 mi') → it_H d L xs rw o g z Q B n i who D p 0 mi := by
  intro m
  induction m with
  | zero =>
    intro p c0 D S S1 A1 mi c hx hp hD hc h4 h5 h6 hQ
    cases hc
    exact hQ mi S1 A1 hf_refl h4 h5 h6
  | succ m ih =>
    intro p c0 D S S1 A1 mi c hx hp hD hc h4 h5 h6 hQ
    have hz := hx.2.2.2.1
    by_cases h : T p = 124
    · have hpn : p < n := Nat.lt_of_not_le (fun q => by rw [hz p q] at h; omega)
      cases hb : (pA qq T n r (p + 1)).2 with
      | none => rw [pL_n h hb] at hc; cases hc
      | some b =>
        rw [pL_s h hb] at hc hQ
        obtain ⟨f1, f2, f3⟩ := pA_ok (qq := qq) hz r (p + 1) (by omega)
        refine h_124 hx h (by omega) h4 h5 ?_
        have g0 : it_hf D mi (it_up (it_up mi 104 D (bb (S1 ∨ A1))) 105 D 1) := hf_trans (hf_up (by decide) (by decide) (Nat.le_refl _)) (hf_up (by decide) (by decide) (Nat.le_refl _))
        refine hA (p + 1) D b True _ (hx_fr hx g0.1) (by omega) hD hb (by rw [it_up_same, bb_T]) (fun m1 g1 g2 g3 => ?_)
        refine ih _ _ D S (S1 ∨ A1) (True ∧ b.2 (fun k v => hfit k v E.1 E.2.1 E.2.2 who ro)) m1 c (hx_fr hx (hf_trans g0 g1).1) f2 hD hc ?_ g3 ?_ (fun m2 S2 A2 k1 k2 k3 k4 => hQ m2 S2 A2 (hf_trans (hf_trans g0 g1) k1) k2 k3 k4)
        · rw [g2, it_up_f _ _ _ (by decide), it_up_same]
        · show _ ↔ S ∨ (c0.2 _ ∨ b.2 _)
          rw [h6, true_and, or_assoc]
    · rw [pL_0 h] at hc hQ
      cases hc
      exact hQ mi S1 A1 hf_refl h4 h5 h6
theorem hd_C {r : Nat} (hA : it_PA d L xs rw o g z Q B n i T qq who ro E r) : it_PC d L xs rw o g z Q B n i T qq who ro E r := by
  intro p D c S mi hx hp hD hc h4 h5 hQ
  have hz := hx.2.2.2.1
  unfold pC at hc hQ
  cases hb : (pA qq T n r p).2 with
  | none => rw [pS_n hb] at hc; cases hc
  | some b =>
    rw [pS_s hb] at hc hQ
    obtain ⟨f1, f2, f3⟩ := pA_ok (qq := qq) hz r p hp
    refine hA p D b True mi hx hp hD hb (by rw [h5, bb_T]) (fun m1 g1 g2 g3 => ?_)
    refine hd_L124 hA _ _ _ D S S (True ∧ b.2 (fun k v => hfit k v E.1 E.2.1 E.2.2 who ro)) m1 c (hx_fr hx g1.1) f2 hD hc (g2.trans h4) g3 (by rw [true_and]) (fun m2 S2 A2 k1 k2 k3 k4 => hQ m2 S2 A2 (hf_trans g1 k1) k2 k3 k4)
theorem hd_T : ∀ r, it_PT d L xs rw o g z Q B n i T qq who ro E r := by
  intro r
  induction r with
  | zero =>
    intro p D c X t mi hx hp hD hc h5 hQ
    by_cases h : T p = 33 ∨ T p = 40
    · rw [pT_0 h] at hc; cases hc
    · rw [pT_f (fun q => h (Or.inl q)) (fun q => h (Or.inr q))] at hc hQ
      exact h_F hx hc (by omega) h5 (hQ _ (hf_up (by decide) (by decide) (Nat.le_refl _)) (by rw [it_up_f _ _ _ (by decide)]) (by rw [it_up_same]))
  | succ r ih =>
    intro p D c X t mi hx hp hD hc h5 hQ
    have hz := hx.2.2.2.1
    by_cases h : T p = 33
    · have hpn : p < n := Nat.lt_of_not_le (fun q => by rw [hz p q] at h; omega)
      cases hb : (pT qq T n r (p + 1)).2 with
      | none => rw [pT_nn h hb] at hc; cases hc
      | some b =>
        rw [pT_ns h hb] at hc hQ
        cases hc
        refine h_33 hx h (ih (p + 1) D b X (¬ t) mi hx (by omega) (by omega) hb h5 (fun m1 g1 g2 g3 => hQ m1 g1 g2 ?_))
        rw [g3]
        apply bb_of
        show _ ↔ X ∧ ¬ (¬ b.2 _ ↔ t)
        by_cases hb2 : b.2 (fun k v => hfit k v E.1 E.2.1 E.2.2 who ro) <;> by_cases ht : t <;> simp [hb2, ht]
    by_cases h2 : T p = 40
    · have hpn : p < n := Nat.lt_of_not_le (fun q => by rw [hz p q] at h2; omega)
      cases hb : (pC qq T n r (p + 1)).2 with
      | none => rw [pT_pn h2 hb] at hc; cases hc
      | some b =>
        by_cases hq : T (pC qq T n r (p + 1)).1 = 41
        · rw [pT_ps h2 hb hq] at hc hQ
          cases hc
          refine h_40 hx h2 (by omega) ?_
          have g0 : it_hf D mi (it_up (it_up (it_up mi 106 D (bb t)) 104 (D + 1) 0) 105 (D + 1) 1) := hf_trans (hf_trans (hf_up (by decide) (by decide) (Nat.le_refl _)) (hf_up (by decide) (by decide) (by omega))) (hf_up (by decide) (by decide) (by omega))
          refine hd_C (hd_A ih) (p + 1) (D + 1) c False _ (hx_fr hx g0.1) (by omega) (by omega) hb ?_ (by rw [it_up_same]) (fun m1 S1 A1 g1 g2 g3 g4 => ?_)
          · rw [it_up_f _ _ _ (by decide), it_up_same, bb_F]
          · obtain ⟨q1, q2, q3⟩ := g1.2 D (by omega)
            refine h_41 (hx_fr hx (hf_trans g0 (hf_le g1 (by omega))).1) hq (by omega) g2 g3 (t := t) (X := X) ?_ ?_ ?_
            · rw [q3, it_up_f _ _ _ (by decide), it_up_f _ _ _ (by decide), it_up_same]
            · rw [q2, it_up_s, if_neg (by omega), it_up_f _ _ _ (by decide), it_up_f _ _ _ (by decide)]
              exact h5
            · refine hQ _ (hf_trans g0 (hf_trans (hf_le g1 (by omega)) (hf_up (by decide) (by decide) (Nat.le_refl _)))) ?_ ?_
              · rw [it_up_f _ _ _ (by decide), q1, it_up_f _ _ _ (by decide), it_up_s, if_neg (by omega), it_up_f _ _ _ (by decide)]
              · rw [it_up_same]
                apply bb_of
                rw [g4, false_or]
        · rw [pT_pe h2 hb hq] at hc; cases hc
    · rw [pT_f h h2] at hc hQ
      exact h_F hx hc (by omega) h5 (hQ _ (hf_up (by decide) (by decide) (Nat.le_refl _)) (by rw [it_up_f _ _ _ (by decide)]) (by rw [it_up_same]))
theorem c106 {p : Nat} {c : CV} {mi : Nat → Nat → Int32} {v6 v7 v8 v9 v10 v11 v12 : Value} (hx : it_hx B n i T qq who ro E mi) (hp : p ≤ n) (hc : (pC qq T n 6 p).2 = some c) (hend : n ≤ (pC qq T n 6 p).1 ∨ T (pC qq T n 6 p).1 = 59)
    (hQ : ∀ mi', (∀ a, a < 104 ∨ 107 ≤ a → mi' a = mi a) → Q (.inl (some (.int (bb (c.2 (fun k v => hfit k v E.1 E.2.1 E.2.2 who ro)))))) (it_mem L xs mi' rw o g z)) :
    iw (d + 2) 106 0 [.ref 99, .ref B, .int (ii p), .int (ii n), .int (ii i), .int who, v6, v7, v8, v9, v10, v11, v12] [] (it_mem L xs mi rw o g z) Q := by
  have i0 : it_inb L 104 0 := ii_inb (n := 0) (by decide) (by rw [ln_104]; decide)
  have i1 : it_inb L 105 0 := ii_inb (n := 0) (by decide) (by rw [ln_105]; decide)
  have v0 : vp_nar .boolean (0 : Int32) = 0 := rfl
  have v1 : vp_nar .boolean (1 : Int32) = 1 := rfl
  simp only [w106_0, w106_1, w106_3, w106_4, w106_6, w106_7, w106_10, w106_11, w106_12, w106_13, w106_14, w106_17, w106_18, w106_19, w106_20, w106_21, isk_99, cv_99_0, cv_99_1, cv_99_2, cv_99_3, cv_99_4, cv_99_5, cv_99_6, cv_99_7, cv_99_8, cv_99_9, cv_99_10, cv_99_11, cv_99_12, cv_99_13, cv_99_14, cv_99_15, cv_99_16, cv_99_17, cv_99_18, cv_99_19, cv_99_20, cv_99_21, cv_99_22, cv_99_23, cv_99_24, cv_99_25, cv_99_26, cv_99_27, cv_99_28, cv_99_29, cv_99_30, cv_99_31, cv_99_32, cv_99_33, cv_99_34, cv_99_35, cv_99_36, cv_99_37, cv_99_38, cv_99_39, cv_99_40, cv_99_41, cv_99_42, cv_99_43, cv_99_44, cv_99_45, cv_99_46, isa_104, ln_104, cv_104, isa_105, ln_105, cv_105, ↓reduceIte, true_and, and_true, vok_int, vok_b0, vok_b1, vok_bb, r_backI, r_backV, bb_eq0, Nat.reduceAdd, Nat.reduceMul, Nat.reduceEqDiff, not_true_eq_false, not_false_eq_true, if_true, if_false, false_and, and_false, c17, c98, i0, i1, k0, v0, v1, Nat.reduceLeDiff]
  have g0 : it_hf 0 mi (it_up (it_up mi 104 0 0) 105 0 1) := hf_trans (hf_up (by decide) (by decide) (Nat.le_refl _)) (hf_up (by decide) (by decide) (Nat.le_refl _))
  refine hd_C (hd_A (hd_T 6)) p 0 c False (it_up (it_up mi 104 0 0) 105 0 1) (hx_fr hx g0.1) hp (by decide) hc ?_ (by rw [it_up_same]) (fun m1 S1 A1 g1 g2 g3 g4 => ?_) _ _ _ _ _
  · rw [it_up_f _ _ _ (by decide), it_up_same, bb_F]
  · intro v2 v9 v10 v11 v12
    have hm : ∀ a, a < 104 ∨ 107 ≤ a → m1 a = mi a := (hf_trans g0 g1).1
    have hfin := hQ m1 hm
    rw [false_or] at g4
    have e9 : bb (c.2 (fun k v => hfit k v E.1 E.2.1 E.2.2 who ro)) = bb (S1 ∨ A1) := (bb_of g4).symm
    rw [e9] at hfin
    have hx1 := hx_fr hx hm
    have hz := hx.2.2.2.1
    have hn := hx.2.1
    obtain ⟨f1, f2, f3⟩ := pC_ok (qq := qq) hz 6 p hp
    have hB := hx_isa hx.1
    have hcv : ∀ j, it_cv xs m1 rw o B j = .int (m1 B j) := fun j => it_cva (by have := hx.1; omega) hB (Or.inr (Or.inl rfl))
    have last : ∀ w9, iw (d + 2) 106 355 [.ref 99, .ref B, v2, .int (ii n), .int (ii i), .int who, .int (ii 0), .int (ii (pC qq T n 6 p).1), .int 0, w9, v10, v11, v12] [] (it_mem L xs m1 rw o g z) Q := by
      intro w9
      by_cases s : S1
      · rw [bb_t s] at g2
        rw [bb_t (c := S1 ∨ A1) (Or.inl s)] at hfin
        simp only [w106_355, w106_356, w106_359, w106_360, w106_361, w106_364, w106_365, w106_368, w106_369, w106_370, w106_373, w106_374, w106_377, w106_378, isk_99, cv_99_0, cv_99_1, cv_99_2, cv_99_3, cv_99_4, cv_99_5, cv_99_6, cv_99_7, cv_99_8, cv_99_9, cv_99_10, cv_99_11, cv_99_12, cv_99_13, cv_99_14, cv_99_15, cv_99_16, cv_99_17, cv_99_18, cv_99_19, cv_99_20, cv_99_21, cv_99_22, cv_99_23, cv_99_24, cv_99_25, cv_99_26, cv_99_27, cv_99_28, cv_99_29, cv_99_30, cv_99_31, cv_99_32, cv_99_33, cv_99_34, cv_99_35, cv_99_36, cv_99_37, cv_99_38, cv_99_39, cv_99_40, cv_99_41, cv_99_42, cv_99_43, cv_99_44, cv_99_45, cv_99_46, isa_104, ln_104, cv_104, isa_105, ln_105, cv_105, ↓reduceIte, true_and, and_true, vok_int, vok_b0, vok_b1, vok_bb, r_backI, r_backV, bb_eq0, Nat.reduceAdd, Nat.reduceMul, Nat.reduceEqDiff, not_true_eq_false, not_false_eq_true, if_true, if_false, false_and, and_false, c17, c98, n_m1_0, n_m1_1, n_m1_2, n_m1_3, n_m1_4, n_m1_5, n_m1_6, n_0_m1, n_0_1, n_0_2, n_0_3, n_0_4, n_0_5, n_0_6, n_1_m1, n_1_0, n_1_2, n_1_3, n_1_4, n_1_5, n_1_6, n_2_m1, n_2_0, n_2_1, n_2_3, n_2_4, n_2_5, n_2_6, n_3_m1, n_3_0, n_3_1, n_3_2, n_3_4, n_3_5, n_3_6, n_4_m1, n_4_0, n_4_1, n_4_2, n_4_3, n_4_5, n_4_6, n_5_m1, n_5_0, n_5_1, n_5_2, n_5_3, n_5_4, n_5_6, n_6_m1, n_6_0, n_6_1, n_6_2, n_6_3, n_6_4, n_6_5, i0, i1, k0, g2]
        exact hfin
      · rw [bb_f s] at g2
        by_cases a : A1
        · rw [bb_t a] at g3
          rw [bb_t (c := S1 ∨ A1) (Or.inr a)] at hfin
          simp only [w106_355, w106_356, w106_359, w106_360, w106_361, w106_364, w106_365, w106_368, w106_369, w106_370, w106_373, w106_374, w106_377, w106_378, isk_99, cv_99_0, cv_99_1, cv_99_2, cv_99_3, cv_99_4, cv_99_5, cv_99_6, cv_99_7, cv_99_8, cv_99_9, cv_99_10, cv_99_11, cv_99_12, cv_99_13, cv_99_14, cv_99_15, cv_99_16, cv_99_17, cv_99_18, cv_99_19, cv_99_20, cv_99_21, cv_99_22, cv_99_23, cv_99_24, cv_99_25, cv_99_26, cv_99_27, cv_99_28, cv_99_29, cv_99_30, cv_99_31, cv_99_32, cv_99_33, cv_99_34, cv_99_35, cv_99_36, cv_99_37, cv_99_38, cv_99_39, cv_99_40, cv_99_41, cv_99_42, cv_99_43, cv_99_44, cv_99_45, cv_99_46, isa_104, ln_104, cv_104, isa_105, ln_105, cv_105, ↓reduceIte, true_and, and_true, vok_int, vok_b0, vok_b1, vok_bb, r_backI, r_backV, bb_eq0, Nat.reduceAdd, Nat.reduceMul, Nat.reduceEqDiff, not_true_eq_false, not_false_eq_true, if_true, if_false, false_and, and_false, c17, c98, n_m1_0, n_m1_1, n_m1_2, n_m1_3, n_m1_4, n_m1_5, n_m1_6, n_0_m1, n_0_1, n_0_2, n_0_3, n_0_4, n_0_5, n_0_6, n_1_m1, n_1_0, n_1_2, n_1_3, n_1_4, n_1_5, n_1_6, n_2_m1, n_2_0, n_2_1, n_2_3, n_2_4, n_2_5, n_2_6, n_3_m1, n_3_0, n_3_1, n_3_2, n_3_4, n_3_5, n_3_6, n_4_m1, n_4_0, n_4_1, n_4_2, n_4_3, n_4_5, n_4_6, n_5_m1, n_5_0, n_5_1, n_5_2, n_5_3, n_5_4, n_5_6, n_6_m1, n_6_0, n_6_1, n_6_2, n_6_3, n_6_4, n_6_5, i0, i1, k0, g2, g3]
          exact hfin
        · rw [bb_f a] at g3
          rw [bb_f (c := S1 ∨ A1) (fun q => q.elim s a)] at hfin
          simp only [w106_355, w106_356, w106_359, w106_360, w106_361, w106_364, w106_365, w106_368, w106_369, w106_370, w106_373, w106_374, w106_377, w106_378, isk_99, cv_99_0, cv_99_1, cv_99_2, cv_99_3, cv_99_4, cv_99_5, cv_99_6, cv_99_7, cv_99_8, cv_99_9, cv_99_10, cv_99_11, cv_99_12, cv_99_13, cv_99_14, cv_99_15, cv_99_16, cv_99_17, cv_99_18, cv_99_19, cv_99_20, cv_99_21, cv_99_22, cv_99_23, cv_99_24, cv_99_25, cv_99_26, cv_99_27, cv_99_28, cv_99_29, cv_99_30, cv_99_31, cv_99_32, cv_99_33, cv_99_34, cv_99_35, cv_99_36, cv_99_37, cv_99_38, cv_99_39, cv_99_40, cv_99_41, cv_99_42, cv_99_43, cv_99_44, cv_99_45, cv_99_46, isa_104, ln_104, cv_104, isa_105, ln_105, cv_105, ↓reduceIte, true_and, and_true, vok_int, vok_b0, vok_b1, vok_bb, r_backI, r_backV, bb_eq0, Nat.reduceAdd, Nat.reduceMul, Nat.reduceEqDiff, not_true_eq_false, not_false_eq_true, if_true, if_false, false_and, and_false, c17, c98, n_m1_0, n_m1_1, n_m1_2, n_m1_3, n_m1_4, n_m1_5, n_m1_6, n_0_m1, n_0_1, n_0_2, n_0_3, n_0_4, n_0_5, n_0_6, n_1_m1, n_1_0, n_1_2, n_1_3, n_1_4, n_1_5, n_1_6, n_2_m1, n_2_0, n_2_1, n_2_3, n_2_4, n_2_5, n_2_6, n_3_m1, n_3_0, n_3_1, n_3_2, n_3_4, n_3_5, n_3_6, n_4_m1, n_4_0, n_4_1, n_4_2, n_4_3, n_4_5, n_4_6, n_5_m1, n_5_0, n_5_1, n_5_2, n_5_3, n_5_4, n_5_6, n_6_m1, n_6_0, n_6_1, n_6_2, n_6_3, n_6_4, n_6_5, i0, i1, k0, g2, g3]
          exact hfin
    rw [w106_23]
    by_cases hq : n ≤ (pC qq T n 6 p).1
    · have hl : ii n ≤ ii (pC qq T n 6 p).1 := (ii_le (by omega) (by omega)).mpr hq
      simp only [w106_25, w106_26, ↓reduceIte, true_and, and_true, vok_int, vok_b0, vok_b1, vok_bb, r_backI, r_backV, bb_eq0, Nat.reduceAdd, Nat.reduceMul, Nat.reduceEqDiff, not_true_eq_false, not_false_eq_true, if_true, if_false, false_and, and_false, c17, c98, hl]
      exact last _
    · have hl : ¬ ii n ≤ ii (pC qq T n 6 p).1 := by rw [ii_le (by omega) (by omega)]; exact hq
      obtain ⟨-, t0, b0, e0⟩ := hx_at (L := L) hx1 (hend.resolve_left hq) (by decide)
      have t0 : m1 B (pC qq T n 6 p).1 = 59 := t0
      simp only [w106_25, w106_26, w106_29, w106_30, w106_32, w106_33, w106_35, ↓reduceIte, true_and, and_true, vok_int, vok_b0, vok_b1, vok_bb, r_backI, r_backV, bb_eq0, Nat.reduceAdd, Nat.reduceMul, Nat.reduceEqDiff, not_true_eq_false, not_false_eq_true, if_true, if_false, false_and, and_false, c17, c98, hl, hB, hcv, t0, b0, e0, n_m1_0, n_m1_1, n_m1_2, n_m1_3, n_m1_4, n_m1_5, n_m1_6, n_0_m1, n_0_1, n_0_2, n_0_3, n_0_4, n_0_5, n_0_6, n_1_m1, n_1_0, n_1_2, n_1_3, n_1_4, n_1_5, n_1_6, n_2_m1, n_2_0, n_2_1, n_2_3, n_2_4, n_2_5, n_2_6, n_3_m1, n_3_0, n_3_1, n_3_2, n_3_4, n_3_5, n_3_6, n_4_m1, n_4_0, n_4_1, n_4_2, n_4_3, n_4_5, n_4_6, n_5_m1, n_5_0, n_5_1, n_5_2, n_5_3, n_5_4, n_5_6, n_6_m1, n_6_0, n_6_1, n_6_2, n_6_3, n_6_4, n_6_5, n_59_m1, n_59_0, n_59_1, n_59_2, n_59_3, n_59_4, n_59_5, n_59_6, n_59_7, n_59_8, n_59_9, n_59_10, n_59_11, n_59_12, n_59_16, n_59_33, n_59_38, n_59_40, n_59_41, n_59_48, n_59_58, n_59_60, n_59_61, n_59_62, n_59_65, n_59_110, n_59_111, n_59_112, n_59_114, n_59_115, n_59_117, n_59_124]
      exact last _
end
