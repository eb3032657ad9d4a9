/-! The class's reader: tests, alternatives, conditions. -/
section
variable {L : Nat} {xs : Nat → Int32} {rw : Nat → Nat} {o : Nat → Int64} {g z : Nat}
variable {d Rd n C : Nat} {T : Nat → Nat} {qq : Bool}
def it_RT (d L : Nat) (xs : Nat → Int32) (rw : Nat → Nat) (o : Nat → Int64) (g z Rd n C : Nat) (T : Nat → Nat) (qq : Bool) (r : Nat) : Prop :=
  ∀ (p s : Nat) (mi : Nat → Nat → Int32) (v3 : Value) (Q : im_O → im_M → Prop), it_rx Rd n T qq mi → p ≤ n → mi Rd 5 = ii p → mi C 2 = ii s → s ≤ p → it_PQ L xs rw o g z Q Rd C s mi (pT qq T n r p) → iw (d + 3 * r + 1 + 1) 55 0 [.ref Rd, .ref C, .int (ii (6 - r)), v3] [] (it_mem L xs mi rw o g z) Q
def it_RA (d L : Nat) (xs : Nat → Int32) (rw : Nat → Nat) (o : Nat → Int64) (g z Rd n C : Nat) (T : Nat → Nat) (qq : Bool) (r : Nat) : Prop :=
  ∀ (p s : Nat) (mi : Nat → Nat → Int32) (v3 : Value) (Q : im_O → im_M → Prop), it_rx Rd n T qq mi → p ≤ n → mi Rd 5 = ii p → mi C 2 = ii s → s ≤ p → it_PQ L xs rw o g z Q Rd C s mi (pA qq T n r p) → iw (d + 3 * r + 1 + 1 + 1) 54 0 [.ref Rd, .ref C, .int (ii (6 - r)), v3] [] (it_mem L xs mi rw o g z) Q
def it_RC (d L : Nat) (xs : Nat → Int32) (rw : Nat → Nat) (o : Nat → Int64) (g z Rd n C : Nat) (T : Nat → Nat) (qq : Bool) (r : Nat) : Prop :=
  ∀ (p s : Nat) (mi : Nat → Nat → Int32) (v3 : Value) (Q : im_O → im_M → Prop), it_rx Rd n T qq mi → p ≤ n → mi Rd 5 = ii p → mi C 2 = ii s → s ≤ p → it_PQ L xs rw o g z Q Rd C s mi (pC qq T n r p) → iw (d + 3 * r + 1 + 1 + 1 + 1) 53 0 [.ref Rd, .ref C, .int (ii (6 - r)), v3] [] (it_mem L xs mi rw o g z) Q
theorem ra_L {r : Nat} (hRC : it_rc Rd C) (hT : it_RT d L xs rw o g z Rd n C T qq r) : ∀ (m k p s : Nat) (c0 : CV) (mi mi0 : Nat → Nat → Int32) (Q : im_O → im_M → Prop), k + m = n → it_rx Rd n T qq mi → p ≤ n → mi Rd 5 = ii p → it_cd C s c0.1 mi → s + c0.1.length ≤ p → it_rf Rd C s mi0 mi → it_PQ L xs rw o g z Q Rd C s mi0 (pL T 38 cvA (pT qq T n r) m p c0) →
    iw (d + 3 * r + 1 + 1 + 1) 54 13 [.ref Rd, .ref C, .int (ii (6 - r)), .int (ii k)] [] (it_mem L xs mi rw o g z) Q := by
  obtain ⟨hRC2, hC13⟩ := rc_a hRC
  have hCk := rc_k hRC
  intro m
  induction m with
  | zero =>
    intro k p s c0 mi mi0 Q hk hx hp h5 hc hsp hf hQ
    have hR := rx_r hx
    have hn := rx_n hx
    have hfin := (hQ mi hf h5).2 c0 rfl hc
    have e1 : ii n ≤ ii k := (ii_le (by omega) (by omega)).mpr (by omega)
    rw [w54_13]
    simp only [w54_14, w54_15, w54_18, w54_53, w54_54, ↓reduceIte, true_and, and_true, vok_int, vok_b0, vok_b1, vok_bb, r_backI, r_backV, bb_eq0, Nat.reduceAdd, Nat.reduceMul, Nat.reduceEqDiff, not_true_eq_false, not_false_eq_true, if_true, if_false, false_and, and_false, c17, c98, rd_k hR, rd_4 hR, hx.2.2.1, e1]
    exact hfin
  | succ m ih =>
    intro k p s c0 mi mi0 Q hk hx hp h5 hc hsp hf hQ
    have hR := rx_r hx
    have hn := rx_n hx
    have hz := hx.2.2.2.2.1
    have e1 : ¬ ii n ≤ ii k := by rw [ii_le (by omega) (by omega)]; omega
    have e2 : ii k + 1 = ii (k + 1) := ii_add (b := 1)
    rw [w54_13]
    by_cases h : T p = 38
    · have hpn : p < n := Nat.lt_of_not_le (fun q => by rw [hz p q] at h; omega)
      have hf1 : it_rf Rd C (s + c0.1.length) mi (it_up mi Rd 5 (ii (p + 1))) := rf_at hRC2
      have hx1 := rx_fr hx hC13 hf1
      simp only [w54_14, w54_15, w54_18, w54_21, w54_22, w54_24, w54_27, w54_30, w54_31, w54_32, w54_33, ↓reduceIte, true_and, and_true, vok_int, vok_b0, vok_b1, vok_bb, r_backI, r_backV, bb_eq0, Nat.reduceAdd, Nat.reduceMul, Nat.reduceEqDiff, not_true_eq_false, not_false_eq_true, if_true, if_false, false_and, and_false, c17, c98, rd_k hR, rd_4 hR, hx.2.2.1, e1, c52t (x := 38) hx hp h5 rfl h, n_m1_0, n_m1_1, n_m1_2, n_m1_3, n_m1_4, n_m1_5, n_m1_6, n_0_m1, n_0_1, n_0_2, n_0_3, n_0_4, n_0_5, n_0_6, n_1_m1, n_1_0, n_1_2, n_1_3, n_1_4, n_1_5, n_1_6, n_2_m1, n_2_0, n_2_1, n_2_3, n_2_4, n_2_5, n_2_6, n_3_m1, n_3_0, n_3_1, n_3_2, n_3_4, n_3_5, n_3_6, n_4_m1, n_4_0, n_4_1, n_4_2, n_4_3, n_4_5, n_4_6, n_5_m1, n_5_0, n_5_1, n_5_2, n_5_3, n_5_4, n_5_6, n_6_m1, n_6_0, n_6_1, n_6_2, n_6_3, n_6_4, n_6_5]
      refine hT (p + 1) (s + c0.1.length) _ _ _ hx1 (by omega) (it_up_same _ _ _ _) (by rw [it_up_f _ _ _ (by omega)]; exact hc.1) (by omega) (fun m1 g1 g2 => ⟨fun hb => ?_, fun b hb g3 => ?_⟩)
      · rw [pL_n h hb] at hQ
        have hfr : it_rf Rd C s mi0 m1 := rf_trans (Nat.le_refl _) hf (rf_trans (k := s + c0.1.length) (by omega) (rf_at hRC2) g1)
        have hfin := (hQ m1 hfr g2).1 rfl
        simp only [↓reduceIte, true_and, and_true, vok_int, vok_b0, vok_b1, vok_bb, r_backI, r_backV, bb_eq0, Nat.reduceAdd, Nat.reduceMul, Nat.reduceEqDiff, not_true_eq_false, not_false_eq_true, if_true, if_false, false_and, and_false, c17, c98, w54_36, w54_39, w54_40]
        exact hfin
      · rw [pL_s h hb] at hQ
        obtain ⟨f1, f2, f3⟩ := pT_ok (qq := qq) hz r (p + 1) (by omega)
        obtain ⟨f4, f5⟩ := f3 b hb
        have hnl := rc_n hRC hx
        have hsl : s + c0.1.length + b.1.length < if C = 13 then 40 else 120 := by split at hnl <;> (rename_i h; simp only [h, if_true, if_false]; omega)
        have hcu : it_rf Rd C (s + c0.1.length + b.1.length) m1 (cup C (s + c0.1.length + b.1.length) 1 0 m1) := by
          rcases cup_rf (Rd := Rd) (mi := m1) (C := C) (s := s + c0.1.length + b.1.length) (k := 1) (v := 0) with h | h
          · exact h
          · omega
        have g4 : it_cd C (s + c0.1.length) (b.1 ++ [(1, 0)]) (cup C (s + c0.1.length + b.1.length) 1 0 m1) := cd_cup g3
        have hf2 : it_rf Rd C (s + c0.1.length) mi (cup C (s + c0.1.length + b.1.length) 1 0 m1) := rf_trans (Nat.le_refl _) hf1 (rf_trans (k := s + c0.1.length + b.1.length) (by omega) g1 hcu)
        have g5 : it_cd C s (cvA c0 b).1 (cup C (s + c0.1.length + b.1.length) 1 0 m1) := cd_app hc g4 (fun j hj => hf2.2.2 j hj)
        have hx2 := rx_fr hx hC13 hf2
        simp only [↓reduceIte, true_and, and_true, vok_int, vok_b0, vok_b1, vok_bb, r_backI, r_backV, bb_eq0, Nat.reduceAdd, Nat.reduceMul, Nat.reduceEqDiff, not_true_eq_false, not_false_eq_true, if_true, if_false, false_and, and_false, c17, c98, w54_36, w54_39, w54_40, w54_41, w54_42, w54_43, w54_44, w54_47, w54_50, n_m1_0, n_m1_1, n_m1_2, n_m1_3, n_m1_4, n_m1_5, n_m1_6, n_0_m1, n_0_1, n_0_2, n_0_3, n_0_4, n_0_5, n_0_6, n_1_m1, n_1_0, n_1_2, n_1_3, n_1_4, n_1_5, n_1_6, n_2_m1, n_2_0, n_2_1, n_2_3, n_2_4, n_2_5, n_2_6, n_3_m1, n_3_0, n_3_1, n_3_2, n_3_4, n_3_5, n_3_6, n_4_m1, n_4_0, n_4_1, n_4_2, n_4_3, n_4_5, n_4_6, n_5_m1, n_5_0, n_5_1, n_5_2, n_5_3, n_5_4, n_5_6, n_6_m1, n_6_0, n_6_1, n_6_2, n_6_3, n_6_4, n_6_5, hCk, c58 hCk hC13 g3.1 hsl, e2]
        refine ih (k + 1) _ s (cvA c0 b) _ mi0 Q (by omega) hx2 f2 ?_ g5 (by rw [cvA_len]; omega) (rf_trans (by omega) hf (rf_trans (k := s + c0.1.length) (s := s + c0.1.length) (Nat.le_refl _) hf2 rf_refl)) hQ
        unfold cup
        rw [it_up_f _ _ _ (by omega), it_up_f _ _ _ (by omega), it_up_f _ _ _ (by omega)]
        exact g2
    · rw [pL_0 h] at hQ
      have hfin := (hQ mi hf h5).2 c0 rfl hc
      simp only [w54_14, w54_15, w54_18, w54_21, w54_22, w54_24, w54_27, w54_53, w54_54, ↓reduceIte, true_and, and_true, vok_int, vok_b0, vok_b1, vok_bb, r_backI, r_backV, bb_eq0, Nat.reduceAdd, Nat.reduceMul, Nat.reduceEqDiff, not_true_eq_false, not_false_eq_true, if_true, if_false, false_and, and_false, c17, c98, rd_k hR, rd_4 hR, hx.2.2.1, e1, c52f (x := 38) hx hp h5 rfl (by decide) h]
      exact hfin
theorem ra {r : Nat} (hRC : it_rc Rd C) (hT : it_RT d L xs rw o g z Rd n C T qq r) : it_RA d L xs rw o g z Rd n C T qq r := by
  intro p s mi v3 Q hx hp h5 hs hsp hQ
  obtain ⟨hRC2, hC13⟩ := rc_a hRC
  have hR := rx_r hx
  have hz := hx.2.2.2.2.1
  simp only [w54_0, w54_1, w54_2, w54_3, ↓reduceIte, true_and, and_true, vok_int, vok_b0, vok_b1, vok_bb, r_backI, r_backV, bb_eq0, Nat.reduceAdd, Nat.reduceMul, Nat.reduceEqDiff, not_true_eq_false, not_false_eq_true, if_true, if_false, false_and, and_false, c17, c98, rd_k hR]
  refine hT p s mi _ _ hx hp h5 hs hsp (fun m1 g1 g2 => ⟨fun hb => ?_, fun b hb g3 => ?_⟩)
  · unfold pA at hQ
    rw [pS_n hb] at hQ
    have hfin := (hQ m1 g1 g2).1 rfl
    simp only [↓reduceIte, true_and, and_true, vok_int, vok_b0, vok_b1, vok_bb, r_backI, r_backV, bb_eq0, Nat.reduceAdd, Nat.reduceMul, Nat.reduceEqDiff, not_true_eq_false, not_false_eq_true, if_true, if_false, false_and, and_false, c17, c98, w54_6, w54_9, w54_10]
    exact hfin
  · unfold pA at hQ
    rw [pS_s hb] at hQ
    obtain ⟨f1, f2, f3⟩ := pT_ok (qq := qq) hz r p hp
    obtain ⟨f4, f5⟩ := f3 b hb
    simp only [↓reduceIte, true_and, and_true, vok_int, vok_b0, vok_b1, vok_bb, r_backI, r_backV, bb_eq0, Nat.reduceAdd, Nat.reduceMul, Nat.reduceEqDiff, not_true_eq_false, not_false_eq_true, if_true, if_false, false_and, and_false, c17, c98, w54_6, w54_9, w54_10, w54_11, w54_12, n_m1_0, n_m1_1, n_m1_2, n_m1_3, n_m1_4, n_m1_5, n_m1_6, n_0_m1, n_0_1, n_0_2, n_0_3, n_0_4, n_0_5, n_0_6, n_1_m1, n_1_0, n_1_2, n_1_3, n_1_4, n_1_5, n_1_6, n_2_m1, n_2_0, n_2_1, n_2_3, n_2_4, n_2_5, n_2_6, n_3_m1, n_3_0, n_3_1, n_3_2, n_3_4, n_3_5, n_3_6, n_4_m1, n_4_0, n_4_1, n_4_2, n_4_3, n_4_5, n_4_6, n_5_m1, n_5_0, n_5_1, n_5_2, n_5_3, n_5_4, n_5_6, n_6_m1, n_6_0, n_6_1, n_6_2, n_6_3, n_6_4, n_6_5]
    exact ra_L hRC hT n 0 _ s b m1 mi Q (by omega) (rx_fr hx hC13 g1) f2 g2 g3 (by omega) g1 hQ
theorem rc_L {r : Nat} (hRC : it_rc Rd C) (hA : it_RA d L xs rw o g z Rd n C T qq r) : ∀ (m k p s : Nat) (c0 : CV) (mi mi0 : Nat → Nat → Int32) (Q : im_O → im_M → Prop), k + m = n → it_rx Rd n T qq mi → p ≤ n → mi Rd 5 = ii p → it_cd C s c0.1 mi → s + c0.1.length ≤ p → it_rf Rd C s mi0 mi → it_PQ L xs rw o g z Q Rd C s mi0 (pL T 124 cvO (pA qq T n r) m p c0) →
    iw (d + 3 * r + 1 + 1 + 1 + 1) 53 13 [.ref Rd, .ref C, .int (ii (6 - r)), .int (ii k)] [] (it_mem L xs mi rw o g z) Q := by
  obtain ⟨hRC2, hC13⟩ := rc_a hRC
  have hCk := rc_k hRC
  intro m
  induction m with
  | zero =>
    intro k p s c0 mi mi0 Q hk hx hp h5 hc hsp hf hQ
    have hR := rx_r hx
    have hn := rx_n hx
    have hfin := (hQ mi hf h5).2 c0 rfl hc
    have e1 : ii n ≤ ii k := (ii_le (by omega) (by omega)).mpr (by omega)
    rw [w53_13]
    simp only [w53_14, w53_15, w53_18, w53_53, w53_54, ↓reduceIte, true_and, and_true, vok_int, vok_b0, vok_b1, vok_bb, r_backI, r_backV, bb_eq0, Nat.reduceAdd, Nat.reduceMul, Nat.reduceEqDiff, not_true_eq_false, not_false_eq_true, if_true, if_false, false_and, and_false, c17, c98, rd_k hR, rd_4 hR, hx.2.2.1, e1]
    exact hfin
  | succ m ih =>
    intro k p s c0 mi mi0 Q hk hx hp h5 hc hsp hf hQ
    have hR := rx_r hx
    have hn := rx_n hx
    have hz := hx.2.2.2.2.1
    have e1 : ¬ ii n ≤ ii k := by rw [ii_le (by omega) (by omega)]; omega
    have e2 : ii k + 1 = ii (k + 1) := ii_add (b := 1)
    rw [w53_13]
    by_cases h : T p = 124
    · have hpn : p < n := Nat.lt_of_not_le (fun q => by rw [hz p q] at h; omega)
      have hf1 : it_rf Rd C (s + c0.1.length) mi (it_up mi Rd 5 (ii (p + 1))) := rf_at hRC2
      have hx1 := rx_fr hx hC13 hf1
      simp only [w53_14, w53_15, w53_18, w53_21, w53_22, w53_24, w53_27, w53_30, w53_31, w53_32, w53_33, ↓reduceIte, true_and, and_true, vok_int, vok_b0, vok_b1, vok_bb, r_backI, r_backV, bb_eq0, Nat.reduceAdd, Nat.reduceMul, Nat.reduceEqDiff, not_true_eq_false, not_false_eq_true, if_true, if_false, false_and, and_false, c17, c98, rd_k hR, rd_4 hR, hx.2.2.1, e1, c52t (x := 124) hx hp h5 rfl h, n_m1_0, n_m1_1, n_m1_2, n_m1_3, n_m1_4, n_m1_5, n_m1_6, n_0_m1, n_0_1, n_0_2, n_0_3, n_0_4, n_0_5, n_0_6, n_1_m1, n_1_0, n_1_2, n_1_3, n_1_4, n_1_5, n_1_6, n_2_m1, n_2_0, n_2_1, n_2_3, n_2_4, n_2_5, n_2_6, n_3_m1, n_3_0, n_3_1, n_3_2, n_3_4, n_3_5, n_3_6, n_4_m1, n_4_0, n_4_1, n_4_2, n_4_3, n_4_5, n_4_6, n_5_m1, n_5_0, n_5_1, n_5_2, n_5_3, n_5_4, n_5_6, n_6_m1, n_6_0, n_6_1, n_6_2, n_6_3, n_6_4, n_6_5]
      refine hA (p + 1) (s + c0.1.length) _ _ _ hx1 (by omega) (it_up_same _ _ _ _) (by rw [it_up_f _ _ _ (by omega)]; exact hc.1) (by omega) (fun m1 g1 g2 => ⟨fun hb => ?_, fun b hb g3 => ?_⟩)
      · rw [pL_n h hb] at hQ
        have hfr : it_rf Rd C s mi0 m1 := rf_trans (Nat.le_refl _) hf (rf_trans (k := s + c0.1.length) (by omega) (rf_at hRC2) g1)
        have hfin := (hQ m1 hfr g2).1 rfl
        simp only [↓reduceIte, true_and, and_true, vok_int, vok_b0, vok_b1, vok_bb, r_backI, r_backV, bb_eq0, Nat.reduceAdd, Nat.reduceMul, Nat.reduceEqDiff, not_true_eq_false, not_false_eq_true, if_true, if_false, false_and, and_false, c17, c98, w53_36, w53_39, w53_40]
        exact hfin
      · rw [pL_s h hb] at hQ
        obtain ⟨f1, f2, f3⟩ := pA_ok (qq := qq) hz r (p + 1) (by omega)
        obtain ⟨f4, f5⟩ := f3 b hb
        have hnl := rc_n hRC hx
        have hsl : s + c0.1.length + b.1.length < if C = 13 then 40 else 120 := by split at hnl <;> (rename_i h; simp only [h, if_true, if_false]; omega)
        have hcu : it_rf Rd C (s + c0.1.length + b.1.length) m1 (cup C (s + c0.1.length + b.1.length) 2 0 m1) := by
          rcases cup_rf (Rd := Rd) (mi := m1) (C := C) (s := s + c0.1.length + b.1.length) (k := 2) (v := 0) with h | h
          · exact h
          · omega
        have g4 : it_cd C (s + c0.1.length) (b.1 ++ [(2, 0)]) (cup C (s + c0.1.length + b.1.length) 2 0 m1) := cd_cup g3
        have hf2 : it_rf Rd C (s + c0.1.length) mi (cup C (s + c0.1.length + b.1.length) 2 0 m1) := rf_trans (Nat.le_refl _) hf1 (rf_trans (k := s + c0.1.length + b.1.length) (by omega) g1 hcu)
        have g5 : it_cd C s (cvO c0 b).1 (cup C (s + c0.1.length + b.1.length) 2 0 m1) := cd_app hc g4 (fun j hj => hf2.2.2 j hj)
        have hx2 := rx_fr hx hC13 hf2
        simp only [↓reduceIte, true_and, and_true, vok_int, vok_b0, vok_b1, vok_bb, r_backI, r_backV, bb_eq0, Nat.reduceAdd, Nat.reduceMul, Nat.reduceEqDiff, not_true_eq_false, not_false_eq_true, if_true, if_false, false_and, and_false, c17, c98, w53_36, w53_39, w53_40, w53_41, w53_42, w53_43, w53_44, w53_47, w53_50, n_m1_0, n_m1_1, n_m1_2, n_m1_3, n_m1_4, n_m1_5, n_m1_6, n_0_m1, n_0_1, n_0_2, n_0_3, n_0_4, n_0_5, n_0_6, n_1_m1, n_1_0, n_1_2, n_1_3, n_1_4, n_1_5, n_1_6, n_2_m1, n_2_0, n_2_1, n_2_3, n_2_4, n_2_5, n_2_6, n_3_m1, n_3_0, n_3_1, n_3_2, n_3_4, n_3_5, n_3_6, n_4_m1, n_4_0, n_4_1, n_4_2, n_4_3, n_4_5, n_4_6, n_5_m1, n_5_0, n_5_1, n_5_2, n_5_3, n_5_4, n_5_6, n_6_m1, n_6_0, n_6_1, n_6_2, n_6_3, n_6_4, n_6_5, hCk, c58 hCk hC13 g3.1 hsl, e2]
        refine ih (k + 1) _ s (cvO c0 b) _ mi0 Q (by omega) hx2 f2 ?_ g5 (by rw [cvO_len]; omega) (rf_trans (by omega) hf (rf_trans (k := s + c0.1.length) (s := s + c0.1.length) (Nat.le_refl _) hf2 rf_refl)) hQ
        unfold cup
        rw [it_up_f _ _ _ (by omega), it_up_f _ _ _ (by omega), it_up_f _ _ _ (by omega)]
        exact g2
    · rw [pL_0 h] at hQ
      have hfin := (hQ mi hf h5).2 c0 rfl hc
      simp only [w53_14, w53_15, w53_18, w53_21, w53_22, w53_24, w53_27, w53_53, w53_54, ↓reduceIte, true_and, and_true, vok_int, vok_b0, vok_b1, vok_bb, r_backI, r_backV, bb_eq0, Nat.reduceAdd, Nat.reduceMul, Nat.reduceEqDiff, not_true_eq_false, not_false_eq_true, if_true, if_false, false_and, and_false, c17, c98, rd_k hR, rd_4 hR, hx.2.2.1, e1, c52f (x := 124) hx hp h5 rfl (by decide) h]
      exact hfin
theorem rcc {r : Nat} (hRC : it_rc Rd C) (hA : it_RA d L xs rw o g z Rd n C T qq r) : it_RC d L xs rw o g z Rd n C T qq r := by
  intro p s mi v3 Q hx hp h5 hs hsp hQ
  obtain ⟨hRC2, hC13⟩ := rc_a hRC
  have hR := rx_r hx
  have hz := hx.2.2.2.2.1
  simp only [w53_0, w53_1, w53_2, w53_3, ↓reduceIte, true_and, and_true, vok_int, vok_b0, vok_b1, vok_bb, r_backI, r_backV, bb_eq0, Nat.reduceAdd, Nat.reduceMul, Nat.reduceEqDiff, not_true_eq_false, not_false_eq_true, if_true, if_false, false_and, and_false, c17, c98, rd_k hR]
  refine hA p s mi _ _ hx hp h5 hs hsp (fun m1 g1 g2 => ⟨fun hb => ?_, fun b hb g3 => ?_⟩)
  · unfold pC at hQ
    rw [pS_n hb] at hQ
    have hfin := (hQ m1 g1 g2).1 rfl
    simp only [↓reduceIte, true_and, and_true, vok_int, vok_b0, vok_b1, vok_bb, r_backI, r_backV, bb_eq0, Nat.reduceAdd, Nat.reduceMul, Nat.reduceEqDiff, not_true_eq_false, not_false_eq_true, if_true, if_false, false_and, and_false, c17, c98, w53_6, w53_9, w53_10]
    exact hfin
  · unfold pC at hQ
    rw [pS_s hb] at hQ
    obtain ⟨f1, f2, f3⟩ := pA_ok (qq := qq) hz r p hp
    obtain ⟨f4, f5⟩ := f3 b hb
    simp only [↓reduceIte, true_and, and_true, vok_int, vok_b0, vok_b1, vok_bb, r_backI, r_backV, bb_eq0, Nat.reduceAdd, Nat.reduceMul, Nat.reduceEqDiff, not_true_eq_false, not_false_eq_true, if_true, if_false, false_and, and_false, c17, c98, w53_6, w53_9, w53_10, w53_11, w53_12, n_m1_0, n_m1_1, n_m1_2, n_m1_3, n_m1_4, n_m1_5, n_m1_6, n_0_m1, n_0_1, n_0_2, n_0_3, n_0_4, n_0_5, n_0_6, n_1_m1, n_1_0, n_1_2, n_1_3, n_1_4, n_1_5, n_1_6, n_2_m1, n_2_0, n_2_1, n_2_3, n_2_4, n_2_5, n_2_6, n_3_m1, n_3_0, n_3_1, n_3_2, n_3_4, n_3_5, n_3_6, n_4_m1, n_4_0, n_4_1, n_4_2, n_4_3, n_4_5, n_4_6, n_5_m1, n_5_0, n_5_1, n_5_2, n_5_3, n_5_4, n_5_6, n_6_m1, n_6_0, n_6_1, n_6_2, n_6_3, n_6_4, n_6_5]
    exact rc_L hRC hA n 0 _ s b m1 mi Q (by omega) (rx_fr hx hC13 g1) f2 g2 g3 (by omega) g1 hQ
theorem rt (hRC : it_rc Rd C) : ∀ r, r ≤ 6 → ∀ d, it_RT d L xs rw o g z Rd n C T qq r := by
  obtain ⟨hRC2, hC13⟩ := rc_a hRC
  have hCk := rc_k hRC
  intro r
  induction r with
  | zero =>
    intro _ d p s mi v3 Q hx hp h5 hs hsp hQ
    have hR := rx_r hx
    have hT := hx.2.2.2.2.2 p
    have a1 : ii (T p) = 33 ↔ T p = 33 := by rw [lit_33, ii_inj (by omega) (by decide)]
    have a2 : ii (T p) = 40 ↔ T p = 40 := by rw [lit_40, ii_inj (by omega) (by decide)]
    have e6 : ¬ ii 6 < 6 := by decide
    by_cases h1 : T p = 33
    · rw [pT_0 (Or.inl h1)] at hQ
      have hfin := (hQ mi rf_refl h5).1 rfl
      simp only [w55_0, w55_1, w55_4, w55_5, w55_6, w55_8, w55_11, w55_12, w55_14, w55_17, w55_18, w55_19, w55_22, w55_23, w55_24, w55_26, w55_29, w55_30, ↓reduceIte, true_and, and_true, vok_int, vok_b0, vok_b1, vok_bb, r_backI, r_backV, bb_eq0, Nat.reduceAdd, Nat.reduceMul, Nat.reduceEqDiff, not_true_eq_false, not_false_eq_true, if_true, if_false, false_and, and_false, c17, c98, rd_k hR, c51 hx hp h5, a1, eq_true h1, Nat.sub_zero, e6]
      exact hfin
    by_cases h2 : T p = 40
    · rw [pT_0 (Or.inr h2)] at hQ
      have hfin := (hQ mi rf_refl h5).1 rfl
      simp only [w55_0, w55_1, w55_4, w55_5, w55_6, w55_8, w55_11, w55_12, w55_14, w55_17, w55_18, w55_19, w55_22, w55_23, w55_24, w55_26, w55_29, w55_30, ↓reduceIte, true_and, and_true, vok_int, vok_b0, vok_b1, vok_bb, r_backI, r_backV, bb_eq0, Nat.reduceAdd, Nat.reduceMul, Nat.reduceEqDiff, not_true_eq_false, not_false_eq_true, if_true, if_false, false_and, and_false, c17, c98, rd_k hR, c51 hx hp h5, a1, a2, h1, eq_true h2, Nat.sub_zero, e6]
      exact hfin
    · rw [pT_f h1 h2] at hQ
      simp only [w55_0, w55_1, w55_4, w55_5, w55_6, w55_8, w55_11, w55_12, w55_14, w55_17, w55_18, w55_19, ↓reduceIte, true_and, and_true, vok_int, vok_b0, vok_b1, vok_bb, r_backI, r_backV, bb_eq0, Nat.reduceAdd, Nat.reduceMul, Nat.reduceEqDiff, not_true_eq_false, not_false_eq_true, if_true, if_false, false_and, and_false, c17, c98, rd_k hR, c51 hx hp h5, a1, a2, h1, h2, Nat.sub_zero, Nat.mul_zero, Nat.add_zero]
      refine c56 hRC hx hp h5 hs hsp (fun m1 g1 g2 => ⟨fun hb => ?_, fun b hb g3 => ?_⟩)
      · have hfin := (hQ m1 g1 g2).1 hb
        simp only [↓reduceIte, true_and, and_true, vok_int, vok_b0, vok_b1, vok_bb, r_backI, r_backV, bb_eq0, Nat.reduceAdd, Nat.reduceMul, Nat.reduceEqDiff, not_true_eq_false, not_false_eq_true, if_true, if_false, false_and, and_false, c17, c98, w55_22]
        exact hfin
      · have hfin := (hQ m1 g1 g2).2 b hb g3
        simp only [↓reduceIte, true_and, and_true, vok_int, vok_b0, vok_b1, vok_bb, r_backI, r_backV, bb_eq0, Nat.reduceAdd, Nat.reduceMul, Nat.reduceEqDiff, not_true_eq_false, not_false_eq_true, if_true, if_false, false_and, and_false, c17, c98, w55_22]
        exact hfin
  | succ r ih =>
    intro hr d p s mi v3 Q hx hp h5 hs hsp hQ
    have hR := rx_r hx
    have hT := hx.2.2.2.2.2 p
    have hz := hx.2.2.2.2.1
    have a1 : ii (T p) = 33 ↔ T p = 33 := by rw [lit_33, ii_inj (by omega) (by decide)]
    have a2 : ii (T p) = 40 ↔ T p = 40 := by rw [lit_40, ii_inj (by omega) (by decide)]
    have e6 : ii (6 - (r + 1)) < 6 := (ii_lt (b := 6) (by omega) (by decide)).mpr (by omega)
    have e7 : ii (6 - (r + 1)) + 1 = ii (6 - r) := by rw [lit_1, ii_add]; congr 1; omega
    have e1 : ii p + 1 = ii (p + 1) := ii_add (b := 1)
    have ih' := ih (by omega)
    have hf1 : it_rf Rd C s mi (it_up mi Rd 5 (ii (p + 1))) := rf_at hRC2
    have hx1 := rx_fr hx hC13 hf1
    have hs1 : it_up mi Rd 5 (ii (p + 1)) C 2 = ii s := by rw [it_up_f _ _ _ (by omega)]; exact hs
    by_cases h1 : T p = 33
    · have n2 : ¬ T p = 40 := by omega
      have hpn : p < n := Nat.lt_of_not_le (fun q => by rw [hz p q] at h1; omega)
      have hdep : d + 3 * (r + 1) + 1 + 1 = (d + 2) + 3 * r + 1 + 1 + 1 := by omega
      rw [hdep, w55_0]
      simp only [w55_1, w55_4, w55_5, w55_6, w55_8, w55_11, w55_12, w55_14, w55_23, w55_24, w55_26, w55_29, w55_30, w55_31, w55_32, w55_33, w55_36, w55_37, w55_38, w55_41, w55_42, w55_44, w55_47, w55_48, w55_49, w55_50, w55_51, w55_52, w55_55, w55_58, w55_59, w55_61, w55_64, w55_67, w55_68, w55_71, w55_72, w55_73, w55_74, w55_75, w55_76, w55_77, w55_78, ↓reduceIte, true_and, and_true, vok_int, vok_b0, vok_b1, vok_bb, r_backI, r_backV, bb_eq0, Nat.reduceAdd, Nat.reduceMul, Nat.reduceEqDiff, not_true_eq_false, not_false_eq_true, if_true, if_false, false_and, and_false, c17, c98, rd_k hR, rd_5 hR, h5, e1, c51 hx hp h5, a1, a2, eq_true h1, n2, e6, e7]
      refine ih' (d + 2) (p + 1) s _ _ _ hx1 (by omega) (it_up_same _ _ _ _) hs1 (by omega) (fun m1 g1 g2 => ⟨fun hb => ?_, fun b hb g3 => ?_⟩)
      · rw [pT_nn h1 hb] at hQ
        have hfin := (hQ m1 (rf_trans (Nat.le_refl _) hf1 g1) g2).1 rfl
        simp only [↓reduceIte, true_and, and_true, vok_int, vok_b0, vok_b1, vok_bb, r_backI, r_backV, bb_eq0, Nat.reduceAdd, Nat.reduceMul, Nat.reduceEqDiff, not_true_eq_false, not_false_eq_true, if_true, if_false, false_and, and_false, c17, c98, w55_81, w55_84, w55_85]
        exact hfin
      · rw [pT_ns h1 hb] at hQ
        obtain ⟨f1, f2, f3⟩ := pT_ok (qq := qq) hz r (p + 1) (by omega)
        obtain ⟨f4, f5⟩ := f3 b hb
        have hnl := rc_n hRC hx
        have hsl : s + b.1.length < if C = 13 then 40 else 120 := by split at hnl <;> (rename_i h; simp only [h, if_true, if_false]; omega)
        have hcu : it_rf Rd C (s + b.1.length) m1 (cup C (s + b.1.length) 0 0 m1) := by
          rcases cup_rf (Rd := Rd) (mi := m1) (C := C) (s := s + b.1.length) (k := 0) (v := 0) with h | h
          · exact h
          · omega
        have hfin := (hQ (cup C (s + b.1.length) 0 0 m1) (rf_trans (Nat.le_refl _) hf1 (rf_trans (k := s + b.1.length) (by omega) g1 hcu)) (by
          unfold cup
          rw [it_up_f _ _ _ (by omega), it_up_f _ _ _ (by omega), it_up_f _ _ _ (by omega)]
          exact g2)).2 (cvN b) rfl (cd_cup g3)
        simp only [↓reduceIte, true_and, and_true, vok_int, vok_b0, vok_b1, vok_bb, r_backI, r_backV, bb_eq0, Nat.reduceAdd, Nat.reduceMul, Nat.reduceEqDiff, not_true_eq_false, not_false_eq_true, if_true, if_false, false_and, and_false, c17, c98, w55_81, w55_84, w55_85, w55_86, w55_87, w55_88, w55_89, w55_92, w55_93, n_m1_0, n_m1_1, n_m1_2, n_m1_3, n_m1_4, n_m1_5, n_m1_6, n_0_m1, n_0_1, n_0_2, n_0_3, n_0_4, n_0_5, n_0_6, n_1_m1, n_1_0, n_1_2, n_1_3, n_1_4, n_1_5, n_1_6, n_2_m1, n_2_0, n_2_1, n_2_3, n_2_4, n_2_5, n_2_6, n_3_m1, n_3_0, n_3_1, n_3_2, n_3_4, n_3_5, n_3_6, n_4_m1, n_4_0, n_4_1, n_4_2, n_4_3, n_4_5, n_4_6, n_5_m1, n_5_0, n_5_1, n_5_2, n_5_3, n_5_4, n_5_6, n_6_m1, n_6_0, n_6_1, n_6_2, n_6_3, n_6_4, n_6_5, hCk, c58 hCk hC13 g3.1 hsl]
        exact hfin
    by_cases h2 : T p = 40
    · have hpn : p < n := Nat.lt_of_not_le (fun q => by rw [hz p q] at h2; omega)
      have hdep : d + 3 * (r + 1) + 1 + 1 = d + 3 * r + 1 + 1 + 1 + 1 + 1 := by omega
      rw [hdep]
      simp only [w55_0, w55_1, w55_4, w55_5, w55_6, w55_8, w55_11, w55_12, w55_14, w55_17, w55_18, w55_19, w55_22, w55_23, w55_24, w55_26, w55_29, w55_30, w55_31, w55_32, w55_33, w55_36, w55_37, w55_38, w55_41, w55_42, w55_44, w55_47, w55_48, w55_49, w55_50, w55_51, w55_52, ↓reduceIte, true_and, and_true, vok_int, vok_b0, vok_b1, vok_bb, r_backI, r_backV, bb_eq0, Nat.reduceAdd, Nat.reduceMul, Nat.reduceEqDiff, not_true_eq_false, not_false_eq_true, if_true, if_false, false_and, and_false, c17, c98, rd_k hR, rd_5 hR, h5, e1, c51 hx hp h5, a1, a2, h1, eq_true h2, e6, e7]
      refine rcc hRC (ra hRC (ih' d)) (p + 1) s _ _ _ hx1 (by omega) (it_up_same _ _ _ _) hs1 (by omega) (fun m1 g1 g2 => ⟨fun hb => ?_, fun b hb g3 => ?_⟩)
      · rw [pT_pn h2 hb] at hQ
        have hfin := (hQ m1 (rf_trans (Nat.le_refl _) hf1 g1) g2).1 rfl
        simp only [↓reduceIte, true_and, and_true, vok_int, vok_b0, vok_b1, vok_bb, r_backI, r_backV, bb_eq0, Nat.reduceAdd, Nat.reduceMul, Nat.reduceEqDiff, not_true_eq_false, not_false_eq_true, if_true, if_false, false_and, and_false, c17, c98, w55_55, w55_58, w55_59, w55_61, w55_64, w55_67, w55_68, w55_71, w55_72]
        exact hfin
      · obtain ⟨f1, f2, f3⟩ := pC_ok (qq := qq) hz r (p + 1) (by omega)
        have hx2 := rx_fr hx1 hC13 g1
        by_cases hq : T (pC qq T n r (p + 1)).1 = 41
        · rw [pT_ps h2 hb hq] at hQ
          have hf3 : it_rf Rd C s m1 (it_up m1 Rd 5 (ii ((pC qq T n r (p + 1)).1 + 1))) := rf_at hRC2
          have hfin := (hQ (it_up m1 Rd 5 (ii ((pC qq T n r (p + 1)).1 + 1))) (rf_trans (Nat.le_refl _) hf1 (rf_trans (Nat.le_refl _) g1 hf3)) (it_up_same _ _ _ _)).2 b rfl ⟨by rw [it_up_f _ _ _ (by omega)]; exact g3.1, fun i hi => by rw [it_up_f _ _ _ (by omega), it_up_f _ _ _ (by omega)]; exact g3.2 i hi⟩
          simp only [↓reduceIte, true_and, and_true, vok_int, vok_b0, vok_b1, vok_bb, r_backI, r_backV, bb_eq0, Nat.reduceAdd, Nat.reduceMul, Nat.reduceEqDiff, not_true_eq_false, not_false_eq_true, if_true, if_false, false_and, and_false, c17, c98, w55_55, w55_58, w55_59, w55_61, w55_64, w55_67, w55_68, w55_71, w55_72, n_m1_0, n_m1_1, n_m1_2, n_m1_3, n_m1_4, n_m1_5, n_m1_6, n_0_m1, n_0_1, n_0_2, n_0_3, n_0_4, n_0_5, n_0_6, n_1_m1, n_1_0, n_1_2, n_1_3, n_1_4, n_1_5, n_1_6, n_2_m1, n_2_0, n_2_1, n_2_3, n_2_4, n_2_5, n_2_6, n_3_m1, n_3_0, n_3_1, n_3_2, n_3_4, n_3_5, n_3_6, n_4_m1, n_4_0, n_4_1, n_4_2, n_4_3, n_4_5, n_4_6, n_5_m1, n_5_0, n_5_1, n_5_2, n_5_3, n_5_4, n_5_6, n_6_m1, n_6_0, n_6_1, n_6_2, n_6_3, n_6_4, n_6_5, rd_k hR, c52t (x := 41) hx2 f2 g2 rfl hq]
          exact hfin
        · rw [pT_pe h2 hb hq] at hQ
          have hfin := (hQ m1 (rf_trans (Nat.le_refl _) hf1 g1) g2).1 rfl
          simp only [↓reduceIte, true_and, and_true, vok_int, vok_b0, vok_b1, vok_bb, r_backI, r_backV, bb_eq0, Nat.reduceAdd, Nat.reduceMul, Nat.reduceEqDiff, not_true_eq_false, not_false_eq_true, if_true, if_false, false_and, and_false, c17, c98, w55_55, w55_58, w55_59, w55_61, w55_64, w55_67, w55_68, w55_71, w55_72, n_m1_0, n_m1_1, n_m1_2, n_m1_3, n_m1_4, n_m1_5, n_m1_6, n_0_m1, n_0_1, n_0_2, n_0_3, n_0_4, n_0_5, n_0_6, n_1_m1, n_1_0, n_1_2, n_1_3, n_1_4, n_1_5, n_1_6, n_2_m1, n_2_0, n_2_1, n_2_3, n_2_4, n_2_5, n_2_6, n_3_m1, n_3_0, n_3_1, n_3_2, n_3_4, n_3_5, n_3_6, n_4_m1, n_4_0, n_4_1, n_4_2, n_4_3, n_4_5, n_4_6, n_5_m1, n_5_0, n_5_1, n_5_2, n_5_3, n_5_4, n_5_6, n_6_m1, n_6_0, n_6_1, n_6_2, n_6_3, n_6_4, n_6_5, rd_k hR, c52f (x := 41) hx2 f2 g2 rfl (by decide) hq]
          exact hfin
    · rw [pT_f h1 h2] at hQ
      have hdep : d + 3 * (r + 1) + 1 + 1 = d + 3 * r + 3 + 1 + 1 := by omega
      rw [hdep]
      simp only [w55_0, w55_1, w55_4, w55_5, w55_6, w55_8, w55_11, w55_12, w55_14, w55_17, w55_18, w55_19, ↓reduceIte, true_and, and_true, vok_int, vok_b0, vok_b1, vok_bb, r_backI, r_backV, bb_eq0, Nat.reduceAdd, Nat.reduceMul, Nat.reduceEqDiff, not_true_eq_false, not_false_eq_true, if_true, if_false, false_and, and_false, c17, c98, rd_k hR, c51 hx hp h5, a1, a2, h1, h2]
      refine c56 hRC hx hp h5 hs hsp (fun m1 g1 g2 => ⟨fun hb => ?_, fun b hb g3 => ?_⟩)
      · have hfin := (hQ m1 g1 g2).1 hb
        simp only [↓reduceIte, true_and, and_true, vok_int, vok_b0, vok_b1, vok_bb, r_backI, r_backV, bb_eq0, Nat.reduceAdd, Nat.reduceMul, Nat.reduceEqDiff, not_true_eq_false, not_false_eq_true, if_true, if_false, false_and, and_false, c17, c98, w55_22]
        exact hfin
      · have hfin := (hQ m1 g1 g2).2 b hb g3
        simp only [↓reduceIte, true_and, and_true, vok_int, vok_b0, vok_b1, vok_bb, r_backI, r_backV, bb_eq0, Nat.reduceAdd, Nat.reduceMul, Nat.reduceEqDiff, not_true_eq_false, not_false_eq_true, if_true, if_false, false_and, and_false, c17, c98, w55_22]
        exact hfin
end
