/-! deliver, whole. -/
section
variable {Q : im_O → im_M → Prop} {L : Nat} {xs : Nat → Int32} {mi : Nat → Nat → Int32} {rw : Nat → Nat} {o : Nat → Int64} {g z i : Nat} {l5 l6 : Value}
theorem op7 (hL : L ≤ 3072) (hi : i + 6 ≤ L) (hI : it_Inv mi rw) (hK : it_K L xs i g z Q) : iw 30 0 484 [.ref 0, .ref 8, .ref 99, .ref 134, .int (ii i), l5, l6] [] (it_mem L xs mi rw o g z) Q := by
  have hI0 := hI
  obtain ⟨i1, i2, i3, i4, i5, i6, cnt, kn, vw, tm, sp, hN, hG, i9, i10, i11⟩ := hI
  have hR := pst_isk i10
  have hP := i10
  obtain ⟨n, hn, s1, s2, hrow, hinj, hmsg⟩ := i10
  rw [s1, s2] at hP
  have hb := sc_in (k := 1) hL hi (by decide)
  have hc := sc_cl (k := 1) hL hi (by decide)
  have e1 : ii i + 1 = ii (i + 1) := ii_add (b := 1)
  simp only [w0_484, w0_485, w0_486, w0_488, w0_489, w0_490, w0_491, isa_0, ln_0, cv_0, isk_8, cv_8_0, cv_8_1, cv_8_2, cv_8_3, cv_8_4, cv_8_5, cv_8_6, cv_8_7, cv_8_8, isk_99, cv_99_0, cv_99_1, cv_99_2, cv_99_3, cv_99_4, cv_99_5, cv_99_6, cv_99_7, cv_99_8, cv_99_9, cv_99_10, cv_99_11, cv_99_12, cv_99_13, cv_99_14, cv_99_15, cv_99_16, cv_99_17, cv_99_18, cv_99_19, cv_99_20, cv_99_21, cv_99_22, cv_99_23, cv_99_24, cv_99_25, cv_99_26, cv_99_27, cv_99_28, cv_99_29, cv_99_30, cv_99_31, cv_99_32, cv_99_33, cv_99_34, cv_99_35, cv_99_36, cv_99_37, cv_99_38, cv_99_39, cv_99_40, cv_99_41, cv_99_42, cv_99_43, cv_99_44, cv_99_45, cv_99_46, ↓reduceIte, true_and, and_true, vok_int, vok_b0, vok_b1, vok_bb, r_backI, r_backV, bb_eq0, Nat.reduceAdd, Nat.reduceMul, Nat.reduceEqDiff, not_true_eq_false, not_false_eq_true, if_true, if_false, false_and, and_false, c17, c98, e1, hb, hc]
  by_cases h : 0 ≤ xs (i + 1) ∧ xs (i + 1) < ii n
  · obtain ⟨k, hk, ep⟩ := below (b := n) rfl (by omega) h
    obtain ⟨f, t, hf, ht, hft, m2, m3, m4, m5, hm⟩ := hmsg k hk
    obtain ⟨ir, hir, hrk⟩ := hrow k (by omega)
    have hm' : ∀ q : Nat, ∃ ab : Nat × Nat, q < 3 → ab.1 ≤ ab.2 ∧ ab.2 ≤ kn f q ∧ ab.1 ≤ kn t q ∧ it_win 79 97 mi (rw k + 1) q = ii ab.1 ∧ it_win 79 97 mi (rw k + 2) q = ii ab.2 ∧ it_win 122 126 mi 124 (3 * k + q) = ii ab.1 ∧ it_win 122 126 mi 125 (3 * k + q) = ii ab.2 := by
      intro q
      by_cases hq : q < 3
      · obtain ⟨a, b, h1, h2, h3, h4, h5, h6, h7⟩ := hm q hq
        exact ⟨(a, b), fun _ => ⟨h1, h2, h3, h4, h5, h6, h7⟩⟩
      · exact ⟨(0, 0), fun h => absurd h hq⟩
    obtain ⟨AB, hAB⟩ := Classical.axiomOfChoice hm'
    rw [win_at (by omega) (by omega)] at m2 m3 m4 m5
    rw [ep]
    refine dlC (d := 23) (A := fun q => (AB q).1) (B := fun q => (AB q).2) i3.2.2.2 i6 hN hG i9 i11 hn hk s1 hR (by omega) hf ht hft m2 m3 (fun q hq => ?_) (fun q hq => ⟨(hAB q hq).1, (hAB q hq).2.1, (hAB q hq).2.2.1⟩) (fun ma f1 f2 f3 f4 f5 f6 => ?_)
    · obtain ⟨-, -, -, h4, h5, -⟩ := hAB q hq
      rw [win_at (by omega) (by omega)] at h4 h5
      exact ⟨h4, h5⟩
    have fa : ∀ a, 99 ≤ a → ma a = mi a := fun a ha => f1 a (by omega) (by omega)
    simp only [↓reduceIte, true_and, and_true, vok_int, vok_b0, vok_b1, vok_bb, r_backI, r_backV, bb_eq0, Nat.reduceAdd, Nat.reduceMul, Nat.reduceEqDiff, not_true_eq_false, not_false_eq_true, if_true, if_false, false_and, and_false, c17, c98, w0_494, w0_495, w0_496, w0_498, w0_499, w0_500, w0_501, isa_0, ln_0, cv_0, isk_8, cv_8_0, cv_8_1, cv_8_2, cv_8_3, cv_8_4, cv_8_5, cv_8_6, cv_8_7, cv_8_8, isk_99, cv_99_0, cv_99_1, cv_99_2, cv_99_3, cv_99_4, cv_99_5, cv_99_6, cv_99_7, cv_99_8, cv_99_9, cv_99_10, cv_99_11, cv_99_12, cv_99_13, cv_99_14, cv_99_15, cv_99_16, cv_99_17, cv_99_18, cv_99_19, cv_99_20, cv_99_21, cv_99_22, cv_99_23, cv_99_24, cv_99_25, cv_99_26, cv_99_27, cv_99_28, cv_99_29, cv_99_30, cv_99_31, cv_99_32, cv_99_33, cv_99_34, cv_99_35, cv_99_36, cv_99_37, cv_99_38, cv_99_39, cv_99_40, cv_99_41, cv_99_42, cv_99_43, cv_99_44, cv_99_45, cv_99_46, e1, hb, hc, ep]
    have c0 := hN.1 0 (by decide)
    have c1 := hN.1 1 (by decide)
    have c2 := hN.1 2 (by decide)
    have htm := hN.2.2.2.2.1 t ht
    have hBc : ∀ q, q < 3 → (AB q).2 ≤ cnt q := fun q hq => Nat.le_trans (hAB q hq).2.1 (hN.2.1 f q hf hq)
    refine c110 (d := 28) (n := n) (f := f) (t := t) (kn := kn) (vw := vw) (tm := tm) (sp := sp) (A := fun q => (AB q).1) (B := fun q => (AB q).2) hn hk (by rw [fa 99 (by omega)]; exact s2) hf ht (by rw [fa 122 (by omega)]; exact m4) (by rw [fa 123 (by omega)]; exact m5) (fun q hq => ?_) (fun q hq => ?_) (fun q hq => ?_) ?_ (by omega) (fun q j hq hj => ?_) (fun q i j hq hi hj => ?_) (fun mb g1 g2 g3 g4 g5 g6 => ?_)
    · obtain ⟨h1, -, -, -, -, h6, h7⟩ := hAB q hq
      rw [win_at (by omega) (by omega)] at h6 h7
      rw [fa 124 (by omega), fa 125 (by omega)]
      exact ⟨h6, h7, h1, Nat.le_trans (hBc q hq) (hN.1 q hq)⟩
    · have h1 := (i9.1 t q ht hq).2
      rw [win_at (by omega) (by omega)] at h1
      rw [fa 119 (by omega)]
      exact ⟨h1, Nat.le_trans (hN.2.1 t q ht hq) (hN.1 q hq)⟩
    · have h1 := (i9.2.1 t f q ht hf hq).2
      rw [win_at (by omega) (by omega)] at h1
      rw [fa 120 (by omega)]
      exact ⟨h1, Nat.le_trans (hN.2.2.2.1 t f q ht hf hq).1 (Nat.le_trans (hN.2.1 t q ht hq) (hN.1 q hq))⟩
    · have h1 := (i9.2.2 t ht).2
      rw [win_at (by omega) (by omega)] at h1
      rw [fa 121 (by omega)]
      exact h1
    · have hjc : j < cnt q := Nat.lt_of_lt_of_le hj (hBc q hq)
      obtain ⟨-, h2, -, -, -, h6, -⟩ := hG.2.2 q j hq hjc
      have h7 := (hN.2.2.2.2.2.1 q j hq hjc).2
      rw [h6, win_at (by omega) (by omega)] at h2
      rw [fa 115 (by omega)]
      exact ⟨h2, by omega⟩
    · exact hN.2.2.2.2.2.2.1 q i j hq hi (Nat.lt_of_lt_of_le hj (hBc q hq))
    simp only [↓reduceIte, true_and, and_true, vok_int, vok_b0, vok_b1, vok_bb, r_backI, r_backV, bb_eq0, Nat.reduceAdd, Nat.reduceMul, Nat.reduceEqDiff, not_true_eq_false, not_false_eq_true, if_true, if_false, false_and, and_false, c17, c98, w0_504]
    refine hK _ _ _ _ _ _ _ ?_ (by omega) (by omega)
    have hmb : ∀ a, a ≠ 99 → a ≠ 119 → a ≠ 120 → a ≠ 121 → mb a = ma a := fun a h9 h1 h2 h3 => by rw [g1 a h1 h2 h3, it_up_f _ _ _ h9]
    have hmf : ∀ a, a ≠ 99 → a ≠ 119 → a ≠ 120 → a ≠ 121 → a < 122 ∨ 126 ≤ a → sh (it_up mb 99 33 (ii (n - 1))) k (n - 1) a = ma a := fun a h9 h1 h2 h3 h4 => by rw [sh_f h4, it_up_f _ _ _ h9, hmb a h9 h1 h2 h3]
    have hF : ∀ a, a ≠ 99 → a ≠ 119 → a ≠ 120 → a ≠ 121 → a < 122 ∨ 126 ≤ a → a ≠ 77 → ¬ (35 + 14 * t ≤ a ∧ a ≤ 48 + 14 * t) → sh (it_up mb 99 33 (ii (n - 1))) k (n - 1) a = mi a := fun a h9 h1 h2 h3 h4 h5 h6 => by rw [hmf a h9 h1 h2 h3 h4, f1 a h5 h6]
    have h99 : ∀ j, j ≠ 0 → j ≠ 33 → sh (it_up mb 99 33 (ii (n - 1))) k (n - 1) 99 j = mi 99 j := fun j h0 h3 => by rw [sh_f (by omega), it_up_s, if_neg h3, g1 99 (by decide) (by decide) (by decide), it_up_s, if_neg h0, fa 99 (by omega)]
    have m119 : ∀ j, sh (it_up mb 99 33 (ii (n - 1))) k (n - 1) 119 j = mb 119 j := fun j => by rw [sh_f (by omega), it_up_f _ _ _ (by decide)]
    have m120 : ∀ j, sh (it_up mb 99 33 (ii (n - 1))) k (n - 1) 120 j = mb 120 j := fun j => by rw [sh_f (by omega), it_up_f _ _ _ (by decide)]
    have m121 : ∀ j, sh (it_up mb 99 33 (ii (n - 1))) k (n - 1) 121 j = mb 121 j := fun j => by rw [sh_f (by omega), it_up_f _ _ _ (by decide)]
    have hS := pst_sh (mi := it_up mb 99 33 (ii (n - 1))) (m := it_win 79 97 mi) hk hn (by
      rw [win_out (by omega), win_cg (lo := 122) (hi := 126) (m' := mb) (m := mi) (fun a h1 h2 => by rw [hmb a (by omega) (by omega) (by omega) (by omega), fa a (by omega)])]
      exact hP)
    unfold it_Inv
    rw [win_cg (lo := 25) (hi := 27) (m := mi) (fun a h1 h2 => hF a (by omega) (by omega) (by omega) (by omega) (by omega) (by omega) (by omega)), win_cg (lo := 111) (hi := 113) (m := mi) (fun a h1 h2 => hF a (by omega) (by omega) (by omega) (by omega) (by omega) (by omega) (by omega)), win_cg (lo := 17) (hi := 25) (m := mi) (fun a h1 h2 => hF a (by omega) (by omega) (by omega) (by omega) (by omega) (by omega) (by omega)), win_cg (lo := 107) (hi := 111) (m := mi) (fun a h1 h2 => hF a (by omega) (by omega) (by omega) (by omega) (by omega) (by omega) (by omega)), win_cg (lo := 27) (hi := 34) (m := mi) (fun a h1 h2 => hF a (by omega) (by omega) (by omega) (by omega) (by omega) (by omega) (by omega)), win_cg (lo := 113) (hi := 119) (m := mi) (fun a h1 h2 => hF a (by omega) (by omega) (by omega) (by omega) (by omega) (by omega) (by omega)), win_cg (lo := 79) (hi := 97) (m := mi) (fun a h1 h2 => hF a (by omega) (by omega) (by omega) (by omega) (by omega) (by omega) (by omega))]
    have hF' : ∀ a, (a < 35 ∨ a = 97 ∨ a = 98 ∨ a = 100 ∨ a = 101 ∨ a = 133) → sh (it_up mb 99 33 (ii (n - 1))) k (n - 1) a = mi a := fun a ha => hF a (by omega) (by omega) (by omega) (by omega) (by omega) (by omega) (by omega)
    rw [hF' 8 (by omega), hF' 9 (by omega), hF' 10 (by omega), hF' 11 (by omega), hF' 12 (by omega), hF' 17 (by omega), hF' 27 (by omega), hF' 97 (by omega), hF' 98 (by omega), hF' 100 (by omega), hF' 101 (by omega), hF' 133 (by omega), h99 1 (by decide) (by decide), h99 3 (by decide) (by decide), h99 10 (by decide) (by decide), h99 15 (by decide) (by decide), h99 16 (by decide) (by decide), h99 20 (by decide) (by decide), h99 45 (by decide) (by decide)]
    refine ⟨i1, i2, i3, i4, i5, i6, cnt, kn2 kn t (fun q => (AB q).2), vw2 vw t f (fun q => (AB q).2), fun p => if p = t then tm3 tm sp t (fun q => (AB q).1) (fun q => (AB q).2) else tm p, sp, num_deliver hN ht hf hft (fun q hq => ⟨(hAB q hq).1, (hAB q hq).2.1, (hAB q hq).2.2.1⟩), hG, ⟨fun p q hp hq => ?_, fun p r q hp hr hq => ?_, fun p hp => ?_⟩, ?_, fun p hp => ?_⟩
    · rw [win_at (by omega) (by omega), win_at (by omega) (by omega), m119]
      by_cases hpt : p = t
      · subst hpt
        rw [kn2_t hq, hmf _ (by omega) (by omega) (by omega) (by omega) (by omega)]
        exact ⟨(f3 q hq).1, (g2 q hq).1⟩
      · rw [kn2_n hpt, hF _ (by omega) (by omega) (by omega) (by omega) (by omega) (by omega) (by omega), g3 _ (by omega), fa 119 (by omega)]
        have := i9.1 p q hp hq
        rw [win_at (by omega) (by omega), win_at (by omega) (by omega)] at this
        exact this
    · rw [win_at (by omega) (by omega), win_at (by omega) (by omega), m120]
      have h9 := i9.2.1 p r q hp hr hq
      rw [win_at (by omega) (by omega), win_at (by omega) (by omega)] at h9
      by_cases hpt : p = t
      · subst hpt
        by_cases hrf : r = f
        · subst hrf
          rw [show vw2 vw p r (fun q => (AB q).2) p r q = max (vw p r q) (AB q).2 from if_pos ⟨rfl, rfl, hq⟩, hmf _ (by omega) (by omega) (by omega) (by omega) (by omega)]
          exact ⟨(f3 q hq).2, (g2 q hq).2⟩
        · rw [show vw2 vw p f (fun q => (AB q).2) p r q = vw p r q from if_neg (fun h => hrf h.2.1), hmf _ (by omega) (by omega) (by omega) (by omega) (by omega), f4 r hr hrf, g4 _ (by omega), fa 120 (by omega)]
          exact h9
      · rw [show vw2 vw t f (fun q => (AB q).2) p r q = vw p r q from if_neg (fun h => hpt h.1), hF _ (by omega) (by omega) (by omega) (by omega) (by omega) (by omega) (by omega), g4 _ (by omega), fa 120 (by omega)]
        exact h9
    · rw [win_at (by omega) (by omega), win_at (by omega) (by omega), m121]
      simp only
      by_cases hpt : p = t
      · subst hpt
        rw [if_pos rfl, hmf _ (by omega) (by omega) (by omega) (by omega) (by omega)]
        exact ⟨f5, g5⟩
      · rw [if_neg hpt, hF _ (by omega) (by omega) (by omega) (by omega) (by omega) (by omega) (by omega), g6 _ hpt, fa 121 (by omega)]
        have := i9.2.2 p hp
        rw [win_at (by omega) (by omega), win_at (by omega) (by omega)] at this
        exact this
    · rw [hmf 77 (by omega) (by omega) (by omega) (by omega) (by omega), f2, sh_f (a := 99) (by omega), it_up_same]
      exact pst_kn hS (fun p q => kn2_ge)
    · by_cases hpt : p = t
      · subst hpt
        exact FR_fr f6 (fun a h1 h2 => by rw [win_at (by omega) (by omega), hmf _ (by omega) (by omega) (by omega) (by omega) (by omega)])
      · rw [kn2_n hpt]
        exact FR_fr (i11 p hp) (fun a h1 h2 => by rw [win_at (by omega) (by omega), win_at (by omega) (by omega), hF _ (by omega) (by omega) (by omega) (by omega) (by omega) (by omega) (by omega)])
  · have ha : ¬ (0 ≤ xs (i + 1) ∧ xs (i + 1) < mi 77 1) := by rw [s1]; exact h
    have hb' : ¬ (0 ≤ xs (i + 1) ∧ xs (i + 1) < mi 99 33) := by rw [s2]; exact h
    simp only [c16n ha, c110n hb', ↓reduceIte, true_and, and_true, vok_int, vok_b0, vok_b1, vok_bb, r_backI, r_backV, bb_eq0, Nat.reduceAdd, Nat.reduceMul, Nat.reduceEqDiff, not_true_eq_false, not_false_eq_true, if_true, if_false, false_and, and_false, c17, c98, w0_494, w0_495, w0_496, w0_498, w0_499, w0_500, w0_501, w0_504, isa_0, ln_0, cv_0, isk_8, cv_8_0, cv_8_1, cv_8_2, cv_8_3, cv_8_4, cv_8_5, cv_8_6, cv_8_7, cv_8_8, isk_99, cv_99_0, cv_99_1, cv_99_2, cv_99_3, cv_99_4, cv_99_5, cv_99_6, cv_99_7, cv_99_8, cv_99_9, cv_99_10, cv_99_11, cv_99_12, cv_99_13, cv_99_14, cv_99_15, cv_99_16, cv_99_17, cv_99_18, cv_99_19, cv_99_20, cv_99_21, cv_99_22, cv_99_23, cv_99_24, cv_99_25, cv_99_26, cv_99_27, cv_99_28, cv_99_29, cv_99_30, cv_99_31, cv_99_32, cv_99_33, cv_99_34, cv_99_35, cv_99_36, cv_99_37, cv_99_38, cv_99_39, cv_99_40, cv_99_41, cv_99_42, cv_99_43, cv_99_44, cv_99_45, cv_99_46, e1, hb, hc]
    exact hK _ _ _ _ _ _ _ (inv_code hI0) (by omega) (by omega)
end
