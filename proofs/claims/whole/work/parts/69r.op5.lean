/-! act, whole. -/
section
variable {d : Nat} {Q : im_O → im_M → Prop} {L : Nat} {xs : Nat → Int32} {mi : Nat → Nat → Int32} {rw : Nat → Nat} {o : Nat → Int64} {g z : Nat}
theorem c66A {a k u i v : Int32} {w : Value} (h : ¬ okA a k u i v) : iw (d + 3) 66 0 [.ref 8, .int a, .int k, .int u, .int i, .int v, .ref 134, w] [] (it_mem L xs mi rw o g z) Q ↔ Q (.inl (some (.int 1))) (it_mem L xs mi rw o (g + 1) (z + 6)) := by
  simp only [w66_0, w66_2, w66_3, w66_4, w66_5, w66_6, w66_7, w66_9, w66_11, w66_14, w66_15, w66_16, w66_19, w66_21, w66_22, w66_23, w66_25, w66_26, w66_27, w66_29, w66_30, w66_31, w66_32, isk_8, cv_8_0, cv_8_1, cv_8_2, cv_8_3, cv_8_4, cv_8_5, cv_8_6, cv_8_7, cv_8_8, ↓reduceIte, true_and, and_true, vok_int, vok_b0, vok_b1, vok_bb, r_backI, r_backV, bb_eq0, Nat.reduceAdd, Nat.reduceMul, Nat.reduceEqDiff, not_true_eq_false, not_false_eq_true, if_true, if_false, false_and, and_false, c17, c98, c67A h, r_backT (show im_hand 66 11 1 = some 19 from by decide +kernel)]
theorem c66B {p : Nat} {k u i v : Int32} {w : Value} (h : okA (ii p) k u i v) (hp : p < 3) (hn : ¬ 0 < mi 17 5 ∨ mi 33 p = 16) : iw (d + 3) 66 0 [.ref 8, .int (ii p), .int k, .int u, .int i, .int v, .ref 134, w] [] (it_mem L xs mi rw o g z) Q ↔ Q (.inl (some (.int 2))) (it_mem L xs mi rw o (g + 1) (z + 6)) := by
  simp only [w66_0, w66_2, w66_3, w66_4, w66_5, w66_6, w66_7, w66_9, w66_11, w66_14, w66_15, w66_16, w66_19, w66_21, w66_22, w66_23, w66_25, w66_26, w66_27, w66_29, w66_30, w66_31, w66_32, isk_8, cv_8_0, cv_8_1, cv_8_2, cv_8_3, cv_8_4, cv_8_5, cv_8_6, cv_8_7, cv_8_8, ↓reduceIte, true_and, and_true, vok_int, vok_b0, vok_b1, vok_bb, r_backI, r_backV, bb_eq0, Nat.reduceAdd, Nat.reduceMul, Nat.reduceEqDiff, not_true_eq_false, not_false_eq_true, if_true, if_false, false_and, and_false, c17, c98, c67B h hp hn, r_backT (show im_hand 66 11 0 = some 23 from by decide +kernel)]
end
section
variable {Q : im_O → im_M → Prop} {L : Nat} {xs : Nat → Int32} {mi : Nat → Nat → Int32} {rw : Nat → Nat} {o : Nat → Int64} {g z i : Nat} {l5 l6 : Value}
theorem op5 (hL : L ≤ 3072) (hi : i + 6 ≤ L) (hI : it_Inv mi rw) (hK : it_K L xs i g z Q) : iw 30 0 312 [.ref 0, .ref 8, .ref 99, .ref 134, .int (ii i), l5, l6] [] (it_mem L xs mi rw o g z) Q := by
  have hI0 := hI
  obtain ⟨i1, i2, i3, i4, i5, i6, cnt, kn, vw, tm, sp, hN, hG, i9, i10, i11⟩ := hI
  have hb := sc_in (k := 1) hL hi (by decide)
  have hc := sc_cl (k := 1) hL hi (by decide)
  have hb2 := sc_in (k := 2) hL hi (by decide)
  have hc2 := sc_cl (k := 2) hL hi (by decide)
  have hb3 := sc_in (k := 3) hL hi (by decide)
  have hc3 := sc_cl (k := 3) hL hi (by decide)
  have hb4 := sc_in (k := 4) hL hi (by decide)
  have hc4 := sc_cl (k := 4) hL hi (by decide)
  have hb5 := sc_in (k := 5) hL hi (by decide)
  have hc5 := sc_cl (k := 5) hL hi (by decide)
  have e1 : ii i + 1 = ii (i + 1) := ii_add (b := 1)
  have e2 : ii i + 2 = ii (i + 2) := ii_add (b := 2)
  have e3 : ii i + 3 = ii (i + 3) := ii_add (b := 3)
  have e4 : ii i + 4 = ii (i + 4) := ii_add (b := 4)
  have e5 : ii i + 5 = ii (i + 5) := ii_add (b := 5)
  have x1 : ¬ (1 : Int32) = 0 := by decide
  have x2 : ¬ (2 : Int32) = 0 := by decide
  have x3 : ¬ (3 : Int32) = 0 := by decide
  have b0 : it_inb L 134 0 := ii_inb (n := 0) (by decide) (by rw [ln_134]; decide)
  simp only [w0_312, w0_313, w0_314, w0_316, w0_317, w0_318, w0_319, w0_320, w0_322, w0_323, w0_324, w0_325, w0_326, w0_328, w0_329, w0_330, w0_331, w0_332, w0_334, w0_335, w0_336, w0_337, w0_338, w0_340, w0_341, w0_342, w0_343, w0_344, isa_0, ln_0, cv_0, isk_8, cv_8_0, cv_8_1, cv_8_2, cv_8_3, cv_8_4, cv_8_5, cv_8_6, cv_8_7, cv_8_8, isk_99, cv_99_0, cv_99_1, cv_99_2, cv_99_3, cv_99_4, cv_99_5, cv_99_6, cv_99_7, cv_99_8, cv_99_9, cv_99_10, cv_99_11, cv_99_12, cv_99_13, cv_99_14, cv_99_15, cv_99_16, cv_99_17, cv_99_18, cv_99_19, cv_99_20, cv_99_21, cv_99_22, cv_99_23, cv_99_24, cv_99_25, cv_99_26, cv_99_27, cv_99_28, cv_99_29, cv_99_30, cv_99_31, cv_99_32, cv_99_33, cv_99_34, cv_99_35, cv_99_36, cv_99_37, cv_99_38, cv_99_39, cv_99_40, cv_99_41, cv_99_42, cv_99_43, cv_99_44, cv_99_45, cv_99_46, ↓reduceIte, true_and, and_true, vok_int, vok_b0, vok_b1, vok_bb, r_backI, r_backV, bb_eq0, Nat.reduceAdd, Nat.reduceMul, Nat.reduceEqDiff, not_true_eq_false, not_false_eq_true, if_true, if_false, false_and, and_false, c17, c98, e1, e2, e3, e4, e5, hb, hc, hb2, hc2, hb3, hc3, hb4, hc4, hb5, hc5]
  by_cases h : okA (xs (i + 1)) (xs (i + 2)) (xs (i + 3)) (xs (i + 4)) (xs (i + 5))
  · obtain ⟨p, hp, ep⟩ := below (b := 3) rfl (by decide) h.1
    obtain ⟨κ, hκ, ek⟩ := below (b := 4) rfl (by decide) h.2.2.1.1
    obtain ⟨u, hu, eu⟩ := below (b := 4) rfl (by decide) h.2.1
    have k33 := (hG.1 p hp).1
    have k113 := (hG.1 p hp).2
    have k6 := hG.2.1
    rw [win_at (by omega) (by omega)] at k33 k113 k6
    have hc16 := hN.1 p hp
    rw [ep, ek, eu] at h
    have hbad : (¬ 0 < mi 17 5 ∨ mi 33 p = 16) → (mi 99 15 = 0 ∨ (mi 99 15 = 1 ∧ mi 113 p = 16)) := by
      intro hh
      rcases i6 with ⟨w1, -, w3⟩ | ⟨k, S, T, w0, w1, w2, w3, w4, -⟩
      · exact Or.inl w3
      · refine Or.inr ⟨w4, ?_⟩
        rw [win_at (by omega) (by omega)] at w2
        rcases hh with hh | hh
        · exact absurd (by rw [w2]; exact (ii_lt (a := 0) (by decide) (by omega)).mpr (by omega)) hh
        · rw [k113, ← k33]; exact hh
    by_cases hn : ¬ 0 < mi 17 5 ∨ mi 33 p = 16
    · simp only [ep, ek, eu, c66B h hp hn, c100B h hp (hbad hn), c82, ↓reduceIte, true_and, and_true, vok_int, vok_b0, vok_b1, vok_bb, r_backI, r_backV, bb_eq0, Nat.reduceAdd, Nat.reduceMul, Nat.reduceEqDiff, not_true_eq_false, not_false_eq_true, if_true, if_false, false_and, and_false, c17, c98, w0_347, w0_349, w0_350, w0_351, w0_353, w0_354, w0_355, w0_356, w0_357, w0_359, w0_360, w0_361, w0_362, w0_363, w0_365, w0_366, w0_367, w0_368, w0_369, w0_371, w0_372, w0_373, w0_374, w0_375, w0_377, w0_378, w0_379, w0_380, w0_383, w0_385, w0_386, w0_389, w0_391, w0_394, w0_395, w0_396, w0_398, w0_401, w0_402, w0_403, w0_404, w0_406, w0_407, w0_408, w0_411, w0_412, w0_413, isa_0, ln_0, cv_0, isk_8, cv_8_0, cv_8_1, cv_8_2, cv_8_3, cv_8_4, cv_8_5, cv_8_6, cv_8_7, cv_8_8, isk_99, cv_99_0, cv_99_1, cv_99_2, cv_99_3, cv_99_4, cv_99_5, cv_99_6, cv_99_7, cv_99_8, cv_99_9, cv_99_10, cv_99_11, cv_99_12, cv_99_13, cv_99_14, cv_99_15, cv_99_16, cv_99_17, cv_99_18, cv_99_19, cv_99_20, cv_99_21, cv_99_22, cv_99_23, cv_99_24, cv_99_25, cv_99_26, cv_99_27, cv_99_28, cv_99_29, cv_99_30, cv_99_31, cv_99_32, cv_99_33, cv_99_34, cv_99_35, cv_99_36, cv_99_37, cv_99_38, cv_99_39, cv_99_40, cv_99_41, cv_99_42, cv_99_43, cv_99_44, cv_99_45, cv_99_46, e1, e2, e3, e4, e5, hb, hc, hb2, hc2, hb3, hc3, hb4, hc4, hb5, hc5, it_up_s, x2]
      exact hK _ _ _ _ _ _ _ (inv_code (inv_code hI0)) (by omega) (by omega)
    · have hthere : 0 < mi 17 5 := Classical.byContradiction fun q => hn (Or.inl q)
      have hthere0 : ¬ mi 17 5 = 0 := fun q => by rw [q] at hthere; exact absurd hthere (by decide)
      have hcp : cnt p < 16 := by
        have : cnt p ≠ 16 := fun q => hn (Or.inr (by rw [k33, q]; rfl))
        omega
      have hcomp : mi 99 15 = 1 := by
        rcases i6 with ⟨w1, -, w3⟩ | ⟨k, S, T, w0, w1, w2, w3, w4, -⟩
        · rw [win_at (by omega) (by omega)] at w1
          exact absurd w1 hthere0
        · exact w4
      obtain ⟨j, hj, hj48, hj0⟩ : ∃ j, (if κ = 0 then j = 16 * p + cnt p else xs (i + 4) = ii j) ∧ j < 48 ∧ (κ = 0 → j = 16 * p + cnt p) := by
        by_cases hk : κ = 0
        · exact ⟨16 * p + cnt p, by rw [if_pos hk], by omega, fun _ => rfl⟩
        · have hz : ¬ ii κ = 0 := fun q => hk ((ii_inj (b := 0) (by omega) (by decide)).mp q)
          obtain ⟨j, hj, ej⟩ := below (b := 48) rfl (by decide) (h.2.2.2.resolve_left hz)
          exact ⟨j, by rw [if_neg hk]; exact ej, hj, fun q => absurd q hk⟩
      have kt := (i9.2.2 p hp).1
      have kt' := (i9.2.2 p hp).2
      have kk := (i9.1 p p hp hp).1
      have kk' := (i9.1 p p hp hp).2
      rw [win_at (by omega) (by omega)] at kt kt' kk kk'
      rw [hN.2.2.1 p hp] at kk kk'
      rw [show 3 * p + p = 4 * p by omega] at kk'
      obtain ⟨k', hA⟩ := law_C i6 hthere0
      obtain ⟨hM1, hM2⟩ := law_M i5 i6 hthere0
      obtain ⟨dn1, dn2, dn3, dn4, dn5⟩ := drf_n (mi := mi) (e := 16 * p + cnt p) (t := tm p + 1) (κ := κ) (u := u) (j := j) (v := xs (i + 5))
      have hE : (EC (drf mi (16 * p + cnt p) (tm p + 1) κ u j (xs (i + 5)))).1 (16 * p + cnt p) = κ ∧ (EC (drf mi (16 * p + cnt p) (tm p + 1) κ u j (xs (i + 5)))).2.1 (16 * p + cnt p) = u ∧ (EC (drf mi (16 * p + cnt p) (tm p + 1) κ u j (xs (i + 5)))).2.2.1 (16 * p + cnt p) = j ∧ (EC (drf mi (16 * p + cnt p) (tm p + 1) κ u j (xs (i + 5)))).2.2.2 (16 * p + cnt p) = xs (i + 5) := by
        refine ⟨?_, ?_, ?_, dn5⟩
        · show (drf mi (16 * p + cnt p) (tm p + 1) κ u j (xs (i + 5)) 28 (16 * p + cnt p)).toNatClampNeg = κ
          rw [dn1]; exact ii_clamp (by omega)
        · show (drf mi (16 * p + cnt p) (tm p + 1) κ u j (xs (i + 5)) 30 (16 * p + cnt p)).toNatClampNeg = u
          rw [dn3]; exact ii_clamp (by omega)
        · show (drf mi (16 * p + cnt p) (tm p + 1) κ u j (xs (i + 5)) 31 (16 * p + cnt p)).toNatClampNeg = j
          rw [dn4]; exact ii_clamp (by omega)
      simp only [ep, ek, eu, w66_0, w66_2, w66_3, w66_4, w66_5, w66_6, w66_7, w66_9, w66_11, isk_8, cv_8_0, cv_8_1, cv_8_2, cv_8_3, cv_8_4, cv_8_5, cv_8_6, cv_8_7, cv_8_8, ↓reduceIte, true_and, and_true, vok_int, vok_b0, vok_b1, vok_bb, r_backI, r_backV, bb_eq0, Nat.reduceAdd, Nat.reduceMul, Nat.reduceEqDiff, not_true_eq_false, not_false_eq_true, if_true, if_false, false_and, and_false, c17, c98]
      refine c67C (d := 23) (n := cnt 0 + cnt 1 + cnt 2) (k' := k') (S := it_fold (kn p) sp (it_win 27 34 mi) (it_win 17 25 mi) (it_win 25 27 mi)) (A := AC (it_win 17 25 mi) (it_win 25 27 mi)) (D := fun e => e ∈ ford (kn p) sp 48 (fun _ => 0)) h hp hκ hu hj hj48 hthere hcp k33 k6 kt kk hE hA (FR_fr (i11 p hp) (fun a h1 h2 => (win_at (by omega) (by omega)).symm)) (fun hsk ma f1 => ?_) (fun hsk ma f1 f33 f27 f35 f36 f38 fFR => ?_)
      · have fa : ∀ a, 99 ≤ a → ma a = mi a := fun a ha => by rw [f1 a (by omega), drf_f (by omega)]
        simp only [↓reduceIte, true_and, and_true, vok_int, vok_b0, vok_b1, vok_bb, r_backI, r_backV, bb_eq0, Nat.reduceAdd, Nat.reduceMul, Nat.reduceEqDiff, not_true_eq_false, not_false_eq_true, if_true, if_false, false_and, and_false, c17, c98, r_backT (show im_hand 66 11 2 = some 27 from by decide +kernel), w66_27, w66_29, w66_30, w0_347, w0_349, w0_350, w0_351, w0_353, w0_354, w0_355, w0_356, w0_357, w0_359, w0_360, w0_361, w0_362, w0_363, w0_365, w0_366, w0_367, w0_368, w0_369, w0_371, w0_372, w0_373, w0_374, w0_375, w0_377, w0_378, w0_379, w0_380, isa_0, ln_0, cv_0, isk_8, cv_8_0, cv_8_1, cv_8_2, cv_8_3, cv_8_4, cv_8_5, cv_8_6, cv_8_7, cv_8_8, isk_99, cv_99_0, cv_99_1, cv_99_2, cv_99_3, cv_99_4, cv_99_5, cv_99_6, cv_99_7, cv_99_8, cv_99_9, cv_99_10, cv_99_11, cv_99_12, cv_99_13, cv_99_14, cv_99_15, cv_99_16, cv_99_17, cv_99_18, cv_99_19, cv_99_20, cv_99_21, cv_99_22, cv_99_23, cv_99_24, cv_99_25, cv_99_26, cv_99_27, cv_99_28, cv_99_29, cv_99_30, cv_99_31, cv_99_32, cv_99_33, cv_99_34, cv_99_35, cv_99_36, cv_99_37, cv_99_38, cv_99_39, cv_99_40, cv_99_41, cv_99_42, cv_99_43, cv_99_44, cv_99_45, cv_99_46, e1, e2, e3, e4, e5, hb, hc, hb2, hc2, hb3, hc3, hb4, hc4, hb5, hc5, ep, ek, eu]
        refine c100C (d := 24) (t := tm p) (S := it_fold (kn p) sp (it_win 27 34 mi) (it_win 17 25 mi) (it_win 25 27 mi)) (E := EC (drf mi (16 * p + cnt p) (tm p + 1) κ u j (xs (i + 5)))) (A := AC (it_win 17 25 mi) (it_win 25 27 mi)) (D := fun e => e ∈ ford (kn p) sp 48 (fun _ => 0)) (W := it_W (it_win 17 25 mi) (it_win 25 27 mi)) h hp hκ hu hj hj48 (by rw [fa 99 (by omega)]; exact hcomp) hcp (by rw [fa 113 (by omega)]; exact k113) (by rw [fa 121 (by omega)]; exact kt') (by rw [fa 119 (by omega)]; exact kk') hE h105_W (fun m q1 q2 q3 => ⟨lwM_cong hM1 (fun a r1 r2 => (q1 a r1 r2).trans (fa a (by omega))), W_fr hM2 (fun a r1 r2 => (q1 a r1 (by omega)).trans (fa a (by omega))) (by rw [q2, fa 99 (by omega)]) (by rw [q3, fa 99 (by omega)])⟩) (fun Q' hQ' => rf (d := 22) i3.2.2.2 i5 i6 hN hG i9 hp (fun a ha => by rw [it_up_f _ _ _ (by omega), fa a (by omega)]) (by rw [it_up_s, if_neg (by decide), fa 99 (by omega)]) (by rw [it_up_s, if_neg (by decide), fa 99 (by omega)]) hQ') (fun _ mb g1 g9 g0 => ?_) (fun hns => absurd hsk hns)
        simp only [↓reduceIte, true_and, and_true, vok_int, vok_b0, vok_b1, vok_bb, r_backI, r_backV, bb_eq0, Nat.reduceAdd, Nat.reduceMul, Nat.reduceEqDiff, not_true_eq_false, not_false_eq_true, if_true, if_false, false_and, and_false, c17, c98, w0_383, w0_385, w0_386, w0_389, w0_391, w0_394, w0_395, w0_396, w0_398, w0_401, w0_402, w0_403, w0_404, w0_406, w0_407, w0_408, w0_411, w0_412, w0_413, isa_0, ln_0, cv_0, isk_8, cv_8_0, cv_8_1, cv_8_2, cv_8_3, cv_8_4, cv_8_5, cv_8_6, cv_8_7, cv_8_8, isk_99, cv_99_0, cv_99_1, cv_99_2, cv_99_3, cv_99_4, cv_99_5, cv_99_6, cv_99_7, cv_99_8, cv_99_9, cv_99_10, cv_99_11, cv_99_12, cv_99_13, cv_99_14, cv_99_15, cv_99_16, cv_99_17, cv_99_18, cv_99_19, cv_99_20, cv_99_21, cv_99_22, cv_99_23, cv_99_24, cv_99_25, cv_99_26, cv_99_27, cv_99_28, cv_99_29, cv_99_30, cv_99_31, cv_99_32, cv_99_33, cv_99_34, cv_99_35, cv_99_36, cv_99_37, cv_99_38, cv_99_39, cv_99_40, cv_99_41, cv_99_42, cv_99_43, cv_99_44, cv_99_45, cv_99_46, c82, g0, x3]
        refine hK _ _ _ _ _ _ _ (inv_C1 (p := p) i1 i2 i3 i4 i5 i6 hN hG i9 i10 i11 hp hcp (fun a ha => ?_) (fun k hk => ?_) (fun a b h1 h2 h3 => ?_)) (by omega) (by omega)
        · rcases ha with ha | ha
          · rw [g1 a (by omega), f1 a (by omega), drf_f (by omega)]
          · rw [g1 a (by omega), fa a (by omega)]
        · rw [g9 k hk, fa 99 (by omega)]
        · rw [g1 a (by omega), f1 a (by omega), drf_o h3]
      · have fa : ∀ a, 99 ≤ a → ma a = mi a := fun a ha => by rw [f1 a (by omega) (by omega) (by omega), drf_f (by omega)]
        simp only [↓reduceIte, true_and, and_true, vok_int, vok_b0, vok_b1, vok_bb, r_backI, r_backV, bb_eq0, Nat.reduceAdd, Nat.reduceMul, Nat.reduceEqDiff, not_true_eq_false, not_false_eq_true, if_true, if_false, false_and, and_false, c17, c98, w66_14, w66_15, w66_16, w66_19, w66_21, w66_22, w66_23, w66_25, w66_26, w66_27, w66_29, w66_30, w66_31, w66_32, w0_347, w0_349, w0_350, w0_351, w0_353, w0_354, w0_355, w0_356, w0_357, w0_359, w0_360, w0_361, w0_362, w0_363, w0_365, w0_366, w0_367, w0_368, w0_369, w0_371, w0_372, w0_373, w0_374, w0_375, w0_377, w0_378, w0_379, w0_380, isa_0, ln_0, cv_0, isk_8, cv_8_0, cv_8_1, cv_8_2, cv_8_3, cv_8_4, cv_8_5, cv_8_6, cv_8_7, cv_8_8, isk_99, cv_99_0, cv_99_1, cv_99_2, cv_99_3, cv_99_4, cv_99_5, cv_99_6, cv_99_7, cv_99_8, cv_99_9, cv_99_10, cv_99_11, cv_99_12, cv_99_13, cv_99_14, cv_99_15, cv_99_16, cv_99_17, cv_99_18, cv_99_19, cv_99_20, cv_99_21, cv_99_22, cv_99_23, cv_99_24, cv_99_25, cv_99_26, cv_99_27, cv_99_28, cv_99_29, cv_99_30, cv_99_31, cv_99_32, cv_99_33, cv_99_34, cv_99_35, cv_99_36, cv_99_37, cv_99_38, cv_99_39, cv_99_40, cv_99_41, cv_99_42, cv_99_43, cv_99_44, cv_99_45, cv_99_46, isa_134, ln_134, cv_134, e1, e2, e3, e4, e5, hb, hc, hb2, hc2, hb3, hc3, hb4, hc4, hb5, hc5, ep, ek, eu, b0, k0]
        refine c100C (d := 24) (t := tm p) (S := it_fold (kn p) sp (it_win 27 34 mi) (it_win 17 25 mi) (it_win 25 27 mi)) (E := EC (drf mi (16 * p + cnt p) (tm p + 1) κ u j (xs (i + 5)))) (A := AC (it_win 17 25 mi) (it_win 25 27 mi)) (D := fun e => e ∈ ford (kn p) sp 48 (fun _ => 0)) (W := it_W (it_win 17 25 mi) (it_win 25 27 mi)) h hp hκ hu hj hj48 (by rw [fa 99 (by omega)]; exact hcomp) hcp (by rw [fa 113 (by omega)]; exact k113) (by rw [fa 121 (by omega)]; exact kt') (by rw [fa 119 (by omega)]; exact kk') hE h105_W (fun m q1 q2 q3 => ⟨lwM_cong hM1 (fun a r1 r2 => (q1 a r1 r2).trans (fa a (by omega))), W_fr hM2 (fun a r1 r2 => (q1 a r1 (by omega)).trans (fa a (by omega))) (by rw [q2, fa 99 (by omega)]) (by rw [q3, fa 99 (by omega)])⟩) (fun Q' hQ' => rf (d := 22) i3.2.2.2 i5 i6 hN hG i9 hp (fun a ha => by rw [it_up_f _ _ _ (by omega), fa a (by omega)]) (by rw [it_up_s, if_neg (by decide), fa 99 (by omega)]) (by rw [it_up_s, if_neg (by decide), fa 99 (by omega)]) hQ') (fun hs => absurd hs hsk) (fun _ mb g1 g9 g0 g113 g114 g115 g116 g117 g118 g119 g121 => ?_)
        simp only [↓reduceIte, true_and, and_true, vok_int, vok_b0, vok_b1, vok_bb, r_backI, r_backV, bb_eq0, Nat.reduceAdd, Nat.reduceMul, Nat.reduceEqDiff, not_true_eq_false, not_false_eq_true, if_true, if_false, false_and, and_false, c17, c98, w0_383, w0_385, w0_386, w0_389, w0_391, w0_394, w0_395, w0_396, w0_398, w0_401, w0_402, w0_403, w0_404, w0_406, w0_407, w0_408, w0_411, w0_412, w0_413, isa_0, ln_0, cv_0, isk_8, cv_8_0, cv_8_1, cv_8_2, cv_8_3, cv_8_4, cv_8_5, cv_8_6, cv_8_7, cv_8_8, isk_99, cv_99_0, cv_99_1, cv_99_2, cv_99_3, cv_99_4, cv_99_5, cv_99_6, cv_99_7, cv_99_8, cv_99_9, cv_99_10, cv_99_11, cv_99_12, cv_99_13, cv_99_14, cv_99_15, cv_99_16, cv_99_17, cv_99_18, cv_99_19, cv_99_20, cv_99_21, cv_99_22, cv_99_23, cv_99_24, cv_99_25, cv_99_26, cv_99_27, cv_99_28, cv_99_29, cv_99_30, cv_99_31, cv_99_32, cv_99_33, cv_99_34, cv_99_35, cv_99_36, cv_99_37, cv_99_38, cv_99_39, cv_99_40, cv_99_41, cv_99_42, cv_99_43, cv_99_44, cv_99_45, cv_99_46, isa_134, ln_134, cv_134, c82, g0, b0, k0, va_up_self, lg_self]
        have fd : ∀ a b, 28 ≤ a → a ≤ 32 → mb a b = drf mi (16 * p + cnt p) (tm p + 1) κ u j (xs (i + 5)) a b := fun a b h1 h2 => by rw [g1 a (by omega), f1 a (by omega) (by omega) (by omega)]
        have fd' : ∀ a b x, 28 ≤ a → a ≤ 32 → drf mi (16 * p + cnt p) (tm p + 1) κ u j (xs (i + 5)) a (16 * p + cnt p) = x → mb a b = if b = 16 * p + cnt p then x else mi a b := fun a b x h1 h2 h3 => by
          rw [fd a b h1 h2]
          by_cases e : b = 16 * p + cnt p
          · rw [if_pos e, e, h3]
          · rw [if_neg e, drf_o e]
        refine hK _ _ _ _ _ _ _ (inv_C2 (p := p) (κ := κ) (u := u) (j := j) (v := xs (i + 5)) (E := EC (drf mi (16 * p + cnt p) (tm p + 1) κ u j (xs (i + 5)))) (t := 0) i1 i2 i3 hthere0 i4 i5 i6 hN hG i9 i10 i11 hp hcp hκ hu hj48 hj0 (fun a ha => ?_) (fun k hk => ?_) (fun b => ?_) ?_ (fun b => fd' 28 b _ (by omega) (by omega) dn1) (fun b => fd' 29 b _ (by omega) (by omega) dn2) (fun b => fd' 30 b _ (by omega) (by omega) dn3) (fun b => fd' 31 b _ (by omega) (by omega) dn4) (fun b => fd' 32 b _ (by omega) (by omega) dn5) ?_ (fun b => ?_) (fun r hr => ?_) (fun b => ?_) (fun b => ?_) (fun b => ?_) (fun b => ?_) (fun b => ?_) (fun b => ?_) (fun b => ?_) (fun b => ?_) hE ?_) (by omega) (by omega)
        · rcases ha with ha | ha
          · rw [g1 a (by omega), f1 a (by omega) (by omega) (by omega), drf_f (by omega)]
          · rw [g1 a (by omega), fa a (by omega)]
        · rw [g9 k hk, fa 99 (by omega)]
        · rw [g1 33 (by omega), f33]
        · rw [g1 27 (by omega), f27]
        · rw [g1 _ (by omega), f35]
        · rw [g1 _ (by omega), f36]
        · rw [g1 _ (by omega), f38 r hr]
        · rw [g113, fa 113 (by omega)]
        · rw [g114, fa 114 (by omega)]
        · rw [g115, fa 115 (by omega)]
        · rw [g116, fa 116 (by omega)]
        · rw [g117, fa 117 (by omega)]
        · rw [g118, fa 118 (by omega)]
        · rw [g119, fa 119 (by omega)]
        · rw [g121, fa 121 (by omega)]
        · exact FR_fr fFR (fun a h1 h2 => g1 a (by omega))
  · simp only [c66A h, c100A h, c82, ↓reduceIte, true_and, and_true, vok_int, vok_b0, vok_b1, vok_bb, r_backI, r_backV, bb_eq0, Nat.reduceAdd, Nat.reduceMul, Nat.reduceEqDiff, not_true_eq_false, not_false_eq_true, if_true, if_false, false_and, and_false, c17, c98, w0_347, w0_349, w0_350, w0_351, w0_353, w0_354, w0_355, w0_356, w0_357, w0_359, w0_360, w0_361, w0_362, w0_363, w0_365, w0_366, w0_367, w0_368, w0_369, w0_371, w0_372, w0_373, w0_374, w0_375, w0_377, w0_378, w0_379, w0_380, w0_383, w0_385, w0_386, w0_389, w0_391, w0_394, w0_395, w0_396, w0_398, w0_401, w0_402, w0_403, w0_404, w0_406, w0_407, w0_408, w0_411, w0_412, w0_413, isa_0, ln_0, cv_0, isk_8, cv_8_0, cv_8_1, cv_8_2, cv_8_3, cv_8_4, cv_8_5, cv_8_6, cv_8_7, cv_8_8, isk_99, cv_99_0, cv_99_1, cv_99_2, cv_99_3, cv_99_4, cv_99_5, cv_99_6, cv_99_7, cv_99_8, cv_99_9, cv_99_10, cv_99_11, cv_99_12, cv_99_13, cv_99_14, cv_99_15, cv_99_16, cv_99_17, cv_99_18, cv_99_19, cv_99_20, cv_99_21, cv_99_22, cv_99_23, cv_99_24, cv_99_25, cv_99_26, cv_99_27, cv_99_28, cv_99_29, cv_99_30, cv_99_31, cv_99_32, cv_99_33, cv_99_34, cv_99_35, cv_99_36, cv_99_37, cv_99_38, cv_99_39, cv_99_40, cv_99_41, cv_99_42, cv_99_43, cv_99_44, cv_99_45, cv_99_46, e1, e2, e3, e4, e5, hb, hc, hb2, hc2, hb3, hc3, hb4, hc4, hb5, hc5, it_up_s, x1]
    exact hK _ _ _ _ _ _ _ (inv_code (inv_code hI0)) (by omega) (by omega)
end
