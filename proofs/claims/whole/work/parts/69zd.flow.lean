/-! A workflow read: the class. -/
/-- the first j rules as the class has laid them -/
def it_cj (T : Nat → Nat) (n j : Nat) (m : Nat → Nat → Int32) : Prop := m 17 5 = ii j ∧ m 22 2 = ii (rcs T n j) ∧ ∀ q, q < j → m 18 q = ii (T (rps T n q) - 65) ∧ m 19 q = ii (T (rps T n q + 2) - 65) ∧ m 20 q = ii (rcs T n q) ∧ m 21 q = ii (rcs T n (q + 1)) ∧ ∃ w oc, (pR T n (rps T n q)).2 = some (w, oc) ∧ rcs T n (q + 1) = rcs T n q + (lc oc).length ∧ ∀ i, i < (lc oc).length → m 23 (rcs T n q + i) = ((lc oc).getD i (0, 0)).1 ∧ m 24 (rcs T n q + i) = ((lc oc).getD i (0, 0)).2
section
variable {d : Nat} {Q : im_O → im_M → Prop} {L : Nat} {xs : Nat → Int32} {mi : Nat → Nat → Int32} {rw : Nat → Nat} {o : Nat → Int64} {g z : Nat}
variable {n : Nat} {T : Nat → Nat}
theorem rcs_s {j w : Nat} {oc : Option CV} (h : (pR T n (rps T n j)).2 = some (w, oc)) : rcs T n (j + 1) = rcs T n j + (lc oc).length := by
  show rcs T n j + (match (pR T n (rps T n j)).2 with | none => 0 | some q => (lc q.2).length) = _
  rw [h]
theorem cj_next {j w : Nat} {oc : Option CV} {m : Nat → Nat → Int32} (hz : ∀ j, n ≤ j → T j = 0) (hg : rgo T n j) (h : it_cj T n j mi) (hw : it_wr (rcs T n j) j mi m) (hr : (pR T n (rps T n j)).2 = some (w, oc)) (h17 : m 17 5 = ii (j + 1)) (hc : it_cd 22 (rcs T n j) (lc oc) m) (h18 : m 18 j = ii (T (rps T n j) - 65)) (h19 : m 19 j = ii (T (rps T n j + 2) - 65)) (h20 : m 20 j = ii (rcs T n j)) (h21 : m 21 j = ii (rcs T n j + (lc oc).length)) : it_cj T n (j + 1) m := by
  have e := rcs_s hr
  refine ⟨h17, by rw [e]; exact hc.1, fun q hq => ?_⟩
  by_cases eq : q = j
  · subst eq
    exact ⟨h18, h19, h20, by rw [e]; exact h21, w, oc, hr, e, hc.2⟩
  · obtain ⟨c1, c2, c3, c4, w', oc', c5, c6, c7⟩ := h.2.2 q (by omega)
    obtain ⟨d1, d2, d3, d4⟩ := hw.2.2.2 q (by omega)
    refine ⟨by rw [d1]; exact c1, by rw [d2]; exact c2, by rw [d3]; exact c3, by rw [d4]; exact c4, w', oc', c5, c6, fun i hi => ?_⟩
    have hmono : rcs T n (q + 1) ≤ rcs T n j := by
      have key : ∀ a b, a ≤ b → b ≤ j → rcs T n a ≤ rcs T n b := by
        intro a b
        induction b with
        | zero => intro h1 _; rw [show a = 0 by omega]; exact Nat.le_refl _
        | succ b ih =>
          intro h1 h2
          by_cases ea : a = b + 1
          · rw [ea]; exact Nat.le_refl _
          · obtain ⟨⟨w2, oc2, hb2⟩, -⟩ := hg b (by omega)
            rw [rcs_s hb2]
            have := ih (by omega) (by omega)
            omega
      exact key _ _ (by omega) (Nat.le_refl _)
    obtain ⟨k1, k2⟩ := hw.2.2.1 (rcs T n q + i) (by omega)
    rw [k1, k2]
    exact c7 i hi
theorem c60 : iw (d + 1) 60 0 [.ref 17] [] (it_mem L xs mi rw o g z) Q ↔ Q (.inl none) (it_mem L xs (it_up (it_up mi 17 5 0) 22 2 0) rw o g z) := by
  simp only [w60_0, w60_1, w60_2, w60_5, w60_6, w60_9, w60_12, isk_17, cv_17_0, cv_17_1, cv_17_2, cv_17_3, cv_17_4, cv_17_5, isk_22, cv_22_0, cv_22_1, cv_22_2, ↓reduceIte, true_and, and_true, vok_int, vok_b0, vok_b1, vok_bb, r_backI, r_backV, bb_eq0, Nat.reduceAdd, Nat.reduceMul, Nat.reduceEqDiff, not_true_eq_false, not_false_eq_true, if_true, if_false, false_and, and_false, c17, c98, c61 isk_22]
/-- frame of a whole reading -/
def it_wa (mi mi' : Nat → Nat → Int32) : Prop := (∀ a, a ≠ 9 → ¬ (17 ≤ a ∧ a ≤ 24) → mi' a = mi a) ∧ ∀ j, j ≠ 5 → mi' 9 j = mi 9 j
theorem c48L (hx : it_rx 9 n T false mi) (hI : ∀ J, rIll T n J → ∀ m', it_wa mi m' → m' 17 5 = 0 → m' 22 2 = 0 → Q (.inl (some (.int (ii (pR T n (rps T n J)).1)))) (it_mem L xs m' rw o g z)) (hW : ∀ J, rWll T n J → ∀ m', it_wa mi m' → it_cj T n (J + 1) m' → Q (.inl (some (.int (-1)))) (it_mem L xs m' rw o g z)) :
    ∀ (f j : Nat) (m : Nat → Nat → Int32), n ≤ rps T n j + f → rgo T n j → it_wa mi m → it_cj T n j m → m 9 5 = ii (rps T n j) →
    ∀ (v2 v3 v4 : Value) (Q' : im_O → im_M → Prop), (∀ (x : Int32) (M : im_M), iw (d + 3 * 6 + 1 + 1 + 1 + 1 + 1 + 1) 48 13 [.ref 9, .ref 17, .int x, .int (ii (j + 1))] [] M Q → Q' (.inl (some (.int x))) M) → iw (d + 3 * 6 + 1 + 1 + 1 + 1 + 1) 49 0 [.ref 9, .ref 17, v2, v3, v4] [] (it_mem L xs m rw o g z) Q' := by
  have hR : (9 : Nat) = 9 ∨ (9 : Nat) = 11 := Or.inl rfl
  have hn := rx_n hx
  have hz := hx.2.2.2.2.1
  intro f
  induction f with
  | zero =>
    intro j m hf hg hm hc h5 v2 v3 v4 Q' hQ'
    obtain ⟨-, l2, l3, l4⟩ := rgo_le hz hg j (Nat.le_refl _)
    have hxm : it_rx 9 n T false m := by
      obtain ⟨x1, x2, x3, x4, x5, x6⟩ := hx
      exact ⟨x1, by rw [hm.2 1 (by decide)]; exact x2, by rw [hm.2 4 (by decide)]; exact x3, fun q hq => by rw [hm.1 (9 + 1) (by decide) (by decide)]; exact x4 q hq, x5, x6⟩
    refine c49 hxm l3 h5 hc.2.1 l4 hc.1 l2 (fun m1 g1 g5 => ⟨fun hb => ?_, fun w oc hb h17 hcd h18 h19 h20 h21 => ?_⟩)
    · have hm1 : it_wa mi m1 := ⟨fun a q1 q2 => (g1.1 a q1 q2).trans (hm.1 a q1 q2), fun k hk => (g1.2.1 k hk).trans (hm.2 k hk)⟩
      have h4 : m1 9 4 = ii n := by rw [hm1.2 4 (by decide)]; exact hx.2.2.1
      have hfin := hI j ⟨hg, hb⟩ (it_up (it_up m1 17 5 0) 22 2 0) ⟨fun a q1 q2 => by rw [it_up_f _ _ _ (by omega), it_up_f _ _ _ (by omega)]; exact hm1.1 a q1 q2, fun k hk => by rw [it_up_f _ _ _ (by decide), it_up_f _ _ _ (by decide)]; exact hm1.2 k hk⟩ (by rw [it_up_f _ _ _ (by decide), it_up_same]) (it_up_same _ _ _ _)
      have g52 : it_up (it_up m1 17 5 0) 22 2 0 9 5 = ii (pR T n (rps T n j)).1 := by rw [it_up_f _ _ _ (by decide), it_up_f _ _ _ (by decide)]; exact g5
      refine hQ' _ _ ?_
      rw [w48_13]
      by_cases hl : ii n ≤ ii (j + 1)
      · simp only [w48_14, w48_15, w48_18, w48_48, w48_49, w48_52, w48_53, w48_54, w48_55, w48_58, w48_59, w48_62, isk_9, cv_9_0, cv_9_1, cv_9_2, cv_9_3, cv_9_4, cv_9_5, isk_17, cv_17_0, cv_17_1, cv_17_2, cv_17_3, cv_17_4, cv_17_5, ↓reduceIte, true_and, and_true, vok_int, vok_b0, vok_b1, vok_bb, r_backI, r_backV, bb_eq0, Nat.reduceAdd, Nat.reduceMul, Nat.reduceEqDiff, not_true_eq_false, not_false_eq_true, if_true, if_false, false_and, and_false, c17, c98, h4, hl, c60, g52]
        exact hfin
      · simp only [w48_14, w48_15, w48_18, w48_21, w48_22, w48_48, w48_49, w48_52, w48_53, w48_54, w48_55, w48_58, w48_59, w48_62, isk_9, cv_9_0, cv_9_1, cv_9_2, cv_9_3, cv_9_4, cv_9_5, isk_17, cv_17_0, cv_17_1, cv_17_2, cv_17_3, cv_17_4, cv_17_5, ↓reduceIte, true_and, and_true, vok_int, vok_b0, vok_b1, vok_bb, r_backI, r_backV, bb_eq0, Nat.reduceAdd, Nat.reduceMul, Nat.reduceEqDiff, not_true_eq_false, not_false_eq_true, if_true, if_false, false_and, and_false, c17, c98, h4, hl, c60, g52]
        exact hfin
    · obtain ⟨p1, p2⟩ := pR_ok (T := T) hz l3
      have := (p2 w oc hb).1
      omega
  | succ f ih =>
    intro j m hf hg hm hc h5 v2 v3 v4 Q' hQ'
    obtain ⟨-, l2, l3, l4⟩ := rgo_le hz hg j (Nat.le_refl _)
    have hxm : it_rx 9 n T false m := by
      obtain ⟨x1, x2, x3, x4, x5, x6⟩ := hx
      exact ⟨x1, by rw [hm.2 1 (by decide)]; exact x2, by rw [hm.2 4 (by decide)]; exact x3, fun q hq => by rw [hm.1 (9 + 1) (by decide) (by decide)]; exact x4 q hq, x5, x6⟩
    refine c49 hxm l3 h5 hc.2.1 l4 hc.1 l2 (fun m1 g1 g5 => ⟨fun hb => ?_, fun w oc hb h17 hcd h18 h19 h20 h21 => ?_⟩)
    · have hm1 : it_wa mi m1 := ⟨fun a q1 q2 => (g1.1 a q1 q2).trans (hm.1 a q1 q2), fun k hk => (g1.2.1 k hk).trans (hm.2 k hk)⟩
      have h4 : m1 9 4 = ii n := by rw [hm1.2 4 (by decide)]; exact hx.2.2.1
      have hfin := hI j ⟨hg, hb⟩ (it_up (it_up m1 17 5 0) 22 2 0) ⟨fun a q1 q2 => by rw [it_up_f _ _ _ (by omega), it_up_f _ _ _ (by omega)]; exact hm1.1 a q1 q2, fun k hk => by rw [it_up_f _ _ _ (by decide), it_up_f _ _ _ (by decide)]; exact hm1.2 k hk⟩ (by rw [it_up_f _ _ _ (by decide), it_up_same]) (it_up_same _ _ _ _)
      have g52 : it_up (it_up m1 17 5 0) 22 2 0 9 5 = ii (pR T n (rps T n j)).1 := by rw [it_up_f _ _ _ (by decide), it_up_f _ _ _ (by decide)]; exact g5
      refine hQ' _ _ ?_
      rw [w48_13]
      by_cases hl : ii n ≤ ii (j + 1)
      · simp only [w48_14, w48_15, w48_18, w48_48, w48_49, w48_52, w48_53, w48_54, w48_55, w48_58, w48_59, w48_62, isk_9, cv_9_0, cv_9_1, cv_9_2, cv_9_3, cv_9_4, cv_9_5, isk_17, cv_17_0, cv_17_1, cv_17_2, cv_17_3, cv_17_4, cv_17_5, ↓reduceIte, true_and, and_true, vok_int, vok_b0, vok_b1, vok_bb, r_backI, r_backV, bb_eq0, Nat.reduceAdd, Nat.reduceMul, Nat.reduceEqDiff, not_true_eq_false, not_false_eq_true, if_true, if_false, false_and, and_false, c17, c98, h4, hl, c60, g52]
        exact hfin
      · simp only [w48_14, w48_15, w48_18, w48_21, w48_22, w48_48, w48_49, w48_52, w48_53, w48_54, w48_55, w48_58, w48_59, w48_62, isk_9, cv_9_0, cv_9_1, cv_9_2, cv_9_3, cv_9_4, cv_9_5, isk_17, cv_17_0, cv_17_1, cv_17_2, cv_17_3, cv_17_4, cv_17_5, ↓reduceIte, true_and, and_true, vok_int, vok_b0, vok_b1, vok_bb, r_backI, r_backV, bb_eq0, Nat.reduceAdd, Nat.reduceMul, Nat.reduceEqDiff, not_true_eq_false, not_false_eq_true, if_true, if_false, false_and, and_false, c17, c98, h4, hl, c60, g52]
        exact hfin
    · obtain ⟨p1, p2⟩ := pR_ok (T := T) hz l3
      have p3 := (p2 w oc hb).1
      have hm1 : it_wa mi m1 := ⟨fun a q1 q2 => (g1.1 a q1 q2).trans (hm.1 a q1 q2), fun k hk => (g1.2.1 k hk).trans (hm.2 k hk)⟩
      have h4 : m1 9 4 = ii n := by rw [hm1.2 4 (by decide)]; exact hx.2.2.1
      have hcj : it_cj T n (j + 1) m1 := cj_next hz hg hc g1 hb h17 hcd h18 h19 h20 h21
      have e5 : m1 9 5 = ii (rps T n (j + 1)) := g5
      have hle : rps T n (j + 1) ≤ n := p1
      refine hQ' _ _ ?_
      rw [w48_13]
      by_cases hend : n ≤ rps T n (j + 1)
      · have hfin := hW j ⟨hg, ⟨w, oc, hb⟩, hend⟩ m1 hm1 hcj
        have e6 : ii n ≤ ii (rps T n (j + 1)) := (ii_le (by omega) (by omega)).mpr hend
        by_cases hl : ii n ≤ ii (j + 1)
        · simp only [w48_14, w48_15, w48_18, w48_48, w48_49, w48_52, w48_53, isk_9, cv_9_0, cv_9_1, cv_9_2, cv_9_3, cv_9_4, cv_9_5, isk_17, cv_17_0, cv_17_1, cv_17_2, cv_17_3, cv_17_4, cv_17_5, ↓reduceIte, true_and, and_true, vok_int, vok_b0, vok_b1, vok_bb, r_backI, r_backV, bb_eq0, Nat.reduceAdd, Nat.reduceMul, Nat.reduceEqDiff, not_true_eq_false, not_false_eq_true, if_true, if_false, false_and, and_false, c17, c98, n_m1_0, n_m1_1, n_m1_2, n_m1_3, n_m1_4, n_m1_5, n_m1_6, n_0_m1, n_0_1, n_0_2, n_0_3, n_0_4, n_0_5, n_0_6, n_1_m1, n_1_0, n_1_2, n_1_3, n_1_4, n_1_5, n_1_6, n_2_m1, n_2_0, n_2_1, n_2_3, n_2_4, n_2_5, n_2_6, n_3_m1, n_3_0, n_3_1, n_3_2, n_3_4, n_3_5, n_3_6, n_4_m1, n_4_0, n_4_1, n_4_2, n_4_3, n_4_5, n_4_6, n_5_m1, n_5_0, n_5_1, n_5_2, n_5_3, n_5_4, n_5_6, n_6_m1, n_6_0, n_6_1, n_6_2, n_6_3, n_6_4, n_6_5, h4, hl]
          exact hfin
        · simp only [w48_14, w48_15, w48_18, w48_21, w48_22, w48_25, w48_26, w48_29, w48_30, w48_33, w48_48, w48_49, w48_52, w48_53, isk_9, cv_9_0, cv_9_1, cv_9_2, cv_9_3, cv_9_4, cv_9_5, isk_17, cv_17_0, cv_17_1, cv_17_2, cv_17_3, cv_17_4, cv_17_5, ↓reduceIte, true_and, and_true, vok_int, vok_b0, vok_b1, vok_bb, r_backI, r_backV, bb_eq0, Nat.reduceAdd, Nat.reduceMul, Nat.reduceEqDiff, not_true_eq_false, not_false_eq_true, if_true, if_false, false_and, and_false, c17, c98, n_m1_0, n_m1_1, n_m1_2, n_m1_3, n_m1_4, n_m1_5, n_m1_6, n_0_m1, n_0_1, n_0_2, n_0_3, n_0_4, n_0_5, n_0_6, n_1_m1, n_1_0, n_1_2, n_1_3, n_1_4, n_1_5, n_1_6, n_2_m1, n_2_0, n_2_1, n_2_3, n_2_4, n_2_5, n_2_6, n_3_m1, n_3_0, n_3_1, n_3_2, n_3_4, n_3_5, n_3_6, n_4_m1, n_4_0, n_4_1, n_4_2, n_4_3, n_4_5, n_4_6, n_5_m1, n_5_0, n_5_1, n_5_2, n_5_3, n_5_4, n_5_6, n_6_m1, n_6_0, n_6_1, n_6_2, n_6_3, n_6_4, n_6_5, h4, hl, e5, e6]
          exact hfin
      · have e6 : ¬ ii n ≤ ii (rps T n (j + 1)) := by rw [ii_le (by omega) (by omega)]; exact hend
        have hg1 : rgo T n (j + 1) := by
          intro q hq
          by_cases eq : q = j
          · subst eq; exact ⟨⟨w, oc, hb⟩, by omega⟩
          · exact hg q (by omega)
        have hj1 := (rgo_le hz hg1 (j + 1) (Nat.le_refl _)).2.1
        have hl : ¬ ii n ≤ ii (j + 1) := by rw [ii_le (by omega) (by omega)]; omega
        have e2 : ii (j + 1) + 1 = ii (j + 1 + 1) := ii_add (b := 1)
        simp only [w48_14, w48_15, w48_18, w48_21, w48_22, w48_25, w48_26, w48_29, w48_30, w48_33, w48_36, w48_37, w48_38, isk_9, cv_9_0, cv_9_1, cv_9_2, cv_9_3, cv_9_4, cv_9_5, isk_17, cv_17_0, cv_17_1, cv_17_2, cv_17_3, cv_17_4, cv_17_5, ↓reduceIte, true_and, and_true, vok_int, vok_b0, vok_b1, vok_bb, r_backI, r_backV, bb_eq0, Nat.reduceAdd, Nat.reduceMul, Nat.reduceEqDiff, not_true_eq_false, not_false_eq_true, if_true, if_false, false_and, and_false, c17, c98, n_m1_0, n_m1_1, n_m1_2, n_m1_3, n_m1_4, n_m1_5, n_m1_6, n_0_m1, n_0_1, n_0_2, n_0_3, n_0_4, n_0_5, n_0_6, n_1_m1, n_1_0, n_1_2, n_1_3, n_1_4, n_1_5, n_1_6, n_2_m1, n_2_0, n_2_1, n_2_3, n_2_4, n_2_5, n_2_6, n_3_m1, n_3_0, n_3_1, n_3_2, n_3_4, n_3_5, n_3_6, n_4_m1, n_4_0, n_4_1, n_4_2, n_4_3, n_4_5, n_4_6, n_5_m1, n_5_0, n_5_1, n_5_2, n_5_3, n_5_4, n_5_6, n_6_m1, n_6_0, n_6_1, n_6_2, n_6_3, n_6_4, n_6_5, h4, hl, e5, e6]
        refine ih (j + 1) m1 (by have e9 : rps T n (j + 1) = (pR T n (rps T n j)).1 := rfl; omega) hg1 hm1 hcj e5 _ _ _ _ (fun x M hgo => ?_)
        simp only [↓reduceIte, true_and, and_true, vok_int, vok_b0, vok_b1, vok_bb, r_backI, r_backV, bb_eq0, Nat.reduceAdd, Nat.reduceMul, Nat.reduceEqDiff, not_true_eq_false, not_false_eq_true, if_true, if_false, false_and, and_false, c17, c98, w48_41, w48_42, w48_45, e2]
        exact hgo
theorem c48 {v2 v3 : Value} (hx : it_rx 9 n T false mi) (h17 : mi 17 5 = 0) (h22 : mi 22 2 = 0) (hI : ∀ J, rIll T n J → ∀ m', it_wa mi m' → m' 17 5 = 0 → m' 22 2 = 0 → Q (.inl (some (.int (ii (pR T n (rps T n J)).1)))) (it_mem L xs m' rw o g z)) (hW : ∀ J, rWll T n J → ∀ m', it_wa mi m' → it_cj T n (J + 1) m' → Q (.inl (some (.int (-1)))) (it_mem L xs m' rw o g z)) :
    iw (d + 3 * 6 + 1 + 1 + 1 + 1 + 1 + 1) 48 0 [.ref 9, .ref 17, v2, v3] [] (it_mem L xs mi rw o g z) Q := by
  have hwa : it_wa mi (it_up mi 9 5 0) := ⟨fun a q1 _ => it_up_f _ _ _ q1, fun j hj => by rw [it_up_s, if_neg hj]⟩
  simp only [w48_0, w48_1, w48_2, w48_5, w48_6, w48_7, isk_9, cv_9_0, cv_9_1, cv_9_2, cv_9_3, cv_9_4, cv_9_5, isk_17, cv_17_0, cv_17_1, cv_17_2, cv_17_3, cv_17_4, cv_17_5, ↓reduceIte, true_and, and_true, vok_int, vok_b0, vok_b1, vok_bb, r_backI, r_backV, bb_eq0, Nat.reduceAdd, Nat.reduceMul, Nat.reduceEqDiff, not_true_eq_false, not_false_eq_true, if_true, if_false, false_and, and_false, c17, c98]
  refine c48L hx hI hW n 0 (it_up mi 9 5 0) (by omega) (fun q hq => absurd hq (Nat.not_lt_zero _)) hwa ⟨by rw [it_up_f _ _ _ (by decide)]; exact h17, by rw [it_up_f _ _ _ (by decide)]; exact h22, fun q hq => absurd hq (Nat.not_lt_zero _)⟩ (it_up_same _ _ _ _) _ _ _ _ (fun x M hgo => ?_)
  simp only [↓reduceIte, true_and, and_true, vok_int, vok_b0, vok_b1, vok_bb, r_backI, r_backV, bb_eq0, Nat.reduceAdd, Nat.reduceMul, Nat.reduceEqDiff, not_true_eq_false, not_false_eq_true, if_true, if_false, false_and, and_false, c17, c98, w48_10, w48_11, w48_12]
  exact hgo
end
