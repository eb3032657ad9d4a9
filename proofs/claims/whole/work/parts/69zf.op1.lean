/-! compile, whole. -/
theorem fol_wf {kn : Nat → Nat → Nat} {sp : Nat → Nat} {m lg wf wf' ro : Nat → Nat → Int32} (hk : ∀ p o, p < 3 → o < 3 → kn p o = 0) (h : it_fol kn sp m lg wf ro) : it_fol kn sp m lg wf' ro := by
  intro p hp
  have h1 := h p hp
  rw [fold_0 (fun o ho => hk p o hp ho)] at h1
  rw [fold_0 (fun o ho => hk p o hp ho)]
  exact h1
theorem inv_W {mi mf : Nat → Nat → Int32} {rw : Nat → Nat} (hI : it_Inv mi rw) (h0 : mi 17 5 = 0) (hm : ∀ a, (a ≤ 101 ∧ a ≠ 8 ∧ a ≠ 9 ∧ ¬ (17 ≤ a ∧ a ≤ 24) ∧ a ≠ 99) ∨ (111 ≤ a ∧ a ≤ 125) ∨ a = 133 → mf a = mi a) (h9 : ∀ k, k = 3 ∨ k = 33 ∨ k = 45 → mf 99 k = mi 99 k) (h91 : mf 9 1 = mi 9 1) (h93 : mf 9 3 = 0) (h94 : mf 9 4 = 0) (h991 : mf 99 1 = 0) (hill : mf 8 8 = mf 99 10) (hw : it_wfl (it_win 17 25 mf) (it_win 107 111 mf) (mf 99 15) (mf 99 16) (mf 99 20)) : it_Inv mf rw := by
  obtain ⟨i1, i2, i3, i4, i5, i6, cnt, kn, vw, tm, sp, hN, hG, i9, i10, i11⟩ := hI
  have hG2 := hG.2.1
  rw [win_at (by omega) (by omega), i3.2.2.2 h0] at hG2
  have c0 := hN.1 0 (by decide)
  have c1 := hN.1 1 (by decide)
  have c2 := hN.1 2 (by decide)
  have htot := (ii_inj (a := 0) (by decide) (by omega)).mp hG2
  have hk : ∀ p o, p < 3 → o < 3 → kn p o = 0 := by
    intro p o hp ho
    have := hN.2.1 p o hp ho
    rcases i_three ho with rfl | rfl | rfl <;> omega
  unfold it_Inv
  rw [win_cg (lo := 25) (hi := 27) (m := mi) (fun a h1 h2 => hm a (by omega)), win_cg (lo := 111) (hi := 113) (m := mi) (fun a h1 h2 => hm a (by omega)), win_cg (lo := 27) (hi := 34) (m := mi) (fun a h1 h2 => hm a (by omega)), win_cg (lo := 113) (hi := 119) (m := mi) (fun a h1 h2 => hm a (by omega)), win_cg (lo := 35) (hi := 77) (m := mi) (fun a h1 h2 => hm a (by omega)), win_cg (lo := 119) (hi := 122) (m := mi) (fun a h1 h2 => hm a (by omega)), win_cg (lo := 79) (hi := 97) (m := mi) (fun a h1 h2 => hm a (by omega)), win_cg (lo := 122) (hi := 126) (m := mi) (fun a h1 h2 => hm a (by omega))]
  rw [hm 11 (by omega), hm 12 (by omega), hm 27 (by omega), hm 77 (by omega), hm 97 (by omega), hm 98 (by omega), hm 101 (by omega), hm 133 (by omega), h9 3 (by omega), h9 33 (by omega), h9 45 (by omega), h91, h93, h94, h991]
  exact ⟨tx_nil, i2, ⟨hill, i3.2.1, i3.2.2.1, fun _ => i3.2.2.2 h0⟩, i4, i5, hw, cnt, kn, vw, tm, sp, hN, hG, i9, i10, fol_wf hk i11⟩
/-- both sides' rules make the relation -/
theorem wfl_of {T : Nat → Nat} {n J : Nat} {m r : Nat → Nat → Int32} {s c : Int32} (hz : ∀ j, n ≤ j → T j = 0) (hn : n ≤ 120) (hW : rWll T n J) (hc : it_cj T n (J + 1) m) (hr : ∀ q, q < J + 1 → r 107 q = ii (T (rps T n q) - 65) ∧ r 108 q = ii (T (rps T n q + 2) - 65) ∧ ∃ w oc, (pR T n (rps T n q)).2 = some (w, oc) ∧ r 109 q = ii w) (hfl : ∀ j, j < n → r 110 j = ii (T j)) (hs : s = ii n) (hcc : c = 1) : it_wfl m r c (ii (J + 1)) s := by
  obtain ⟨hg, ⟨w0, oc0, hw0⟩, hend⟩ := hW
  obtain ⟨-, g2, g3, g4⟩ := rgo_le hz hg J (Nat.le_refl _)
  obtain ⟨q1, q2⟩ := pR_ok (T := T) hz g3
  obtain ⟨q3, q4, -⟩ := q2 w0 oc0 hw0
  have e9 : rps T n (J + 1) = (pR T n (rps T n J)).1 := rfl
  refine Or.inr ⟨J + 1, n, T, by omega, by omega, hc.1, rfl, hcc, hs, hn, hfl, hz, fun q hq => ?_⟩
  obtain ⟨c1, c2, c3, c4, w, oc, c5, c6, c7⟩ := hc.2.2 q hq
  obtain ⟨r1, r2, w', oc', r3, r4⟩ := hr q hq
  rw [c5] at r3
  cases r3
  obtain ⟨-, k2, k3, k4⟩ := rgo_le hz hg q (by omega)
  obtain ⟨p1, p2⟩ := pR_ok (T := T) hz k3
  obtain ⟨p3, p4, p5, -, -, p6⟩ := p2 w oc c5
  refine ⟨by rw [c1, r1], by rw [c2, r2], rcs T n q, rcs T n (q + 1), w, c3, c4, r4, p5, by omega, by omega, ?_⟩
  rcases p6 with ⟨h1, h2⟩ | ⟨h1, c, h2, h3, h4⟩
  · subst h2
    exact Or.inl ⟨h1, by rw [c6]; rfl⟩
  · subst h2
    exact Or.inr ⟨h1, c, h3, h4, c6, c7⟩
section
variable {d : Nat} {Q : im_O → im_M → Prop} {L : Nat} {xs : Nat → Int32} {mi : Nat → Nat → Int32} {rw : Nat → Nat} {o : Nat → Int64} {g z : Nat}
/-- frame of the reference's compile -/
def it_cf (mi m' : Nat → Nat → Int32) : Prop := (∀ a, a ≠ 99 → a ≠ 102 → a ≠ 103 → ¬ (107 ≤ a ∧ a ≤ 110) → m' a = mi a) ∧ ∀ k, k = 3 ∨ k = 33 ∨ k = 45 → m' 99 k = mi 99 k
theorem c86c {v1 v2 : Value} (h15 : mi 99 15 = 1) : iw (d + 1) 86 0 [.ref 99, v1, v2] [] (it_mem L xs mi rw o g z) Q ↔ Q (.inl (some (.int 0))) (it_mem L xs (it_up (it_up (it_up mi 99 0 0) 99 1 0) 99 0 1) rw o g z) := by
  have n1 : it_up mi 99 0 0 99 1 = mi 99 1 := by rw [it_up_s, if_neg (by decide)]
  have n15 : it_up (it_up mi 99 0 0) 99 1 0 99 15 = 1 := by rw [it_up_s, if_neg (by decide), it_up_s, if_neg (by decide)]; exact h15
  simp only [w86_0, w86_1, w86_2, w86_5, w86_6, w86_9, w86_10, w86_11, w86_12, w86_15, w86_16, w86_19, w86_22, w86_23, w86_24, w86_27, isk_99, cv_99_0, cv_99_1, cv_99_2, cv_99_3, cv_99_4, cv_99_5, cv_99_6, cv_99_7, cv_99_8, cv_99_9, cv_99_10, cv_99_11, cv_99_12, cv_99_13, cv_99_14, cv_99_15, cv_99_16, cv_99_17, cv_99_18, cv_99_19, cv_99_20, cv_99_21, cv_99_22, cv_99_23, cv_99_24, cv_99_25, cv_99_26, cv_99_27, cv_99_28, cv_99_29, cv_99_30, cv_99_31, cv_99_32, cv_99_33, cv_99_34, cv_99_35, cv_99_36, cv_99_37, cv_99_38, cv_99_39, cv_99_40, cv_99_41, cv_99_42, cv_99_43, cv_99_44, cv_99_45, cv_99_46, ↓reduceIte, true_and, and_true, vok_int, vok_b0, vok_b1, vok_bb, r_backI, r_backV, bb_eq0, Nat.reduceAdd, Nat.reduceMul, Nat.reduceEqDiff, not_true_eq_false, not_false_eq_true, if_true, if_false, false_and, and_false, c17, c98, n_m1_0, n_m1_1, n_m1_2, n_m1_3, n_m1_4, n_m1_5, n_m1_6, n_0_m1, n_0_1, n_0_2, n_0_3, n_0_4, n_0_5, n_0_6, n_1_m1, n_1_0, n_1_2, n_1_3, n_1_4, n_1_5, n_1_6, n_2_m1, n_2_0, n_2_1, n_2_3, n_2_4, n_2_5, n_2_6, n_3_m1, n_3_0, n_3_1, n_3_2, n_3_4, n_3_5, n_3_6, n_4_m1, n_4_0, n_4_1, n_4_2, n_4_3, n_4_5, n_4_6, n_5_m1, n_5_0, n_5_1, n_5_2, n_5_3, n_5_4, n_5_6, n_6_m1, n_6_0, n_6_1, n_6_2, n_6_3, n_6_4, n_6_5, n1, n15, c87]
theorem c86copy {n : Nat} {T : Nat → Nat} {v1 : Value} {m0 : Nat → Nat → Int32} {x : Int32} (hn : n ≤ 120) (h5 : m0 99 5 = ii n) (hx : ∀ j, j < n → m0 102 j = ii (T j) ∧ T j < 128) (h16 : m0 99 16 = x) (hQ : ∀ m', (∀ a, a ≠ 110 → m' a = m0 a) → (∀ j, j < n → m' 110 j = ii (T j)) → Q (.inl (some (.int x))) (it_mem L xs m' rw o g z)) :
    ∀ (f k : Nat) (m : Nat → Nat → Int32), k + f = n → (∀ a, a ≠ 110 → m a = m0 a) → (∀ j, j < k → m 110 j = ii (T j)) → iw d 86 123 [.ref 99, v1, .int (ii k)] [] (it_mem L xs m rw o g z) Q := by
  intro f
  induction f with
  | zero =>
    intro k m hk hm hj
    have e1 : ii n ≤ ii k := (ii_le (by omega) (by omega)).mpr (by omega)
    have k5 : m 99 5 = ii n := by rw [hm 99 (by decide)]; exact h5
    have k16 : m 99 16 = x := by rw [hm 99 (by decide)]; exact h16
    rw [w86_123]
    simp only [w86_124, w86_125, w86_128, w86_149, w86_150, w86_153, isk_99, cv_99_0, cv_99_1, cv_99_2, cv_99_3, cv_99_4, cv_99_5, cv_99_6, cv_99_7, cv_99_8, cv_99_9, cv_99_10, cv_99_11, cv_99_12, cv_99_13, cv_99_14, cv_99_15, cv_99_16, cv_99_17, cv_99_18, cv_99_19, cv_99_20, cv_99_21, cv_99_22, cv_99_23, cv_99_24, cv_99_25, cv_99_26, cv_99_27, cv_99_28, cv_99_29, cv_99_30, cv_99_31, cv_99_32, cv_99_33, cv_99_34, cv_99_35, cv_99_36, cv_99_37, cv_99_38, cv_99_39, cv_99_40, cv_99_41, cv_99_42, cv_99_43, cv_99_44, cv_99_45, cv_99_46, ↓reduceIte, true_and, and_true, vok_int, vok_b0, vok_b1, vok_bb, r_backI, r_backV, bb_eq0, Nat.reduceAdd, Nat.reduceMul, Nat.reduceEqDiff, not_true_eq_false, not_false_eq_true, if_true, if_false, false_and, and_false, c17, c98, k5, e1, k16]
    exact hQ m hm (fun j hj2 => hj j (by omega))
  | succ f ih =>
    intro k m hk hm hj
    obtain ⟨x1, x2⟩ := hx k (by omega)
    have e1 : ¬ ii n ≤ ii k := by rw [ii_le (by omega) (by omega)]; omega
    have e2 : ii k + 1 = ii (k + 1) := ii_add (b := 1)
    have e3 : (ii k).toNatClampNeg = k := ii_clamp (by omega)
    have k5 : m 99 5 = ii n := by rw [hm 99 (by decide)]; exact h5
    have kx : m 102 k = ii (T k) := by rw [hm 102 (by decide)]; exact x1
    have b1 : it_inb L 102 (ii k) := ii_inb (by omega) (by rw [ln_102]; omega)
    have b2 : it_inb L 110 (ii k) := ii_inb (by omega) (by rw [ln_110]; omega)
    have hv : vp_nar .char (ii (T k)) = ii (T k) := vp_nar_ch (by omega)
    have hgo := ih (k + 1) (it_up m 110 k (ii (T k))) (by omega) (fun a ha => by rw [it_up_f _ _ _ ha, hm a ha]) (fun j hj2 => by
      rw [it_up_s]
      by_cases e : j = k
      · subst e; rw [if_pos rfl]
      · rw [if_neg e]; exact hj j (by omega))
    rw [w86_123]
    simp only [w86_124, w86_125, w86_128, w86_131, w86_132, w86_135, w86_136, w86_137, w86_140, w86_141, w86_142, w86_143, w86_146, isk_99, cv_99_0, cv_99_1, cv_99_2, cv_99_3, cv_99_4, cv_99_5, cv_99_6, cv_99_7, cv_99_8, cv_99_9, cv_99_10, cv_99_11, cv_99_12, cv_99_13, cv_99_14, cv_99_15, cv_99_16, cv_99_17, cv_99_18, cv_99_19, cv_99_20, cv_99_21, cv_99_22, cv_99_23, cv_99_24, cv_99_25, cv_99_26, cv_99_27, cv_99_28, cv_99_29, cv_99_30, cv_99_31, cv_99_32, cv_99_33, cv_99_34, cv_99_35, cv_99_36, cv_99_37, cv_99_38, cv_99_39, cv_99_40, cv_99_41, cv_99_42, cv_99_43, cv_99_44, cv_99_45, cv_99_46, isa_102, ln_102, cv_102, isa_110, ln_110, cv_110, ↓reduceIte, true_and, and_true, vok_int, vok_b0, vok_b1, vok_bb, r_backI, r_backV, bb_eq0, Nat.reduceAdd, Nat.reduceMul, Nat.reduceEqDiff, not_true_eq_false, not_false_eq_true, if_true, if_false, false_and, and_false, c17, c98, k5, e1, e2, e3, kx, b1, b2, hv, Nat.reduceLeDiff]
    exact hgo
theorem c86 {t : List Nat} {v1 v2 : Value} (ht : t.length ≤ 120) (h1 : mi 99 1 = ii t.length) (hch : ∀ c, c ∈ t → 32 ≤ c ∧ c ≤ 126) (hd : ∀ j, j < t.length → mi 100 j = ii (t.getD j 0)) (h15 : mi 99 15 = 0)
    (hI : ∀ J, rIll (chs t) (t.filter (· ≠ 32)).length J → ∀ m', it_cf mi m' → m' 99 0 = 2 → m' 99 1 = 0 → m' 99 10 = ii (pR (chs t) (t.filter (· ≠ 32)).length (rps (chs t) (t.filter (· ≠ 32)).length J)).1 → m' 99 15 = 0 → Q (.inl (some (.int 0))) (it_mem L xs m' rw o g z))
    (hW : ∀ J, rWll (chs t) (t.filter (· ≠ 32)).length J → ∀ m', it_cf mi m' → m' 99 0 = 0 → m' 99 1 = 0 → m' 99 10 = -1 → m' 99 15 = 1 → m' 99 20 = ii (t.filter (· ≠ 32)).length → it_mj (chs t) (t.filter (· ≠ 32)).length (J + 1) m' → (∀ j, j < (t.filter (· ≠ 32)).length → m' 110 j = ii (chs t j)) → Q (.inl (some (.int (ii (J + 1))))) (it_mem L xs m' rw o g z)) :
    iw (d + 5) 86 0 [.ref 99, v1, v2] [] (it_mem L xs mi rw o g z) Q := by
  have hn120 : (t.filter (· ≠ 32)).length ≤ 120 := Nat.le_trans (List.length_filter_le _ _) ht
  have n1 : it_up mi 99 0 0 99 1 = ii t.length := by rw [it_up_s, if_neg (by decide)]; exact h1
  have n15 : it_up (it_up mi 99 0 0) 99 1 0 99 15 = 0 := by rw [it_up_s, if_neg (by decide), it_up_s, if_neg (by decide)]; exact h15
  simp only [w86_0, w86_1, w86_2, w86_5, w86_6, w86_9, w86_10, w86_11, w86_12, w86_15, w86_16, w86_19, w86_22, w86_23, w86_24, w86_27, w86_28, w86_29, w86_30, w86_33, w86_34, isk_99, cv_99_0, cv_99_1, cv_99_2, cv_99_3, cv_99_4, cv_99_5, cv_99_6, cv_99_7, cv_99_8, cv_99_9, cv_99_10, cv_99_11, cv_99_12, cv_99_13, cv_99_14, cv_99_15, cv_99_16, cv_99_17, cv_99_18, cv_99_19, cv_99_20, cv_99_21, cv_99_22, cv_99_23, cv_99_24, cv_99_25, cv_99_26, cv_99_27, cv_99_28, cv_99_29, cv_99_30, cv_99_31, cv_99_32, cv_99_33, cv_99_34, cv_99_35, cv_99_36, cv_99_37, cv_99_38, cv_99_39, cv_99_40, cv_99_41, cv_99_42, cv_99_43, cv_99_44, cv_99_45, cv_99_46, isa_100, ln_100, cv_100, ↓reduceIte, true_and, and_true, vok_int, vok_b0, vok_b1, vok_bb, r_backI, r_backV, bb_eq0, Nat.reduceAdd, Nat.reduceMul, Nat.reduceEqDiff, not_true_eq_false, not_false_eq_true, if_true, if_false, false_and, and_false, c17, c98, n1, n15]
  refine c88 (t := t) (Or.inl rfl) rfl ht (by rw [ln_100]; exact ht) (fun c hc => by have := hch c hc; omega) (fun j hj => by rw [it_up_f _ _ _ (by decide), it_up_f _ _ _ (by decide)]; exact hd j hj) (fun m1 f1 f9 f5 f7 f8 fx => ?_)
  generalize hnn : (t.filter (· ≠ 32)).length = n at *
  have hz : ∀ j, n ≤ j → chs t j = 0 := fun j hj => chs_z (by rw [hnn]; exact hj)
  have g1 : ∀ a, a ≠ 99 → a ≠ 102 → m1 a = mi a := fun a q1 q2 => by rw [f1 a q1 q2, it_up_f _ _ _ q1, it_up_f _ _ _ q1]
  have g9 : ∀ k, k ≠ 0 → k ≠ 1 → k ≠ 5 → k ≠ 7 → k ≠ 8 → m1 99 k = mi 99 k := fun k q0 q1 q2 q3 q4 => by rw [f9 k q2 q3 q4, it_up_s, if_neg q1, it_up_s, if_neg q0]
  have g0 : m1 99 0 = 0 := by rw [f9 0 (by decide) (by decide) (by decide), it_up_s, if_neg (by decide), it_up_same]
  have g11 : m1 99 1 = 0 := by rw [f9 1 (by decide) (by decide) (by decide), it_up_same]
  simp only [↓reduceIte, true_and, and_true, vok_int, vok_b0, vok_b1, vok_bb, r_backI, r_backV, bb_eq0, Nat.reduceAdd, Nat.reduceMul, Nat.reduceEqDiff, not_true_eq_false, not_false_eq_true, if_true, if_false, false_and, and_false, c17, c98, w86_37, w86_38, w86_39, w86_42, w86_43, w86_44, w86_47, w86_48, isk_99, cv_99_0, cv_99_1, cv_99_2, cv_99_3, cv_99_4, cv_99_5, cv_99_6, cv_99_7, cv_99_8, cv_99_9, cv_99_10, cv_99_11, cv_99_12, cv_99_13, cv_99_14, cv_99_15, cv_99_16, cv_99_17, cv_99_18, cv_99_19, cv_99_20, cv_99_21, cv_99_22, cv_99_23, cv_99_24, cv_99_25, cv_99_26, cv_99_27, cv_99_28, cv_99_29, cv_99_30, cv_99_31, cv_99_32, cv_99_33, cv_99_34, cv_99_35, cv_99_36, cv_99_37, cv_99_38, cv_99_39, cv_99_40, cv_99_41, cv_99_42, cv_99_43, cv_99_44, cv_99_45, cv_99_46]
  have q5 : it_up (it_up m1 99 9 0) 99 16 0 99 5 = ii n := by rw [it_up_s, if_neg (by decide), it_up_s, if_neg (by decide)]; exact f5
  have q7 : it_up (it_up m1 99 9 0) 99 16 0 99 7 = ii 0 := by rw [it_up_s, if_neg (by decide), it_up_s, if_neg (by decide)]; exact f7
  have q8 : it_up (it_up m1 99 9 0) 99 16 0 99 8 = 0 := by rw [it_up_s, if_neg (by decide), it_up_s, if_neg (by decide)]; exact f8
  have q0 : it_up (it_up m1 99 9 0) 99 16 0 99 0 = 0 := by rw [it_up_s, if_neg (by decide), it_up_s, if_neg (by decide)]; exact g0
  have q1 : it_up (it_up m1 99 9 0) 99 16 0 99 1 = 0 := by rw [it_up_s, if_neg (by decide), it_up_s, if_neg (by decide)]; exact g11
  have q15 : it_up (it_up m1 99 9 0) 99 16 0 99 15 = 0 := by rw [it_up_s, if_neg (by decide), it_up_s, if_neg (by decide), g9 15 (by decide) (by decide) (by decide) (by decide) (by decide)]; exact h15
  have q16 : it_up (it_up m1 99 9 0) 99 16 0 99 16 = ii 0 := it_up_same _ _ _ _
  have qk : ∀ k, k = 3 ∨ k = 33 ∨ k = 45 → it_up (it_up m1 99 9 0) 99 16 0 99 k = mi 99 k := fun k hk => by rw [it_up_s, if_neg (by omega), it_up_s, if_neg (by omega), g9 k (by omega) (by omega) (by omega) (by omega) (by omega)]
  have qa : ∀ a, a ≠ 99 → a ≠ 102 → it_up (it_up m1 99 9 0) 99 16 0 a = mi a := fun a c1 c2 => by rw [it_up_f _ _ _ c1, it_up_f _ _ _ c1]; exact g1 a c1 c2
  have qx : it_mx n (chs t) false (it_up (it_up m1 99 9 0) 99 16 0) := by
    refine ⟨hn120, q5, by rw [it_up_s, if_neg (by decide), it_up_same, bb_f (fun h => by cases h)], fun j hj => ?_, hz, chs_lt hch⟩
    rw [it_up_f _ _ _ (by decide), it_up_f _ _ _ (by decide)]
    exact fx j hj
  generalize hM : it_up (it_up m1 99 9 0) 99 16 0 = M at *
  have hgo := c86L (d := d) (Q := Q) (L := L) (xs := xs) (rw := rw) (o := o) (g := g) (z := z) (v1 := .int (ii t.length)) (v2 := v2) qx (fun J hJ m2 k1 k8 k7 => ?_) (fun J hJ m2 k1 k8 kj => ?_) n 0 M (by omega) (fun q hq => absurd hq (Nat.not_lt_zero _)) ⟨fun _ _ _ _ => rfl, fun _ _ _ _ => rfl⟩ ⟨q16, fun q hq => absurd hq (Nat.not_lt_zero _)⟩ q7 q8 (.retAddr 0) (.retAddr 0) (.retAddr 0) (iw_back (d + 5) 86 48 [.ref 99, .int (ii t.length), v2] [] Q) (fun M' h => by simp only [↓reduceIte, true_and, and_true, vok_int, vok_b0, vok_b1, vok_bb, r_backI, r_backV, bb_eq0, Nat.reduceAdd, Nat.reduceMul, Nat.reduceEqDiff, not_true_eq_false, not_false_eq_true, if_true, if_false, false_and, and_false, c17, c98]; exact h)
  · exact hgo
  · -- ill
    have k71 : ∀ x, it_up m2 99 10 x 99 8 = 1 := fun x => by rw [it_up_s, if_neg (by decide)]; exact k8
    have fin := hI J hJ (it_up (it_up m2 99 10 (ii (pR (chs t) n (rps (chs t) n J)).1)) 99 0 2) ⟨fun a c1 c2 c3 c4 => by rw [it_up_f _ _ _ c1, it_up_f _ _ _ c1, k1.1 a c1 c3 (by omega), qa a c1 c2], fun k hk => by rw [it_up_s, if_neg (by omega), it_up_s, if_neg (by omega), k1.2 k (by omega) (by omega) (by omega), qk k hk]⟩ (it_up_same _ _ _ _) (by rw [it_up_s, if_neg (by decide), it_up_s, if_neg (by decide), k1.2 1 (by decide) (by decide) (by decide)]; exact q1) (by rw [it_up_s, if_neg (by decide), it_up_same]) (by rw [it_up_s, if_neg (by decide), it_up_s, if_neg (by decide), k1.2 15 (by decide) (by decide) (by decide)]; exact q15)
    simp only [w86_76, w86_77, w86_78, w86_81, w86_84, w86_85, w86_88, w86_91, w86_92, w86_95, w86_96, w86_99, w86_102, w86_103, w86_104, w86_107, isk_99, cv_99_0, cv_99_1, cv_99_2, cv_99_3, cv_99_4, cv_99_5, cv_99_6, cv_99_7, cv_99_8, cv_99_9, cv_99_10, cv_99_11, cv_99_12, cv_99_13, cv_99_14, cv_99_15, cv_99_16, cv_99_17, cv_99_18, cv_99_19, cv_99_20, cv_99_21, cv_99_22, cv_99_23, cv_99_24, cv_99_25, cv_99_26, cv_99_27, cv_99_28, cv_99_29, cv_99_30, cv_99_31, cv_99_32, cv_99_33, cv_99_34, cv_99_35, cv_99_36, cv_99_37, cv_99_38, cv_99_39, cv_99_40, cv_99_41, cv_99_42, cv_99_43, cv_99_44, cv_99_45, cv_99_46, ↓reduceIte, true_and, and_true, vok_int, vok_b0, vok_b1, vok_bb, r_backI, r_backV, bb_eq0, Nat.reduceAdd, Nat.reduceMul, Nat.reduceEqDiff, not_true_eq_false, not_false_eq_true, if_true, if_false, false_and, and_false, c17, c98, n_m1_0, n_m1_1, n_m1_2, n_m1_3, n_m1_4, n_m1_5, n_m1_6, n_0_m1, n_0_1, n_0_2, n_0_3, n_0_4, n_0_5, n_0_6, n_1_m1, n_1_0, n_1_2, n_1_3, n_1_4, n_1_5, n_1_6, n_2_m1, n_2_0, n_2_1, n_2_3, n_2_4, n_2_5, n_2_6, n_3_m1, n_3_0, n_3_1, n_3_2, n_3_4, n_3_5, n_3_6, n_4_m1, n_4_0, n_4_1, n_4_2, n_4_3, n_4_5, n_4_6, n_5_m1, n_5_0, n_5_1, n_5_2, n_5_3, n_5_4, n_5_6, n_6_m1, n_6_0, n_6_1, n_6_2, n_6_3, n_6_4, n_6_5, k8, k7, k71, c87]
    exact fin
  · -- well
    have k81 : it_up m2 99 10 (-1) 99 8 = 0 := by rw [it_up_s, if_neg (by decide)]; exact k8
    have k51 : it_up (it_up m2 99 10 (-1)) 99 15 1 99 5 = ii n := by rw [it_up_s, if_neg (by decide), it_up_s, if_neg (by decide), k1.2 5 (by decide) (by decide) (by decide)]; exact q5
    simp only [w86_76, w86_77, w86_78, w86_81, w86_84, w86_85, w86_88, w86_91, w86_92, w86_95, w86_96, w86_99, w86_102, w86_103, w86_104, w86_107, w86_108, w86_109, w86_110, w86_113, w86_114, w86_115, w86_118, w86_121, w86_122, isk_99, cv_99_0, cv_99_1, cv_99_2, cv_99_3, cv_99_4, cv_99_5, cv_99_6, cv_99_7, cv_99_8, cv_99_9, cv_99_10, cv_99_11, cv_99_12, cv_99_13, cv_99_14, cv_99_15, cv_99_16, cv_99_17, cv_99_18, cv_99_19, cv_99_20, cv_99_21, cv_99_22, cv_99_23, cv_99_24, cv_99_25, cv_99_26, cv_99_27, cv_99_28, cv_99_29, cv_99_30, cv_99_31, cv_99_32, cv_99_33, cv_99_34, cv_99_35, cv_99_36, cv_99_37, cv_99_38, cv_99_39, cv_99_40, cv_99_41, cv_99_42, cv_99_43, cv_99_44, cv_99_45, cv_99_46, ↓reduceIte, true_and, and_true, vok_int, vok_b0, vok_b1, vok_bb, r_backI, r_backV, bb_eq0, Nat.reduceAdd, Nat.reduceMul, Nat.reduceEqDiff, not_true_eq_false, not_false_eq_true, if_true, if_false, false_and, and_false, c17, c98, n_m1_0, n_m1_1, n_m1_2, n_m1_3, n_m1_4, n_m1_5, n_m1_6, n_0_m1, n_0_1, n_0_2, n_0_3, n_0_4, n_0_5, n_0_6, n_1_m1, n_1_0, n_1_2, n_1_3, n_1_4, n_1_5, n_1_6, n_2_m1, n_2_0, n_2_1, n_2_3, n_2_4, n_2_5, n_2_6, n_3_m1, n_3_0, n_3_1, n_3_2, n_3_4, n_3_5, n_3_6, n_4_m1, n_4_0, n_4_1, n_4_2, n_4_3, n_4_5, n_4_6, n_5_m1, n_5_0, n_5_1, n_5_2, n_5_3, n_5_4, n_5_6, n_6_m1, n_6_0, n_6_1, n_6_2, n_6_3, n_6_4, n_6_5, k8, k81, k51]
    have kk : ∀ k, k ≠ 10 → k ≠ 15 → k ≠ 20 → it_up (it_up (it_up m2 99 10 (-1)) 99 15 1) 99 20 (ii n) 99 k = m2 99 k := fun k c1 c2 c3 => by rw [it_up_s, if_neg c3, it_up_s, if_neg c2, it_up_s, if_neg c1]
    have ka : ∀ a, a ≠ 99 → it_up (it_up (it_up m2 99 10 (-1)) 99 15 1) 99 20 (ii n) a = m2 a := fun a c1 => by rw [it_up_f _ _ _ c1, it_up_f _ _ _ c1, it_up_f _ _ _ c1]
    refine c86copy (x := ii (J + 1)) (n := n) (T := chs t) (m0 := it_up (it_up (it_up m2 99 10 (-1)) 99 15 1) 99 20 (ii n)) hn120 (by rw [kk 5 (by decide) (by decide) (by decide), k1.2 5 (by decide) (by decide) (by decide)]; exact q5) (fun j hj => ⟨by rw [ka 102 (by decide), k1.1 102 (by decide) (by decide) (by decide)]; exact qx.2.2.2.1 j hj, chs_lt hch j⟩) (by rw [kk 16 (by decide) (by decide) (by decide)]; exact kj.1) (fun m3 r1 r2 => ?_) n 0 _ (by omega) (fun _ _ => rfl) (fun j hj => absurd hj (Nat.not_lt_zero _))
    have r9 : ∀ k, m3 99 k = it_up (it_up (it_up m2 99 10 (-1)) 99 15 1) 99 20 (ii n) 99 k := fun k => by rw [r1 99 (by decide)]
    refine hW J hJ m3 ⟨fun a c1 c2 c3 c4 => ?_, fun k hk => ?_⟩ ?_ ?_ ?_ ?_ ?_ ⟨?_, fun q hq => ?_⟩ r2
    · rw [r1 a (by omega), ka a c1, k1.1 a c1 c3 (by omega), qa a c1 c2]
    · rw [r9, kk k (by omega) (by omega) (by omega), k1.2 k (by omega) (by omega) (by omega), qk k hk]
    · rw [r9, kk 0 (by decide) (by decide) (by decide), k1.2 0 (by decide) (by decide) (by decide)]; exact q0
    · rw [r9, kk 1 (by decide) (by decide) (by decide), k1.2 1 (by decide) (by decide) (by decide)]; exact q1
    · rw [r9, it_up_s, if_neg (by decide), it_up_s, if_neg (by decide), it_up_same]
    · rw [r9, it_up_s, if_neg (by decide), it_up_same]
    · rw [r9, it_up_same]
    · rw [r9, kk 16 (by decide) (by decide) (by decide)]; exact kj.1
    · rw [r1 107 (by decide), r1 108 (by decide), r1 109 (by decide), ka 107 (by decide), ka 108 (by decide), ka 109 (by decide)]
      exact kj.2 q hq
end
section
variable {Q : im_O → im_M → Prop} {L : Nat} {xs : Nat → Int32} {mi : Nat → Nat → Int32} {rw : Nat → Nat} {o : Nat → Int64} {g z i : Nat} {l5 l6 : Value}
theorem op1 (hL : L ≤ 3072) (hi : i + 6 ≤ L) (hI : it_Inv mi rw) (hK : it_K L xs i g z Q) : iw 30 0 159 [.ref 0, .ref 8, .ref 99, .ref 134, .int (ii i), l5, l6] [] (it_mem L xs mi rw o g z) Q := by
  have hI0 := hI
  obtain ⟨⟨t, t1, t2, t3, t4, t5, t6, t7⟩, i2, i3, i4, i5, i6, cnt, kn, vw, tm, sp, hN, hG, i9, i10, i11⟩ := hI
  have x1 : ¬ (1 : Int32) = 0 := by decide
  have x2 : ¬ (2 : Int32) = 0 := by decide
  have b0 : it_inb L 134 0 := ii_inb (n := 0) (by decide) (by rw [ln_134]; decide)
  have hR : (9 : Nat) = 9 ∨ (9 : Nat) = 11 := Or.inl rfl
  have hn120 : (t.filter (· ≠ 32)).length ≤ 120 := Nat.le_trans (List.length_filter_le _ _) t1
  have i6' := i6
  rcases i6 with ⟨w1, w2, w3⟩ | ⟨k, S, T, w0, w1, w2, w3, w4, -⟩
  · -- none yet
    rw [win_at (by omega) (by omega)] at w1 w2
    have hz : ∀ j, (t.filter (· ≠ 32)).length ≤ j → chs t j = 0 := fun j hj => chs_z hj
    have hnot : ¬ 0 < mi 17 5 := by rw [w1]; decide
    have hx : it_rx 9 (t.filter (· ≠ 32)).length (chs t) false mi := ⟨Or.inl ⟨rfl, rfl, hn120⟩, by rw [bb_f (fun h => by cases h)]; exact i3.2.1, t6, t7, hz, chs_lt t4⟩
    simp only [w0_159, w0_160, w0_161, w44_0, w44_1, w44_2, w44_3, w45_0, w45_1, w45_4, w45_7, w45_10, w45_30, w45_31, w45_32, w45_35, w45_36, w45_39, w45_42, isk_8, cv_8_0, cv_8_1, cv_8_2, cv_8_3, cv_8_4, cv_8_5, cv_8_6, cv_8_7, cv_8_8, isk_9, cv_9_0, cv_9_1, cv_9_2, cv_9_3, cv_9_4, cv_9_5, isk_16, cv_16_0, cv_16_1, cv_16_2, isk_17, cv_17_0, cv_17_1, cv_17_2, cv_17_3, cv_17_4, cv_17_5, ↓reduceIte, true_and, and_true, vok_int, vok_b0, vok_b1, vok_bb, r_backI, r_backV, bb_eq0, Nat.reduceAdd, Nat.reduceMul, Nat.reduceEqDiff, not_true_eq_false, not_false_eq_true, if_true, if_false, false_and, and_false, c17, c98, c46, eq_false hnot]
    refine c48 (d := 3) hx w1 w2 (fun J hJ m1 f1 f17 f22 => ?_) (fun J hJ m1 f1 fc => ?_)
    · -- ill
      have hle : (pR (chs t) (t.filter (· ≠ 32)).length (rps (chs t) (t.filter (· ≠ 32)).length J)).1 ≤ 120 := Nat.le_trans (pR_ok hz (rgo_le hz hJ.1 J (Nat.le_refl _)).2.2.1).1 hn120
      have hne : ¬ ii (pR (chs t) (t.filter (· ≠ 32)).length (rps (chs t) (t.filter (· ≠ 32)).length J)).1 = -1 := ii_m1 (by omega)
      generalize hq : (pR (chs t) (t.filter (· ≠ 32)).length (rps (chs t) (t.filter (· ≠ 32)).length J)).1 = q at *
      have n88 : it_up (it_up (it_up m1 8 8 (ii q)) 9 3 0) 9 4 0 8 8 = ii q := by rw [it_up_f _ _ _ (by decide), it_up_f _ _ _ (by decide), it_up_same]
      have hall : ∀ a, a ≠ 8 → a ≠ 9 → ¬ (17 ≤ a ∧ a ≤ 24) → it_up (it_up (it_up m1 8 8 (ii q)) 9 3 0) 9 4 0 a = mi a := fun a q1 q2 q3 => by rw [it_up_f _ _ _ q2, it_up_f _ _ _ q2, it_up_f _ _ _ q1, f1.1 a q2 q3]
      simp only [↓reduceIte, true_and, and_true, vok_int, vok_b0, vok_b1, vok_bb, r_backI, r_backV, bb_eq0, Nat.reduceAdd, Nat.reduceMul, Nat.reduceEqDiff, not_true_eq_false, not_false_eq_true, if_true, if_false, false_and, and_false, c17, c98, w45_45, w45_48, w45_49, w45_52, w45_55, w45_56, w45_59, w45_60, w45_63, isk_8, cv_8_0, cv_8_1, cv_8_2, cv_8_3, cv_8_4, cv_8_5, cv_8_6, cv_8_7, cv_8_8, isk_9, cv_9_0, cv_9_1, cv_9_2, cv_9_3, cv_9_4, cv_9_5, c47 hR, n88, hne, r_backT (show im_hand 44 3 1 = some 14 from by decide +kernel), w44_14, w44_15, w44_16, w0_164, w0_166, w0_167, isk_99, cv_99_0, cv_99_1, cv_99_2, cv_99_3, cv_99_4, cv_99_5, cv_99_6, cv_99_7, cv_99_8, cv_99_9, cv_99_10, cv_99_11, cv_99_12, cv_99_13, cv_99_14, cv_99_15, cv_99_16, cv_99_17, cv_99_18, cv_99_19, cv_99_20, cv_99_21, cv_99_22, cv_99_23, cv_99_24, cv_99_25, cv_99_26, cv_99_27, cv_99_28, cv_99_29, cv_99_30, cv_99_31, cv_99_32, cv_99_33, cv_99_34, cv_99_35, cv_99_36, cv_99_37, cv_99_38, cv_99_39, cv_99_40, cv_99_41, cv_99_42, cv_99_43, cv_99_44, cv_99_45, cv_99_46]
      refine c86 (d := 24) (t := t) t1 (by rw [hall 99 (by decide) (by decide) (by decide)]; exact t3) t4 (fun j hj => by rw [hall 100 (by decide) (by decide) (by decide)]; exact t5 j hj) (by rw [hall 99 (by decide) (by decide) (by decide)]; exact w3) (fun K hK2 m2 g1 g0 g11 g10 g15 => ?_) (fun K hK2 => absurd hK2 (fun h => by
        have := r_uniq (Or.inl hJ) (Or.inr h)
        subst this
        exact r_not hJ h))
      obtain rfl := r_uniq (Or.inl hJ) (Or.inl hK2)
      simp only [↓reduceIte, true_and, and_true, vok_int, vok_b0, vok_b1, vok_bb, r_backI, r_backV, bb_eq0, Nat.reduceAdd, Nat.reduceMul, Nat.reduceEqDiff, not_true_eq_false, not_false_eq_true, if_true, if_false, false_and, and_false, c17, c98, w0_170, w0_172, w0_173, w0_176, w0_178, w0_181, w0_182, w0_183, w0_185, w0_188, w0_189, w0_190, w0_191, w0_193, w0_194, w0_195, w0_198, w0_199, w0_200, isk_99, cv_99_0, cv_99_1, cv_99_2, cv_99_3, cv_99_4, cv_99_5, cv_99_6, cv_99_7, cv_99_8, cv_99_9, cv_99_10, cv_99_11, cv_99_12, cv_99_13, cv_99_14, cv_99_15, cv_99_16, cv_99_17, cv_99_18, cv_99_19, cv_99_20, cv_99_21, cv_99_22, cv_99_23, cv_99_24, cv_99_25, cv_99_26, cv_99_27, cv_99_28, cv_99_29, cv_99_30, cv_99_31, cv_99_32, cv_99_33, cv_99_34, cv_99_35, cv_99_36, cv_99_37, cv_99_38, cv_99_39, cv_99_40, cv_99_41, cv_99_42, cv_99_43, cv_99_44, cv_99_45, cv_99_46, c82, g0, x2]
      have hg : ∀ a, a ≠ 99 → a ≠ 102 → a ≠ 103 → ¬ (107 ≤ a ∧ a ≤ 110) → m2 a = it_up (it_up (it_up m1 8 8 (ii q)) 9 3 0) 9 4 0 a := g1.1
      refine hK _ _ _ _ _ _ _ (inv_W hI0 w1 (fun a ha => ?_) (fun k hk => ?_) ?_ ?_ ?_ g11 ?_ (Or.inl ⟨?_, ?_, g15⟩)) (by omega) (by omega)
      · rw [hg a (by omega) (by omega) (by omega) (by omega), hall a (by omega) (by omega) (by omega)]
      · rw [g1.2 k hk, hall 99 (by omega) (by omega) (by omega)]
      · rw [hg 9 (by omega) (by omega) (by omega) (by omega), it_up_s, if_neg (by decide), it_up_s, if_neg (by decide), it_up_f _ _ _ (by decide), f1.2 1 (by decide)]
      · rw [hg 9 (by omega) (by omega) (by omega) (by omega), it_up_s, if_neg (by decide), it_up_same]
      · rw [hg 9 (by omega) (by omega) (by omega) (by omega), it_up_same]
      · rw [hg 8 (by omega) (by omega) (by omega) (by omega), n88, g10, hq]
      · rw [win_at (by omega) (by omega), hg 17 (by omega) (by omega) (by omega) (by omega), it_up_f _ _ _ (by decide), it_up_f _ _ _ (by decide), it_up_f _ _ _ (by decide)]; exact f17
      · rw [win_at (by omega) (by omega), hg 22 (by omega) (by omega) (by omega) (by omega), it_up_f _ _ _ (by decide), it_up_f _ _ _ (by decide), it_up_f _ _ _ (by decide)]; exact f22
    · -- well
      have n88 : it_up (it_up (it_up m1 8 8 (-1)) 9 3 0) 9 4 0 8 8 = -1 := by rw [it_up_f _ _ _ (by decide), it_up_f _ _ _ (by decide), it_up_same]
      have n17 : it_up (it_up (it_up m1 8 8 (-1)) 9 3 0) 9 4 0 17 5 = ii (J + 1) := by rw [it_up_f _ _ _ (by decide), it_up_f _ _ _ (by decide), it_up_f _ _ _ (by decide)]; exact fc.1
      have hall : ∀ a, a ≠ 8 → a ≠ 9 → ¬ (17 ≤ a ∧ a ≤ 24) → it_up (it_up (it_up m1 8 8 (-1)) 9 3 0) 9 4 0 a = mi a := fun a q1 q2 q3 => by rw [it_up_f _ _ _ q2, it_up_f _ _ _ q2, it_up_f _ _ _ q1, f1.1 a q2 q3]
      simp only [↓reduceIte, true_and, and_true, vok_int, vok_b0, vok_b1, vok_bb, r_backI, r_backV, bb_eq0, Nat.reduceAdd, Nat.reduceMul, Nat.reduceEqDiff, not_true_eq_false, not_false_eq_true, if_true, if_false, false_and, and_false, c17, c98, w45_45, w45_48, w45_49, w45_52, w45_55, w45_56, w45_59, w45_60, w45_73, w45_74, w45_77, w45_80, w45_83, isk_8, cv_8_0, cv_8_1, cv_8_2, cv_8_3, cv_8_4, cv_8_5, cv_8_6, cv_8_7, cv_8_8, isk_9, cv_9_0, cv_9_1, cv_9_2, cv_9_3, cv_9_4, cv_9_5, isk_16, cv_16_0, cv_16_1, cv_16_2, isk_17, cv_17_0, cv_17_1, cv_17_2, cv_17_3, cv_17_4, cv_17_5, isa_134, ln_134, cv_134, c47 hR, n88, n17, w44_6, w44_7, w44_8, w44_11, w44_12, w44_13, w44_14, w44_15, w44_16, w44_17, w44_18, w0_164, w0_166, w0_167, isk_99, cv_99_0, cv_99_1, cv_99_2, cv_99_3, cv_99_4, cv_99_5, cv_99_6, cv_99_7, cv_99_8, cv_99_9, cv_99_10, cv_99_11, cv_99_12, cv_99_13, cv_99_14, cv_99_15, cv_99_16, cv_99_17, cv_99_18, cv_99_19, cv_99_20, cv_99_21, cv_99_22, cv_99_23, cv_99_24, cv_99_25, cv_99_26, cv_99_27, cv_99_28, cv_99_29, cv_99_30, cv_99_31, cv_99_32, cv_99_33, cv_99_34, cv_99_35, cv_99_36, cv_99_37, cv_99_38, cv_99_39, cv_99_40, cv_99_41, cv_99_42, cv_99_43, cv_99_44, cv_99_45, cv_99_46, b0, k0]
      refine c86 (d := 24) (t := t) t1 (by rw [hall 99 (by decide) (by decide) (by decide)]; exact t3) t4 (fun j hj => by rw [hall 100 (by decide) (by decide) (by decide)]; exact t5 j hj) (by rw [hall 99 (by decide) (by decide) (by decide)]; exact w3) (fun K hK2 => absurd hK2 (fun h => by
        have := r_uniq (Or.inl h) (Or.inr hJ)
        subst this
        exact r_not h hJ)) (fun K hK2 m2 g1 g0 g11 g10 g15 g20 gj gfl => ?_)
      obtain rfl := r_uniq (Or.inr hJ) (Or.inr hK2)
      simp only [↓reduceIte, true_and, and_true, vok_int, vok_b0, vok_b1, vok_bb, r_backI, r_backV, bb_eq0, Nat.reduceAdd, Nat.reduceMul, Nat.reduceEqDiff, not_true_eq_false, not_false_eq_true, if_true, if_false, false_and, and_false, c17, c98, w0_170, w0_172, w0_173, w0_176, w0_178, w0_181, w0_182, w0_183, w0_185, w0_188, w0_189, w0_190, w0_191, w0_193, w0_194, w0_195, w0_198, w0_199, w0_200, isk_99, cv_99_0, cv_99_1, cv_99_2, cv_99_3, cv_99_4, cv_99_5, cv_99_6, cv_99_7, cv_99_8, cv_99_9, cv_99_10, cv_99_11, cv_99_12, cv_99_13, cv_99_14, cv_99_15, cv_99_16, cv_99_17, cv_99_18, cv_99_19, cv_99_20, cv_99_21, cv_99_22, cv_99_23, cv_99_24, cv_99_25, cv_99_26, cv_99_27, cv_99_28, cv_99_29, cv_99_30, cv_99_31, cv_99_32, cv_99_33, cv_99_34, cv_99_35, cv_99_36, cv_99_37, cv_99_38, cv_99_39, cv_99_40, cv_99_41, cv_99_42, cv_99_43, cv_99_44, cv_99_45, cv_99_46, isa_134, ln_134, cv_134, c82, g0, b0, k0, va_up_self, lg_self]
      have hg : ∀ a, a ≠ 99 → a ≠ 102 → a ≠ 103 → ¬ (107 ≤ a ∧ a ≤ 110) → m2 a = it_up (it_up (it_up m1 8 8 (-1)) 9 3 0) 9 4 0 a := g1.1
      have hg2 : ∀ a, 17 ≤ a → a ≤ 24 → m2 a = m1 a := fun a q1 q2 => by rw [hg a (by omega) (by omega) (by omega) (by omega), it_up_f _ _ _ (by omega), it_up_f _ _ _ (by omega), it_up_f _ _ _ (by omega)]
      refine hK _ _ _ _ _ _ _ (inv_W hI0 w1 (fun a ha => ?_) (fun k hk => ?_) ?_ ?_ ?_ g11 ?_ ?_) (by omega) (by omega)
      · rw [hg a (by omega) (by omega) (by omega) (by omega), hall a (by omega) (by omega) (by omega)]
      · rw [g1.2 k hk, hall 99 (by omega) (by omega) (by omega)]
      · rw [hg 9 (by omega) (by omega) (by omega) (by omega), it_up_s, if_neg (by decide), it_up_s, if_neg (by decide), it_up_f _ _ _ (by decide), f1.2 1 (by decide)]
      · rw [hg 9 (by omega) (by omega) (by omega) (by omega), it_up_s, if_neg (by decide), it_up_same]
      · rw [hg 9 (by omega) (by omega) (by omega) (by omega), it_up_same]
      · rw [hg 8 (by omega) (by omega) (by omega) (by omega), n88, g10]
      · rw [gj.1]
        refine wfl_of hz hn120 hJ ?_ (fun q hq => ?_) (fun j hj => ?_) g20 g15
        · unfold it_cj
          rw [win_at (a := 17) (by omega) (by omega), win_at (a := 18) (by omega) (by omega), win_at (a := 19) (by omega) (by omega), win_at (a := 20) (by omega) (by omega), win_at (a := 21) (by omega) (by omega), win_at (a := 22) (by omega) (by omega), win_at (a := 23) (by omega) (by omega), win_at (a := 24) (by omega) (by omega), hg2 17 (by omega) (by omega), hg2 18 (by omega) (by omega), hg2 19 (by omega) (by omega), hg2 20 (by omega) (by omega), hg2 21 (by omega) (by omega), hg2 22 (by omega) (by omega), hg2 23 (by omega) (by omega), hg2 24 (by omega) (by omega)]
          exact fc
        · rw [win_at (a := 107) (by omega) (by omega), win_at (a := 108) (by omega) (by omega), win_at (a := 109) (by omega) (by omega)]
          exact gj.2 q hq
        · rw [win_at (a := 110) (by omega) (by omega)]
          exact gfl j hj
  · -- there is one
    rw [win_at (by omega) (by omega)] at w2
    have hthere : 0 < mi 17 5 := by rw [w2]; exact (ii_lt (a := 0) (by decide) (by omega)).mpr (by omega)
    have n15 : it_up (it_up mi 9 3 0) 9 4 0 99 15 = 1 := by rw [it_up_f _ _ _ (by decide), it_up_f _ _ _ (by decide)]; exact w4
    simp only [w0_159, w0_160, w0_161, w44_0, w44_1, w44_2, w44_3, w45_0, w45_1, w45_4, w45_7, w45_10, w45_13, w45_14, w45_17, w45_20, isk_8, cv_8_0, cv_8_1, cv_8_2, cv_8_3, cv_8_4, cv_8_5, cv_8_6, cv_8_7, cv_8_8, isk_9, cv_9_0, cv_9_1, cv_9_2, cv_9_3, cv_9_4, cv_9_5, isk_16, cv_16_0, cv_16_1, cv_16_2, isk_17, cv_17_0, cv_17_1, cv_17_2, cv_17_3, cv_17_4, cv_17_5, ↓reduceIte, true_and, and_true, vok_int, vok_b0, vok_b1, vok_bb, r_backI, r_backV, bb_eq0, Nat.reduceAdd, Nat.reduceMul, Nat.reduceEqDiff, not_true_eq_false, not_false_eq_true, if_true, if_false, false_and, and_false, c17, c98, c46, eq_true hthere, c47 hR, r_backT (show im_hand 44 3 0 = some 11 from by decide +kernel), w44_11, w44_12, w44_13, w0_164, w0_166, w0_167, w0_170, w0_172, w0_173, w0_176, w0_178, w0_181, w0_182, w0_183, w0_185, w0_188, w0_189, w0_190, w0_191, w0_193, w0_194, w0_195, w0_198, w0_199, w0_200, isk_99, cv_99_0, cv_99_1, cv_99_2, cv_99_3, cv_99_4, cv_99_5, cv_99_6, cv_99_7, cv_99_8, cv_99_9, cv_99_10, cv_99_11, cv_99_12, cv_99_13, cv_99_14, cv_99_15, cv_99_16, cv_99_17, cv_99_18, cv_99_19, cv_99_20, cv_99_21, cv_99_22, cv_99_23, cv_99_24, cv_99_25, cv_99_26, cv_99_27, cv_99_28, cv_99_29, cv_99_30, cv_99_31, cv_99_32, cv_99_33, cv_99_34, cv_99_35, cv_99_36, cv_99_37, cv_99_38, cv_99_39, cv_99_40, cv_99_41, cv_99_42, cv_99_43, cv_99_44, cv_99_45, cv_99_46, c86c n15, c82, it_up_same, x1]
    refine hK _ _ _ _ _ _ _ ?_ (by omega) (by omega)
    simp (disch := omega) only [it_Inv, it_up_f, win_out, it_up_s, Nat.reduceEqDiff, if_false, if_true]
    exact ⟨tx_nil, i2, i3, i4, i5, i6', cnt, kn, vw, tm, sp, hN, hG, i9, i10, i11⟩
end
