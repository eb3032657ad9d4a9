/-! query. -/
/-- a condition of a query does not speak of who acts -/
def ind (c : CV) : Prop := ∀ f f' : Int32 → Int32 → Prop, (∀ k v, k ≠ 7 → k ≠ 8 → k ≠ 9 → (f k v ↔ f' k v)) → (c.2 f ↔ c.2 f')
theorem ind_F {k v : Int32} (h7 : k ≠ 7) (h8 : k ≠ 8) (h9 : k ≠ 9) : ind (cvF k v) := fun _ _ h => h k v h7 h8 h9
theorem ind_N {a : CV} (h : ind a) : ind (cvN a) := fun f f' hf => not_congr (h f f' hf)
theorem ind_A {a b : CV} (h1 : ind a) (h2 : ind b) : ind (cvA a b) := fun f f' hf => and_congr (h1 f f' hf) (h2 f f' hf)
theorem ind_O {a b : CV} (h1 : ind a) (h2 : ind b) : ind (cvO a b) := fun f f' hf => or_congr (h1 f f' hf) (h2 f f' hf)
theorem ind_pF {T : Nat → Nat} {p : Nat} {c : CV} (h : (pF true T p).2 = some c) : ind c := by
  unfold pF pD at h
  repeat' split at h
  all_goals first
    | (cases h; done)
    | (cases h; exact ind_F (by decide) (by decide) (by decide))
    | (rename_i q _; exact absurd q.2 (by decide))
    | skip
  all_goals simp_all
theorem ind_pL {T : Nat → Nat} {sep : Nat} {op : CV → CV → CV} {f : Nat → PR} (hop : ∀ a b, ind a → ind b → ind (op a b)) (hf : ∀ p c, (f p).2 = some c → ind c) : ∀ (m p : Nat) (c0 c : CV), ind c0 → (pL T sep op f m p c0).2 = some c → ind c := by
  intro m
  induction m with
  | zero => intro p c0 c h0 hc; cases hc; exact h0
  | succ m ih =>
    intro p c0 c h0 hc
    by_cases h : T p = sep
    · cases hb : (f (p + 1)).2 with
      | none => rw [pL_n h hb] at hc; cases hc
      | some b =>
        rw [pL_s h hb] at hc
        exact ih _ _ c (hop _ _ h0 (hf _ _ hb)) hc
    · rw [pL_0 h] at hc
      cases hc
      exact h0
theorem ind_pS {T : Nat → Nat} {sep n : Nat} {op : CV → CV → CV} {f : Nat → PR} (hop : ∀ a b, ind a → ind b → ind (op a b)) (hf : ∀ p c, (f p).2 = some c → ind c) {p : Nat} {c : CV} (hc : (pS T sep op f n p).2 = some c) : ind c := by
  cases hb : (f p).2 with
  | none => rw [pS_n hb] at hc; cases hc
  | some b =>
    rw [pS_s hb] at hc
    exact ind_pL hop hf _ _ _ c (hf _ _ hb) hc
theorem ind_pT {T : Nat → Nat} {n : Nat} : ∀ (r p : Nat) (c : CV), (pT true T n r p).2 = some c → ind c := by
  intro r
  induction r with
  | zero =>
    intro p c hc
    by_cases h : T p = 33 ∨ T p = 40
    · rw [pT_0 h] at hc; cases hc
    · rw [pT_f (fun q => h (Or.inl q)) (fun q => h (Or.inr q))] at hc
      exact ind_pF hc
  | succ r ih =>
    intro p c hc
    by_cases h : T p = 33
    · cases hb : (pT true T n r (p + 1)).2 with
      | none => rw [pT_nn h hb] at hc; cases hc
      | some b =>
        rw [pT_ns h hb] at hc
        cases hc
        exact ind_N (ih _ _ hb)
    by_cases h2 : T p = 40
    · cases hb : (pC true T n r (p + 1)).2 with
      | none => rw [pT_pn h2 hb] at hc; cases hc
      | some b =>
        have hB : ind b := ind_pS (fun a b => ind_O) (fun p c hc => ind_pS (fun a b => ind_A) ih hc) hb
        by_cases hq : T (pC true T n r (p + 1)).1 = 41
        · rw [pT_ps h2 hb hq] at hc
          cases hc
          exact hB
        · rw [pT_pe h2 hb hq] at hc; cases hc
    · rw [pT_f h h2] at hc
      exact ind_pF hc
theorem ind_pC {T : Nat → Nat} {n r p : Nat} {c : CV} (hc : (pC true T n r p).2 = some c) : ind c := ind_pS (fun a b => ind_O) (fun p c hc => ind_pS (fun a b => ind_A) (fun p c hc => ind_pT r p c hc) hc) hc
/-- what a query asks of an issue -/
def cqn (n : Nat) (T : Nat → Nat) (st pr ow : Int32) : Prop := n = 0 ∨ ∃ c, (pC true T n 6 0).2 = some c ∧ c.2 (fun k v => hfit k v st pr ow 0 0)
theorem fit_ind {k v st pr ow ac ro ac' ro' : Int32} (h7 : k ≠ 7) (h8 : k ≠ 8) (h9 : k ≠ 9) : hfit k v st pr ow ac ro ↔ hfit k v st pr ow ac' ro' := by
  unfold hfit
  rw [if_neg h7, if_neg h7, if_neg h8, if_neg h8, if_neg h9, if_neg h9]
theorem cq_val {n : Nat} {T : Nat → Nat} {c : CV} (hn : n ≠ 0) (hc : (pC true T n 6 0).2 = some c) (st pr ow ac ro : Int32) : c.2 (fun k v => hfit k v st pr ow ac ro) ↔ cqn n T st pr ow := by
  have hi := ind_pC hc (fun k v => hfit k v st pr ow ac ro) (fun k v => hfit k v st pr ow 0 0) (fun k v h7 h8 h9 => fit_ind h7 h8 h9)
  rw [hi]
  constructor
  · intro h; exact Or.inr ⟨c, hc, h⟩
  · rintro (h | ⟨c', h1, h2⟩)
    · exact absurd h hn
    · rw [hc] at h1
      cases h1
      exact h2
/-- the query can be asked -/
def wll (n : Nat) (T : Nat → Nat) : Prop := n = 0 ∨ ((pC true T n 6 0).1 = n ∧ ∃ c, (pC true T n 6 0).2 = some c)
section
variable {d : Nat} {Q : im_O → im_M → Prop} {L : Nat} {xs : Nat → Int32} {mi : Nat → Nat → Int32} {rw : Nat → Nat} {o : Nat → Int64} {g z : Nat}
variable {n : Nat} {T : Nat → Nat}
theorem c61 {C : Nat} (hC : it_isk 1 C = true) : iw d 61 0 [.ref C] [] (it_mem L xs mi rw o g z) Q ↔ Q (.inl none) (it_mem L xs (it_up mi C 2 0) rw o g z) := by
  simp only [w61_0, w61_1, w61_2, w61_5, ↓reduceIte, true_and, and_true, vok_int, vok_b0, vok_b1, vok_bb, r_backI, r_backV, bb_eq0, Nat.reduceAdd, Nat.reduceMul, Nat.reduceEqDiff, not_true_eq_false, not_false_eq_true, if_true, if_false, false_and, and_false, c17, c98, hC]
theorem c78 {v2 : Value} (hx : it_rx 11 n T true mi) (hQ : ∀ m', it_rf 11 13 0 mi m' → (wll n T → (∀ st pr ow ac ro, hC (m' 14) (m' 15) st pr ow ac ro 0 (m' 13 2).toNatClampNeg ↔ cqn n T st pr ow) → (m' 13 2 = ii (m' 13 2).toNatClampNeg ∧ (m' 13 2).toNatClampNeg ≤ 40) → Q (.inl (some (.int (-1)))) (it_mem L xs m' rw o g z)) ∧ (¬ wll n T → Q (.inl (some (.int (ii (pC true T n 6 0).1)))) (it_mem L xs m' rw o g z))) : iw (d + 3 * 6 + 1 + 1 + 1 + 1 + 1) 78 0 [.ref 11, .ref 13, v2] [] (it_mem L xs mi rw o g z) Q := by
  have hRC : it_rc 11 13 := Or.inr ⟨rfl, rfl⟩
  have hR : (11 : Nat) = 9 ∨ (11 : Nat) = 11 := Or.inr rfl
  have hf0 : it_rf 11 13 0 mi (it_up (it_up mi 11 5 0) 13 2 0) := by
    refine ⟨fun a q1 q2 _ _ => ?_, fun k hk => ?_, fun j hj => absurd hj (Nat.not_lt_zero _)⟩
    · rw [it_up_f _ _ _ q2, it_up_f _ _ _ q1]
    · rw [it_up_f _ _ _ (by decide), it_up_s, if_neg hk]
  have hx0 := rx_fr hx (by decide) hf0
  have hz := hx.2.2.2.2.1
  have h4 : it_up (it_up mi 11 5 0) 13 2 0 11 4 = ii n := hx0.2.2.1
  have h50 : it_up (it_up mi 11 5 0) 13 2 0 11 5 = ii 0 := by rw [it_up_f _ _ _ (by decide), it_up_same]; rfl
  have hn40 : n ≤ 40 := by rcases hx.1 with h | h <;> omega
  by_cases hn : n = 0
  · have e0 : ii n = 0 := by rw [hn]; rfl
    have e2 : it_up (it_up mi 11 5 0) 13 2 0 13 2 = 0 := it_up_same _ _ _ _
    have hfin := (hQ _ hf0).1 (Or.inl hn) (fun st pr ow ac ro => by
      rw [e2]
      exact ⟨fun _ => Or.inl hn, fun _ => hC_none⟩) (by rw [e2]; exact ⟨rfl, by decide⟩)
    simp only [w78_0, w78_1, w78_2, w78_5, w78_6, w78_9, w78_10, w78_13, w78_36, w78_37, w78_40, w78_41, w78_42, w78_43, w78_46, w78_47, w78_50, w78_51, w78_54, isk_11, cv_11_0, cv_11_1, cv_11_2, cv_11_3, cv_11_4, cv_11_5, isk_13, cv_13_0, cv_13_1, cv_13_2, ↓reduceIte, true_and, and_true, vok_int, vok_b0, vok_b1, vok_bb, r_backI, r_backV, bb_eq0, Nat.reduceAdd, Nat.reduceMul, Nat.reduceEqDiff, not_true_eq_false, not_false_eq_true, if_true, if_false, false_and, and_false, c17, c98, n_m1_0, n_m1_1, n_m1_2, n_m1_3, n_m1_4, n_m1_5, n_m1_6, n_0_m1, n_0_1, n_0_2, n_0_3, n_0_4, n_0_5, n_0_6, n_1_m1, n_1_0, n_1_2, n_1_3, n_1_4, n_1_5, n_1_6, n_2_m1, n_2_0, n_2_1, n_2_3, n_2_4, n_2_5, n_2_6, n_3_m1, n_3_0, n_3_1, n_3_2, n_3_4, n_3_5, n_3_6, n_4_m1, n_4_0, n_4_1, n_4_2, n_4_3, n_4_5, n_4_6, n_5_m1, n_5_0, n_5_1, n_5_2, n_5_3, n_5_4, n_5_6, n_6_m1, n_6_0, n_6_1, n_6_2, n_6_3, n_6_4, n_6_5, c61 isk_13, h4, eq_true e0]
    exact hfin
  · have e0 : ¬ ii n = 0 := fun q => hn ((ii_inj (b := 0) (by omega) (by decide)).mp q)
    simp only [w78_0, w78_1, w78_2, w78_5, w78_6, w78_9, w78_10, w78_13, w78_16, w78_17, w78_18, w78_19, isk_11, cv_11_0, cv_11_1, cv_11_2, cv_11_3, cv_11_4, cv_11_5, isk_13, cv_13_0, cv_13_1, cv_13_2, ↓reduceIte, true_and, and_true, vok_int, vok_b0, vok_b1, vok_bb, r_backI, r_backV, bb_eq0, Nat.reduceAdd, Nat.reduceMul, Nat.reduceEqDiff, not_true_eq_false, not_false_eq_true, if_true, if_false, false_and, and_false, c17, c98, n_m1_0, n_m1_1, n_m1_2, n_m1_3, n_m1_4, n_m1_5, n_m1_6, n_0_m1, n_0_1, n_0_2, n_0_3, n_0_4, n_0_5, n_0_6, n_1_m1, n_1_0, n_1_2, n_1_3, n_1_4, n_1_5, n_1_6, n_2_m1, n_2_0, n_2_1, n_2_3, n_2_4, n_2_5, n_2_6, n_3_m1, n_3_0, n_3_1, n_3_2, n_3_4, n_3_5, n_3_6, n_4_m1, n_4_0, n_4_1, n_4_2, n_4_3, n_4_5, n_4_6, n_5_m1, n_5_0, n_5_1, n_5_2, n_5_3, n_5_4, n_5_6, n_6_m1, n_6_0, n_6_1, n_6_2, n_6_3, n_6_4, n_6_5, c61 isk_13, h4, e0]
    refine rcc hRC (ra hRC (rt hRC 6 (by decide) d)) 0 0 _ _ _ hx0 (Nat.zero_le _) h50 (it_up_same _ _ _ _) (Nat.le_refl _) (fun m1 g1 g2 => ⟨fun hb => ?_, fun b hb g3 => ?_⟩)
    · have hf1 := rf_trans (Nat.le_refl _) hf0 g1
      have hfin := (hQ m1 hf1).2 (by
        rintro (h | ⟨-, c, hc⟩)
        · exact hn h
        · rw [hb] at hc; cases hc)
      simp only [↓reduceIte, true_and, and_true, vok_int, vok_b0, vok_b1, vok_bb, r_backI, r_backV, bb_eq0, Nat.reduceAdd, Nat.reduceMul, Nat.reduceEqDiff, not_true_eq_false, not_false_eq_true, if_true, if_false, false_and, and_false, c17, c98, w78_22, w78_25, w78_26, w78_29, w78_30, w78_33, w78_36, w78_37, w78_40, w78_41, w78_42, w78_43, w78_46, w78_47, w78_50, w78_51, w78_54, isk_11, cv_11_0, cv_11_1, cv_11_2, cv_11_3, cv_11_4, cv_11_5, n_m1_0, n_m1_1, n_m1_2, n_m1_3, n_m1_4, n_m1_5, n_m1_6, n_0_m1, n_0_1, n_0_2, n_0_3, n_0_4, n_0_5, n_0_6, n_1_m1, n_1_0, n_1_2, n_1_3, n_1_4, n_1_5, n_1_6, n_2_m1, n_2_0, n_2_1, n_2_3, n_2_4, n_2_5, n_2_6, n_3_m1, n_3_0, n_3_1, n_3_2, n_3_4, n_3_5, n_3_6, n_4_m1, n_4_0, n_4_1, n_4_2, n_4_3, n_4_5, n_4_6, n_5_m1, n_5_0, n_5_1, n_5_2, n_5_3, n_5_4, n_5_6, n_6_m1, n_6_0, n_6_1, n_6_2, n_6_3, n_6_4, n_6_5, g2]
      exact hfin
    · have hf1 := rf_trans (Nat.le_refl _) hf0 g1
      obtain ⟨f1, f2, f3⟩ := pC_ok (qq := true) hz 6 0 (Nat.zero_le _)
      obtain ⟨f4, f5⟩ := f3 b hb
      have h41 : m1 11 4 = ii n := (rx_fr hx (by decide) hf1).2.2.1
      have q1 : m1 13 2 = ii b.1.length := by rw [g3.1, Nat.zero_add]
      have q2 : (m1 13 2).toNatClampNeg = b.1.length := by rw [q1]; exact ii_clamp (by omega)
      by_cases hq : (pC true T n 6 0).1 = n
      · have e9 : ii (pC true T n 6 0).1 = ii n := by rw [hq]
        have hfin := (hQ m1 hf1).1 (Or.inr ⟨hq, b, hb⟩) (fun st pr ow ac ro => by
          rw [q2]
          have h1 := hC_cv (K := m1 14) (V := m1 15) (st := st) (pr := pr) (ow := ow) (ac := ac) (ro := ro) (a := 0) (gd_pC (e := 1) (by decide) hb) g3.2
          rw [Nat.zero_add] at h1
          exact h1.trans (cq_val hn hb st pr ow ac ro)) (by rw [q2]; exact ⟨q1, by omega⟩)
        simp only [↓reduceIte, true_and, and_true, vok_int, vok_b0, vok_b1, vok_bb, r_backI, r_backV, bb_eq0, Nat.reduceAdd, Nat.reduceMul, Nat.reduceEqDiff, not_true_eq_false, not_false_eq_true, if_true, if_false, false_and, and_false, c17, c98, w78_22, w78_25, w78_26, w78_29, w78_30, w78_33, w78_36, w78_37, w78_40, w78_41, w78_42, w78_43, w78_46, w78_47, w78_50, w78_51, w78_54, isk_11, cv_11_0, cv_11_1, cv_11_2, cv_11_3, cv_11_4, cv_11_5, n_m1_0, n_m1_1, n_m1_2, n_m1_3, n_m1_4, n_m1_5, n_m1_6, n_0_m1, n_0_1, n_0_2, n_0_3, n_0_4, n_0_5, n_0_6, n_1_m1, n_1_0, n_1_2, n_1_3, n_1_4, n_1_5, n_1_6, n_2_m1, n_2_0, n_2_1, n_2_3, n_2_4, n_2_5, n_2_6, n_3_m1, n_3_0, n_3_1, n_3_2, n_3_4, n_3_5, n_3_6, n_4_m1, n_4_0, n_4_1, n_4_2, n_4_3, n_4_5, n_4_6, n_5_m1, n_5_0, n_5_1, n_5_2, n_5_3, n_5_4, n_5_6, n_6_m1, n_6_0, n_6_1, n_6_2, n_6_3, n_6_4, n_6_5, g2, h41, eq_true e9]
        exact hfin
      · have e9 : ¬ ii (pC true T n 6 0).1 = ii n := by rw [ii_inj (by omega) (by omega)]; exact hq
        have hfin := (hQ m1 hf1).2 (by
          rintro (h | ⟨h, -⟩)
          · exact hn h
          · exact hq h)
        simp only [↓reduceIte, true_and, and_true, vok_int, vok_b0, vok_b1, vok_bb, r_backI, r_backV, bb_eq0, Nat.reduceAdd, Nat.reduceMul, Nat.reduceEqDiff, not_true_eq_false, not_false_eq_true, if_true, if_false, false_and, and_false, c17, c98, w78_22, w78_25, w78_26, w78_29, w78_30, w78_33, w78_36, w78_37, w78_40, w78_41, w78_42, w78_43, w78_46, w78_47, w78_50, w78_51, w78_54, isk_11, cv_11_0, cv_11_1, cv_11_2, cv_11_3, cv_11_4, cv_11_5, n_m1_0, n_m1_1, n_m1_2, n_m1_3, n_m1_4, n_m1_5, n_m1_6, n_0_m1, n_0_1, n_0_2, n_0_3, n_0_4, n_0_5, n_0_6, n_1_m1, n_1_0, n_1_2, n_1_3, n_1_4, n_1_5, n_1_6, n_2_m1, n_2_0, n_2_1, n_2_3, n_2_4, n_2_5, n_2_6, n_3_m1, n_3_0, n_3_1, n_3_2, n_3_4, n_3_5, n_3_6, n_4_m1, n_4_0, n_4_1, n_4_2, n_4_3, n_4_5, n_4_6, n_5_m1, n_5_0, n_5_1, n_5_2, n_5_3, n_5_4, n_5_6, n_6_m1, n_6_0, n_6_1, n_6_2, n_6_3, n_6_4, n_6_5, g2, h41, e9]
        exact hfin
end
