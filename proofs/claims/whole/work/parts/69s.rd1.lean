/-! The class's reader: its small steps. -/
/-- a text that is being read: Rd the reader, n how long, T its characters -/
def it_rx (Rd n : Nat) (T : Nat → Nat) (qq : Bool) (mi : Nat → Nat → Int32) : Prop :=
  ((Rd = 9 ∧ qq = false ∧ n ≤ 120) ∨ (Rd = 11 ∧ qq = true ∧ n ≤ 40)) ∧ mi Rd 1 = bb (qq = true) ∧ mi Rd 4 = ii n ∧ (∀ j, j < n → mi (Rd + 1) j = ii (T j)) ∧ (∀ j, n ≤ j → T j = 0) ∧ ∀ j, T j < 128
/-- what reading leaves as it is; C the code that is written, from place s on -/
def it_rf (Rd C s : Nat) (mi mi' : Nat → Nat → Int32) : Prop := (∀ a, a ≠ Rd → a ≠ C → a ≠ C + 1 → a ≠ C + 2 → mi' a = mi a) ∧ (∀ k, k ≠ 5 → mi' Rd k = mi Rd k) ∧ ∀ j, j < s → mi' (C + 1) j = mi (C + 1) j ∧ mi' (C + 2) j = mi (C + 2) j
/-- the code holds these steps from place s on -/
def it_cd (C s : Nat) (l : List (Int32 × Int32)) (mi : Nat → Nat → Int32) : Prop := mi C 2 = ii (s + l.length) ∧ ∀ i, i < l.length → mi (C + 1) (s + i) = (l.getD i (0, 0)).1 ∧ mi (C + 2) (s + i) = (l.getD i (0, 0)).2
theorem rf_refl {Rd C s : Nat} {mi : Nat → Nat → Int32} : it_rf Rd C s mi mi := ⟨fun _ _ _ _ _ => rfl, fun _ _ => rfl, fun _ _ => ⟨rfl, rfl⟩⟩
theorem rf_trans {Rd C s k : Nat} {m1 m2 m3 : Nat → Nat → Int32} (hk : s ≤ k) (h1 : it_rf Rd C s m1 m2) (h2 : it_rf Rd C k m2 m3) : it_rf Rd C s m1 m3 := by
  refine ⟨fun a q1 q2 q3 q4 => (h2.1 a q1 q2 q3 q4).trans (h1.1 a q1 q2 q3 q4), fun j hj => (h2.2.1 j hj).trans (h1.2.1 j hj), fun j hj => ?_⟩
  obtain ⟨a1, a2⟩ := h1.2.2 j hj
  obtain ⟨b1, b2⟩ := h2.2.2 j (by omega)
  exact ⟨b1.trans a1, b2.trans a2⟩
theorem rx_fr {Rd C s n : Nat} {T : Nat → Nat} {qq : Bool} {mi mi' : Nat → Nat → Int32} (h : it_rx Rd n T qq mi) (hC : 13 ≤ C) (hf : it_rf Rd C s mi mi') : it_rx Rd n T qq mi' := by
  obtain ⟨h1, h2, h3, h4, h5, h6⟩ := h
  have hR : Rd = 9 ∨ Rd = 11 := by rcases h1 with h | h <;> omega
  refine ⟨h1, ?_, ?_, fun j hj => ?_, h5, h6⟩
  · rw [hf.2.1 1 (by decide)]; exact h2
  · rw [hf.2.1 4 (by decide)]; exact h3
  · rw [hf.1 (Rd + 1) (by omega) (by omega) (by omega) (by omega)]; exact h4 j hj
theorem rf_at {Rd C s : Nat} {x : Int32} {mi : Nat → Nat → Int32} (hRC : Rd + 2 ≤ C) : it_rf Rd C s mi (it_up mi Rd 5 x) := by
  refine ⟨fun a q1 _ _ _ => it_up_f _ _ _ q1, fun k hk => by rw [it_up_s, if_neg hk], fun j _ => ?_⟩
  rw [it_up_f _ _ _ (by omega), it_up_f _ _ _ (by omega)]
  exact ⟨rfl, rfl⟩
theorem dgt {a lo m : Nat} (ha : a < 128) (hl : lo < 128) (hm : m < 128) : (0 ≤ ii a - ii lo ∧ ii a - ii lo < ii m) ↔ lo ≤ a ∧ a < lo + m := by
  constructor
  · intro h
    obtain ⟨k, hk, e⟩ := below (b := m) rfl (by omega) h
    have e2 : ii a = ii (k + lo) := by
      rw [← ii_add, ← e, Int32.sub_add_cancel]
    have := (ii_inj (by omega) (by omega)).mp e2
    omega
  · intro h
    rw [ii_sub h.1]
    exact of_eq_true (bel (x := ii m) rfl (by omega) (by omega))
section
variable {d : Nat} {Q : im_O → im_M → Prop} {L : Nat} {xs : Nat → Int32} {mi : Nat → Nat → Int32} {rw : Nat → Nat} {o : Nat → Int64} {g z : Nat}
variable {Rd n : Nat} {T : Nat → Nat} {qq : Bool}
theorem rd_k (h : Rd = 9 ∨ Rd = 11) : it_isk 0 Rd = true := by
  rcases h with rfl | rfl
  · exact isk_9
  · exact isk_11
theorem rd_0 (h : Rd = 9 ∨ Rd = 11) : it_cv xs mi rw o Rd 0 = .ref (Rd + 1) := by rcases h with rfl | rfl <;> rfl
theorem rd_1 (h : Rd = 9 ∨ Rd = 11) : it_cv xs mi rw o Rd 1 = .int (mi Rd 1) := by rcases h with rfl | rfl <;> rfl
theorem rd_2 (h : Rd = 9 ∨ Rd = 11) : it_cv xs mi rw o Rd 2 = .ref (if Rd = 9 then 1 else 2) := by rcases h with rfl | rfl <;> rfl
theorem rd_4 (h : Rd = 9 ∨ Rd = 11) : it_cv xs mi rw o Rd 4 = .int (mi Rd 4) := by rcases h with rfl | rfl <;> rfl
theorem rd_5 (h : Rd = 9 ∨ Rd = 11) : it_cv xs mi rw o Rd 5 = .int (mi Rd 5) := by rcases h with rfl | rfl <;> rfl
theorem rd_a (h : Rd = 9 ∨ Rd = 11) : it_isa .char (Rd + 1) = true := by
  rcases h with rfl | rfl
  · exact isa_10
  · exact isa_12
theorem rd_c {j : Nat} (h : Rd = 9 ∨ Rd = 11) : it_cv xs mi rw o (Rd + 1) j = .int (mi (Rd + 1) j) := it_cva (by omega) (rd_a h) (Or.inr (Or.inl rfl))
theorem rx_r (h : it_rx Rd n T qq mi) : Rd = 9 ∨ Rd = 11 := by
  rcases h.1 with h | h <;> omega
theorem rx_n (h : it_rx Rd n T qq mi) : n ≤ 120 := by
  rcases h.1 with h | h <;> omega
theorem c51 {p : Nat} (hx : it_rx Rd n T qq mi) (hp : p ≤ n) (h5 : mi Rd 5 = ii p) : iw d 51 0 [.ref Rd] [] (it_mem L xs mi rw o g z) Q ↔ Q (.inl (some (.int (ii (T p))))) (it_mem L xs mi rw o g z) := by
  have hR := rx_r hx
  have hn := rx_n hx
  obtain ⟨h1, h2, h3, h4, hz, h6⟩ := hx
  have vk : it_vok .char (ii (T p)) := vok_ch (by have := h6 p; omega)
  by_cases hpn : p < n
  · have e1 : ¬ ii n ≤ ii p := by rw [ii_le (by omega) (by omega)]; omega
    have e2 : (ii p).toNatClampNeg = p := ii_clamp (by omega)
    have b1 : it_inb L (Rd + 1) (ii p) := ii_inb (by omega) (by rcases h1 with h | h <;> (obtain ⟨rfl, -, hn2⟩ := h; first | (rw [ln_10]; omega) | (rw [ln_12]; omega)))
    simp only [w51_0, w51_1, w51_4, w51_5, w51_8, w51_11, w51_12, w51_15, w51_16, w51_19, w51_20, w51_23, w51_24, ↓reduceIte, true_and, and_true, vok_int, vok_b0, vok_b1, vok_bb, r_backI, r_backV, bb_eq0, Nat.reduceAdd, Nat.reduceMul, Nat.reduceEqDiff, not_true_eq_false, not_false_eq_true, if_true, if_false, false_and, and_false, c17, c98, rd_k hR, rd_0 hR, rd_4 hR, rd_5 hR, rd_a hR, rd_c hR, h5, h3, e1, e2, b1, h4 p hpn, vk]
  · have e1 : ii n ≤ ii p := by rw [ii_le (by omega) (by omega)]; omega
    have e0 : T p = 0 := hz p (by omega)
    have v0 : it_vok .char 0 := by rw [e0] at vk; exact vk
    rw [e0]
    simp only [w51_0, w51_1, w51_4, w51_5, w51_8, w51_11, w51_12, w51_15, w51_16, w51_19, w51_20, w51_23, w51_24, ↓reduceIte, true_and, and_true, vok_int, vok_b0, vok_b1, vok_bb, r_backI, r_backV, bb_eq0, Nat.reduceAdd, Nat.reduceMul, Nat.reduceEqDiff, not_true_eq_false, not_false_eq_true, if_true, if_false, false_and, and_false, c17, c98, rd_k hR, rd_4 hR, rd_5 hR, h5, h3, e1, v0]
    exact Iff.rfl
theorem c52t {p c : Nat} {x : Int32} (hx : it_rx Rd n T qq mi) (hp : p ≤ n) (h5 : mi Rd 5 = ii p) (hc : x = ii c) (h : T p = c) : iw (d + 1) 52 0 [.ref Rd, .int x] [] (it_mem L xs mi rw o g z) Q ↔ Q (.inl (some (.int 1))) (it_mem L xs (it_up mi Rd 5 (ii (p + 1))) rw o g z) := by
  have hR := rx_r hx
  have e1 : ii p + 1 = ii (p + 1) := ii_add (b := 1)
  subst hc
  subst h
  simp only [w52_0, w52_1, w52_4, w52_5, w52_8, w52_9, w52_10, w52_11, w52_12, w52_15, w52_16, w52_17, w52_20, w52_21, ↓reduceIte, true_and, and_true, vok_int, vok_b0, vok_b1, vok_bb, r_backI, r_backV, bb_eq0, Nat.reduceAdd, Nat.reduceMul, Nat.reduceEqDiff, not_true_eq_false, not_false_eq_true, if_true, if_false, false_and, and_false, c17, c98, rd_k hR, rd_5 hR, c51 hx hp h5, h5, e1]
theorem c52f {p c : Nat} {x : Int32} (hx : it_rx Rd n T qq mi) (hp : p ≤ n) (h5 : mi Rd 5 = ii p) (hc : x = ii c) (hc2 : c < 128) (h : ¬ T p = c) : iw (d + 1) 52 0 [.ref Rd, .int x] [] (it_mem L xs mi rw o g z) Q ↔ Q (.inl (some (.int 0))) (it_mem L xs mi rw o g z) := by
  have hR := rx_r hx
  have h6 := hx.2.2.2.2.2 p
  have e1 : ¬ ii (T p) = ii c := by rw [ii_inj (by omega) (by omega)]; exact h
  subst hc
  simp only [w52_0, w52_1, w52_4, w52_5, w52_8, w52_9, w52_10, w52_11, w52_12, w52_15, w52_16, w52_17, w52_20, w52_21, ↓reduceIte, true_and, and_true, vok_int, vok_b0, vok_b1, vok_bb, r_backI, r_backV, bb_eq0, Nat.reduceAdd, Nat.reduceMul, Nat.reduceEqDiff, not_true_eq_false, not_false_eq_true, if_true, if_false, false_and, and_false, c17, c98, rd_k hR, c51 hx hp h5, e1]
theorem c50t {p : Nat} {v : Value} (hx : it_rx Rd n T qq mi) (hp : p ≤ n) (h5 : mi Rd 5 = ii p) (h : 65 ≤ T p ∧ T p ≤ 70) : iw (d + 1) 50 0 [.ref Rd, v] [] (it_mem L xs mi rw o g z) Q ↔ Q (.inl (some (.int (ii (T p - 65))))) (it_mem L xs (it_up mi Rd 5 (ii (p + 1))) rw o g z) := by
  have hR := rx_r hx
  have e1 : ii p + 1 = ii (p + 1) := ii_add (b := 1)
  have e2 : ii (T p) - 65 = ii (T p - 65) := by rw [lit_65, ii_sub h.1]
  simp only [w50_0, w50_1, w50_4, w50_6, w50_7, w50_8, w50_9, w50_11, w50_14, w50_17, w50_18, w50_19, w50_20, w50_21, w50_24, w50_25, w50_26, w50_29, w50_30, ↓reduceIte, true_and, and_true, vok_int, vok_b0, vok_b1, vok_bb, r_backI, r_backV, bb_eq0, Nat.reduceAdd, Nat.reduceMul, Nat.reduceEqDiff, not_true_eq_false, not_false_eq_true, if_true, if_false, false_and, and_false, c17, c98, rd_k hR, rd_5 hR, c51 hx hp h5, h5, e1, e2, bel (x := 6) (b := 6) rfl (by decide) (show T p - 65 < 6 by omega)]
theorem c50f {p : Nat} {v : Value} (hx : it_rx Rd n T qq mi) (hp : p ≤ n) (h5 : mi Rd 5 = ii p) (h : ¬ (65 ≤ T p ∧ T p ≤ 70)) : iw (d + 1) 50 0 [.ref Rd, v] [] (it_mem L xs mi rw o g z) Q ↔ Q (.inl (some (.int (-1)))) (it_mem L xs mi rw o g z) := by
  have hR := rx_r hx
  have h6 := hx.2.2.2.2.2 p
  have e2 : ¬ (0 ≤ ii (T p) - 65 ∧ ii (T p) - 65 < 6) := by
    rw [lit_65, lit_6, dgt h6 (by decide) (by decide)]
    omega
  simp only [w50_0, w50_1, w50_4, w50_6, w50_7, w50_8, w50_9, w50_11, w50_14, w50_17, w50_18, w50_19, w50_20, w50_21, w50_24, w50_25, w50_26, w50_29, w50_30, ↓reduceIte, true_and, and_true, vok_int, vok_b0, vok_b1, vok_bb, r_backI, r_backV, bb_eq0, Nat.reduceAdd, Nat.reduceMul, Nat.reduceEqDiff, not_true_eq_false, not_false_eq_true, if_true, if_false, false_and, and_false, c17, c98, rd_k hR, rd_5 hR, c51 hx hp h5, eq_false e2]
/-- one step written -/
def cup (C s : Nat) (k v : Int32) (mi : Nat → Nat → Int32) : Nat → Nat → Int32 := it_up (it_up (it_up mi (C + 1) s k) (C + 2) s v) C 2 (ii (s + 1))
theorem c58 {C s : Nat} {k v : Int32} (hC : it_isk 1 C = true) (hC2 : 13 ≤ C) (hs : mi C 2 = ii s) (hsl : s < if C = 13 then 40 else 120) : iw d 58 0 [.ref C, .int k, .int v] [] (it_mem L xs mi rw o g z) Q ↔ Q (.inl none) (it_mem L xs (cup C s k v mi) rw o g z) := by
  have l1 : it_ln L (C + 1) = if C = 13 then 40 else 120 := lng_1_0 hC
  have l2 : it_ln L (C + 2) = if C = 13 then 40 else 120 := lng_1_1 hC
  have hs2 : s < 120 := by split at hsl <;> omega
  have e1 : (ii s).toNatClampNeg = s := ii_clamp (by omega)
  have e2 : ii s + 1 = ii (s + 1) := ii_add (b := 1)
  have b1 : it_inb L (C + 1) (ii s) := ii_inb (by omega) (by rw [l1]; exact hsl)
  have b2 : it_inb L (C + 2) (ii s) := ii_inb (by omega) (by rw [l2]; exact hsl)
  have n1 : ∀ X j x, it_up X (C + 1) j x C = X C := fun X j x => it_up_f _ _ _ (by omega)
  have n2 : ∀ X j x, it_up X (C + 2) j x C = X C := fun X j x => it_up_f _ _ _ (by omega)
  have g1 : 8 ≤ C + 1 := by omega
  have g2 : 8 ≤ C + 2 := by omega
  have e3 : ¬ (if C = 13 then 40 else 120 : Nat).toInt32 ≤ ii s := by
    by_cases h13 : C = 13
    · rw [if_pos h13] at hsl ⊢
      rw [show Nat.toInt32 40 = ii 40 from rfl, ii_le (by decide) (by omega)]
      omega
    · rw [if_neg h13] at hsl ⊢
      rw [show Nat.toInt32 120 = ii 120 from rfl, ii_le (by decide) (by omega)]
      omega
  have ha : (C + 1 < 135 ∧ 30 ≤ it_kd (C + 1) ∧ (it_aty (it_kd (C + 1))).isSome = true) := by
    rcases (show C = 13 ∨ C = 22 from of_decide_eq_true (it_fin (p := fun a => decide (a = 13 ∨ a = 22)) (by decide +kernel) hC)) with rfl | rfl <;> decide +kernel
  simp only [w58_0, w58_1, w58_4, w58_5, w58_8, w58_9, w58_12, w58_13, w58_16, w58_17, w58_20, w58_21, w58_22, w58_23, w58_26, w58_27, w58_30, w58_31, w58_32, w58_33, w58_34, w58_37, w58_38, w58_39, w58_42, ↓reduceIte, true_and, and_true, vok_int, vok_b0, vok_b1, vok_bb, r_backI, r_backV, bb_eq0, Nat.reduceAdd, Nat.reduceMul, Nat.reduceEqDiff, not_true_eq_false, not_false_eq_true, if_true, if_false, false_and, and_false, c17, c98, hC, cvg_1_0 hC, cvg_1_1 hC, cvg_1_2 hC, isag_1_0 hC, isag_1_1 hC, hs, l1, e3, ha, b1, b2, e1, e2, n1, n2, g1, g2]
  exact Iff.rfl
theorem cup_rf {C s : Nat} {k v : Int32} : it_rf Rd C s mi (cup C s k v mi) ∨ Rd = C ∨ Rd = C + 1 ∨ Rd = C + 2 := by
  by_cases h : Rd = C ∨ Rd = C + 1 ∨ Rd = C + 2
  · exact Or.inr h
  · refine Or.inl ⟨fun a q1 q2 q3 q4 => ?_, fun j hj => ?_, fun j hj => ?_⟩
    · unfold cup
      rw [it_up_f _ _ _ q2, it_up_f _ _ _ q4, it_up_f _ _ _ q3]
    · unfold cup
      rw [it_up_f _ _ _ (by omega), it_up_f _ _ _ (by omega), it_up_f _ _ _ (by omega)]
    · unfold cup
      simp only [it_up_app]
      rw [if_neg (by omega), if_neg (by omega), if_neg (by omega), if_neg (by omega), if_neg (by omega), if_neg (by omega)]
      exact ⟨rfl, rfl⟩
/-- a further step behind the steps that are there -/
theorem cd_cup {C s : Nat} {l : List (Int32 × Int32)} {k v : Int32} (h : it_cd C s l mi) : it_cd C s (l ++ [(k, v)]) (cup C (s + l.length) k v mi) := by
  obtain ⟨h1, h2⟩ := h
  refine ⟨?_, fun i hi => ?_⟩
  · unfold cup
    rw [it_up_same]
    congr 1
    simp only [List.length_append, List.length_cons, List.length_nil]
    omega
  · simp only [List.length_append, List.length_cons, List.length_nil] at hi
    have q1 : ∀ j, cup C (s + l.length) k v mi (C + 1) j = if j = s + l.length then k else mi (C + 1) j := fun j => by
      unfold cup
      rw [it_up_f _ _ _ (by omega), it_up_f _ _ _ (by omega), it_up_s]
    have q2 : ∀ j, cup C (s + l.length) k v mi (C + 2) j = if j = s + l.length then v else mi (C + 2) j := fun j => by
      unfold cup
      rw [it_up_f _ _ _ (by omega), it_up_s, it_up_f _ _ _ (by omega)]
    rw [q1, q2]
    by_cases e : i = l.length
    · subst e
      rw [if_pos rfl, if_pos rfl]
      simp
    · rw [if_neg (by omega), if_neg (by omega)]
      have hl : (l ++ [(k, v)]).getD i (0, 0) = l.getD i (0, 0) := by
        rw [List.getD_eq_getElem?_getD, List.getD_eq_getElem?_getD, List.getElem?_append_left (by omega)]
      rw [hl]
      exact h2 i (by omega)
theorem cd_nil {C s : Nat} (h : mi C 2 = ii s) : it_cd C s [] mi := ⟨h, fun i hi => absurd hi (Nat.not_lt_zero _)⟩
theorem cd_app {C s : Nat} {l1 l2 : List (Int32 × Int32)} {m1 : Nat → Nat → Int32} (h1 : it_cd C s l1 m1) (h2 : it_cd C (s + l1.length) l2 mi) (hf : ∀ j, j < s + l1.length → mi (C + 1) j = m1 (C + 1) j ∧ mi (C + 2) j = m1 (C + 2) j) : it_cd C s (l1 ++ l2) mi := by
  refine ⟨?_, fun i hi => ?_⟩
  · rw [h2.1, List.length_append, Nat.add_assoc]
  · rw [List.length_append] at hi
    by_cases e : i < l1.length
    · obtain ⟨a1, a2⟩ := hf (s + i) (by omega)
      have hl : (l1 ++ l2).getD i (0, 0) = l1.getD i (0, 0) := by
        rw [List.getD_eq_getElem?_getD, List.getD_eq_getElem?_getD, List.getElem?_append_left e]
      rw [hl, a1, a2]
      exact h1.2 i e
    · have h3 := h2.2 (i - l1.length) (by omega)
      rw [show s + l1.length + (i - l1.length) = s + i by omega] at h3
      have hl : (l1 ++ l2).getD i (0, 0) = l2.getD (i - l1.length) (0, 0) := by
        rw [List.getD_eq_getElem?_getD, List.getD_eq_getElem?_getD, List.getElem?_append_right (by omega)]
      rw [hl]
      exact h3
end
