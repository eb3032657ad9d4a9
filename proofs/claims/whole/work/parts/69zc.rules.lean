/-! Rules, pure, and as the class reads them. -/
/-- a rule: where its condition stands (0: none), and the condition -/
def pR (T : Nat → Nat) (n p : Nat) : Nat × Option (Nat × Option CV) :=
  if ¬ (65 ≤ T p ∧ T p ≤ 70) then (p, none) else if ¬ T (p + 1) = 62 then (p + 1, none) else if ¬ (65 ≤ T (p + 2) ∧ T (p + 2) ≤ 70) then (p + 2, none)
  else if T (p + 3) = 58 then (match (pC false T n 6 (p + 4)).2 with | none => ((pC false T n 6 (p + 4)).1, none) | some c => if T (pC false T n 6 (p + 4)).1 = 59 then ((pC false T n 6 (p + 4)).1 + 1, some (p + 4, some c)) else ((pC false T n 6 (p + 4)).1, none))
  else if T (p + 3) = 59 then (p + 4, some (0, none)) else (p + 3, none)
def lc (oc : Option CV) : List (Int32 × Int32) := match oc with | none => [] | some c => c.1
theorem pR_a {T : Nat → Nat} {n p : Nat} (h : ¬ (65 ≤ T p ∧ T p ≤ 70)) : pR T n p = (p, none) := if_pos h
theorem pR_b {T : Nat → Nat} {n p : Nat} (h : 65 ≤ T p ∧ T p ≤ 70) (h1 : ¬ T (p + 1) = 62) : pR T n p = (p + 1, none) := by
  unfold pR
  rw [if_neg (fun q => q h), if_pos h1]
theorem pR_c {T : Nat → Nat} {n p : Nat} (h : 65 ≤ T p ∧ T p ≤ 70) (h1 : T (p + 1) = 62) (h2 : ¬ (65 ≤ T (p + 2) ∧ T (p + 2) ≤ 70)) : pR T n p = (p + 2, none) := by
  unfold pR
  rw [if_neg (fun q => q h), if_neg (fun q => q h1), if_pos h2]
theorem pR_d {T : Nat → Nat} {n p : Nat} (h : 65 ≤ T p ∧ T p ≤ 70) (h1 : T (p + 1) = 62) (h2 : 65 ≤ T (p + 2) ∧ T (p + 2) ≤ 70) (h3 : ¬ T (p + 3) = 58) (h4 : ¬ T (p + 3) = 59) : pR T n p = (p + 3, none) := by
  unfold pR
  rw [if_neg (fun q => q h), if_neg (fun q => q h1), if_neg (fun q => q h2), if_neg h3, if_neg h4]
theorem pR_e {T : Nat → Nat} {n p : Nat} (h : 65 ≤ T p ∧ T p ≤ 70) (h1 : T (p + 1) = 62) (h2 : 65 ≤ T (p + 2) ∧ T (p + 2) ≤ 70) (h4 : T (p + 3) = 59) : pR T n p = (p + 4, some (0, none)) := by
  unfold pR
  rw [if_neg (fun q => q h), if_neg (fun q => q h1), if_neg (fun q => q h2), if_neg (by omega), if_pos h4]
theorem pR_f {T : Nat → Nat} {n p : Nat} (h : 65 ≤ T p ∧ T p ≤ 70) (h1 : T (p + 1) = 62) (h2 : 65 ≤ T (p + 2) ∧ T (p + 2) ≤ 70) (h3 : T (p + 3) = 58) (hb : (pC false T n 6 (p + 4)).2 = none) : pR T n p = ((pC false T n 6 (p + 4)).1, none) := by
  unfold pR
  rw [if_neg (fun q => q h), if_neg (fun q => q h1), if_neg (fun q => q h2), if_pos h3, hb]
theorem pR_g {T : Nat → Nat} {n p : Nat} {c : CV} (h : 65 ≤ T p ∧ T p ≤ 70) (h1 : T (p + 1) = 62) (h2 : 65 ≤ T (p + 2) ∧ T (p + 2) ≤ 70) (h3 : T (p + 3) = 58) (hb : (pC false T n 6 (p + 4)).2 = some c) (h4 : ¬ T (pC false T n 6 (p + 4)).1 = 59) : pR T n p = ((pC false T n 6 (p + 4)).1, none) := by
  unfold pR
  rw [if_neg (fun q => q h), if_neg (fun q => q h1), if_neg (fun q => q h2), if_pos h3, hb]
  exact if_neg h4
theorem pR_h {T : Nat → Nat} {n p : Nat} {c : CV} (h : 65 ≤ T p ∧ T p ≤ 70) (h1 : T (p + 1) = 62) (h2 : 65 ≤ T (p + 2) ∧ T (p + 2) ≤ 70) (h3 : T (p + 3) = 58) (hb : (pC false T n 6 (p + 4)).2 = some c) (h4 : T (pC false T n 6 (p + 4)).1 = 59) : pR T n p = ((pC false T n 6 (p + 4)).1 + 1, some (p + 4, some c)) := by
  unfold pR
  rw [if_neg (fun q => q h), if_neg (fun q => q h1), if_neg (fun q => q h2), if_pos h3, hb]
  exact if_pos h4
theorem pR_ok {T : Nat → Nat} {n p : Nat} (hz : ∀ j, n ≤ j → T j = 0) (hp : p ≤ n) : (pR T n p).1 ≤ n ∧ ∀ w oc, (pR T n p).2 = some (w, oc) → p + 4 ≤ (pR T n p).1 ∧ p + (lc oc).length + 4 ≤ (pR T n p).1 ∧ w ≤ n ∧ (65 ≤ T p ∧ T p ≤ 70) ∧ (65 ≤ T (p + 2) ∧ T (p + 2) ≤ 70) ∧ ((w = 0 ∧ oc = none) ∨ (w ≠ 0 ∧ ∃ c, oc = some c ∧ (pC false T n 6 w).2 = some c ∧ T (pC false T n 6 w).1 = 59)) := by
  have lt : ∀ j, T j ≠ 0 → j < n := fun j h => Nat.lt_of_not_le (fun q => h (hz j q))
  by_cases h : 65 ≤ T p ∧ T p ≤ 70
  · have l0 := lt p (by omega)
    by_cases h1 : T (p + 1) = 62
    · have l1 := lt (p + 1) (by omega)
      by_cases h2 : 65 ≤ T (p + 2) ∧ T (p + 2) ≤ 70
      · have l2 := lt (p + 2) (by omega)
        by_cases h3 : T (p + 3) = 58
        · have l3 := lt (p + 3) (by omega)
          obtain ⟨f1, f2, f3⟩ := pC_ok (qq := false) hz 6 (p + 4) (by omega)
          cases hb : (pC false T n 6 (p + 4)).2 with
          | none =>
            rw [pR_f h h1 h2 h3 hb]
            exact ⟨f2, fun w oc hw => by cases hw⟩
          | some c =>
            obtain ⟨f4, f5⟩ := f3 c hb
            by_cases h4 : T (pC false T n 6 (p + 4)).1 = 59
            · have l4 := lt _ (show T (pC false T n 6 (p + 4)).1 ≠ 0 by omega)
              rw [pR_h h h1 h2 h3 hb h4]
              refine ⟨by dsimp only; omega, fun w oc hw => ?_⟩
              cases hw
              refine ⟨by dsimp only; omega, by show p + c.1.length + 4 ≤ _; dsimp only; omega, by omega, h, h2, Or.inr ⟨by omega, c, rfl, hb, h4⟩⟩
            · rw [pR_g h h1 h2 h3 hb h4]
              exact ⟨f2, fun w oc hw => by cases hw⟩
        · by_cases h4 : T (p + 3) = 59
          · have l3 := lt (p + 3) (by omega)
            rw [pR_e h h1 h2 h4]
            refine ⟨by dsimp only; omega, fun w oc hw => ?_⟩
            cases hw
            exact ⟨Nat.le_refl _, Nat.le_refl _, Nat.zero_le _, h, h2, Or.inl ⟨rfl, rfl⟩⟩
          · rw [pR_d h h1 h2 h3 h4]
            exact ⟨by dsimp only; omega, fun w oc hw => by cases hw⟩
      · rw [pR_c h h1 h2]
        exact ⟨by dsimp only; omega, fun w oc hw => by cases hw⟩
    · rw [pR_b h h1]
      exact ⟨by dsimp only; omega, fun w oc hw => by cases hw⟩
  · rw [pR_a h]
    exact ⟨hp, fun w oc hw => by cases hw⟩
/-- rules one after another -/
def rps (T : Nat → Nat) (n : Nat) : Nat → Nat
  | 0 => 0
  | j + 1 => (pR T n (rps T n j)).1
def rcs (T : Nat → Nat) (n : Nat) : Nat → Nat
  | 0 => 0
  | j + 1 => rcs T n j + (match (pR T n (rps T n j)).2 with | none => 0 | some q => (lc q.2).length)
/-- the first rules are read, and text is left -/
def rgo (T : Nat → Nat) (n J : Nat) : Prop := ∀ q, q < J → (∃ w oc, (pR T n (rps T n q)).2 = some (w, oc)) ∧ rps T n (q + 1) < n
def rIll (T : Nat → Nat) (n J : Nat) : Prop := rgo T n J ∧ (pR T n (rps T n J)).2 = none
def rWll (T : Nat → Nat) (n J : Nat) : Prop := rgo T n J ∧ (∃ w oc, (pR T n (rps T n J)).2 = some (w, oc)) ∧ n ≤ rps T n (J + 1)
theorem rgo_le {T : Nat → Nat} {n J : Nat} (hz : ∀ j, n ≤ j → T j = 0) (h : rgo T n J) : ∀ q, q ≤ J → 4 * q + rcs T n q ≤ rps T n q + 3 * q ∧ 4 * q ≤ rps T n q ∧ rps T n q ≤ n ∧ rcs T n q ≤ rps T n q := by
  intro q
  induction q with
  | zero => intro _; exact ⟨Nat.le_refl _, Nat.le_refl _, Nat.zero_le _, Nat.le_refl _⟩
  | succ q ih =>
    intro hq
    obtain ⟨i1, i2, i3, i4⟩ := ih (by omega)
    obtain ⟨⟨w, oc, hw⟩, h2⟩ := h q (by omega)
    obtain ⟨p1, p2⟩ := pR_ok hz i3
    obtain ⟨p3, p4, -⟩ := p2 w oc hw
    have e1 : rps T n (q + 1) = (pR T n (rps T n q)).1 := rfl
    have e2 : rcs T n (q + 1) = rcs T n q + (lc oc).length := by
      show rcs T n q + (match (pR T n (rps T n q)).2 with | none => 0 | some q => (lc q.2).length) = _
      rw [hw]
    rw [e1, e2]
    exact ⟨by omega, by omega, p1, by omega⟩
theorem r_uniq {T : Nat → Nat} {n J K : Nat} (h1 : rIll T n J ∨ rWll T n J) (h2 : rIll T n K ∨ rWll T n K) : J = K := by
  have key : ∀ J K, (rIll T n J ∨ rWll T n J) → (rIll T n K ∨ rWll T n K) → ¬ J < K := by
    intro J K h1 h2 hlt
    have hg : rgo T n K := by
      rcases h2 with h | h
      · exact h.1
      · exact h.1
    obtain ⟨⟨w, oc, hw⟩, hn⟩ := hg J hlt
    rcases h1 with h | h
    · rw [h.2] at hw; cases hw
    · have := h.2.2; omega
  have := key J K h1 h2
  have := key K J h2 h1
  omega
theorem r_not {T : Nat → Nat} {n J : Nat} (h1 : rIll T n J) (h2 : rWll T n J) : False := by
  obtain ⟨w, oc, hw⟩ := h2.2.1
  rw [h1.2] at hw
  cases hw
section
variable {d : Nat} {Q : im_O → im_M → Prop} {L : Nat} {xs : Nat → Int32} {mi : Nat → Nat → Int32} {rw : Nat → Nat} {o : Nat → Int64} {g z : Nat}
variable {n : Nat} {T : Nat → Nat}
/-- what reading rules leaves as it is -/
def it_wr (s k : Nat) (mi mi' : Nat → Nat → Int32) : Prop := (∀ a, a ≠ 9 → ¬ (17 ≤ a ∧ a ≤ 24) → mi' a = mi a) ∧ (∀ j, j ≠ 5 → mi' 9 j = mi 9 j) ∧ (∀ j, j < s → mi' 23 j = mi 23 j ∧ mi' 24 j = mi 24 j) ∧ ∀ j, j < k → mi' 18 j = mi 18 j ∧ mi' 19 j = mi 19 j ∧ mi' 20 j = mi 20 j ∧ mi' 21 j = mi 21 j
theorem wr_rf {s k : Nat} {mi' : Nat → Nat → Int32} (h : it_rf 9 22 s mi mi') : it_wr s k mi mi' := by
  refine ⟨fun a q1 q2 => h.1 a q1 (by omega) (by omega) (by omega), h.2.1, h.2.2, fun j _ => ?_⟩
  rw [h.1 18 (by decide) (by decide) (by decide) (by decide), h.1 19 (by decide) (by decide) (by decide) (by decide), h.1 20 (by decide) (by decide) (by decide) (by decide), h.1 21 (by decide) (by decide) (by decide) (by decide)]
  exact ⟨rfl, rfl, rfl, rfl⟩
theorem wr_trans {s k s' k' : Nat} {m1 m2 m3 : Nat → Nat → Int32} (h1 : it_wr s k m1 m2) (h2 : it_wr s' k' m2 m3) (hs : s ≤ s') (hk : k ≤ k') : it_wr s k m1 m3 := by
  refine ⟨fun a q1 q2 => (h2.1 a q1 q2).trans (h1.1 a q1 q2), fun j hj => (h2.2.1 j hj).trans (h1.2.1 j hj), fun j hj => ?_, fun j hj => ?_⟩
  · obtain ⟨a1, a2⟩ := h1.2.2.1 j hj
    obtain ⟨b1, b2⟩ := h2.2.2.1 j (by omega)
    exact ⟨b1.trans a1, b2.trans a2⟩
  · obtain ⟨a1, a2, a3, a4⟩ := h1.2.2.2 j hj
    obtain ⟨b1, b2, b3, b4⟩ := h2.2.2.2 j (by omega)
    exact ⟨b1.trans a1, b2.trans a2, b3.trans a3, b4.trans a4⟩
/-- a rule laid down -/
def rup (k : Nat) (a b s e : Int32) (mi : Nat → Nat → Int32) : Nat → Nat → Int32 := it_up (it_up (it_up (it_up (it_up mi 18 k a) 19 k b) 20 k s) 21 k e) 17 5 (ii (k + 1))
theorem c59 {k : Nat} {a b s : Int32} (hk : k < 30) (h5 : mi 17 5 = ii k) : iw d 59 0 [.ref 17, .int a, .int b, .int s] [] (it_mem L xs mi rw o g z) Q ↔ Q (.inl none) (it_mem L xs (rup k a b s (mi 22 2) mi) rw o g z) := by
  have e1 : (ii k).toNatClampNeg = k := ii_clamp (by omega)
  have e2 : ii k + 1 = ii (k + 1) := ii_add (b := 1)
  have e3 : ¬ Nat.toInt32 30 ≤ ii k := by rw [show Nat.toInt32 30 = ii 30 from rfl, ii_le (by decide) (by omega)]; omega
  have b1 : it_inb L 18 (ii k) := ii_inb (by omega) (by rw [ln_18]; omega)
  have b2 : it_inb L 19 (ii k) := ii_inb (by omega) (by rw [ln_19]; omega)
  have b3 : it_inb L 20 (ii k) := ii_inb (by omega) (by rw [ln_20]; omega)
  have b4 : it_inb L 21 (ii k) := ii_inb (by omega) (by rw [ln_21]; omega)
  have n1 : ∀ X a j x, a = 18 ∨ a = 19 ∨ a = 20 ∨ a = 21 → it_up X a j x 17 = X 17 := fun X a j x h => it_up_f _ _ _ (by omega)
  have n2 : ∀ X a j x, a = 18 ∨ a = 19 ∨ a = 20 ∨ a = 21 → it_up X a j x 22 = X 22 := fun X a j x h => it_up_f _ _ _ (by omega)
  have ha : (18 < 135 ∧ 30 ≤ it_kd 18 ∧ (it_aty (it_kd 18)).isSome = true) := by decide +kernel
  simp (disch := omega) only [w59_0, w59_1, w59_4, w59_5, w59_8, w59_9, w59_12, w59_13, w59_16, w59_17, w59_20, w59_21, w59_22, w59_23, w59_26, w59_27, w59_30, w59_31, w59_32, w59_33, w59_36, w59_37, w59_40, w59_41, w59_42, w59_43, w59_46, w59_47, w59_50, w59_51, w59_54, w59_57, w59_58, w59_59, w59_60, w59_63, w59_64, w59_65, w59_68, isk_17, cv_17_0, cv_17_1, cv_17_2, cv_17_3, cv_17_4, cv_17_5, isa_18, ln_18, cv_18, isa_19, ln_19, cv_19, isa_20, ln_20, cv_20, isa_21, ln_21, cv_21, isk_22, cv_22_0, cv_22_1, cv_22_2, ↓reduceIte, true_and, and_true, vok_int, vok_b0, vok_b1, vok_bb, r_backI, r_backV, bb_eq0, Nat.reduceAdd, Nat.reduceMul, Nat.reduceEqDiff, not_true_eq_false, not_false_eq_true, if_true, if_false, false_and, and_false, c17, c98, h5, ha, e1, e2, e3, b1, b2, b3, b4, it_up_f, Nat.reduceLeDiff]
  exact Iff.rfl
theorem c49 {p s k : Nat} {v2 v3 v4 : Value} (hx : it_rx 9 n T false mi) (hp : p ≤ n) (h5 : mi 9 5 = ii p) (hs : mi 22 2 = ii s) (hsp : s ≤ p) (h17 : mi 17 5 = ii k) (hk : 4 * k ≤ p)
    (hQ : ∀ m', it_wr s k mi m' → m' 9 5 = ii (pR T n p).1 → ((pR T n p).2 = none → Q (.inl (some (.int 0))) (it_mem L xs m' rw o g z)) ∧ ∀ w oc, (pR T n p).2 = some (w, oc) → m' 17 5 = ii (k + 1) → it_cd 22 s (lc oc) m' → m' 18 k = ii (T p - 65) → m' 19 k = ii (T (p + 2) - 65) → m' 20 k = ii s → m' 21 k = ii (s + (lc oc).length) → Q (.inl (some (.int 1))) (it_mem L xs m' rw o g z)) :
    iw (d + 3 * 6 + 1 + 1 + 1 + 1 + 1) 49 0 [.ref 9, .ref 17, v2, v3, v4] [] (it_mem L xs mi rw o g z) Q := by
  have hRC : it_rc 9 22 := Or.inl ⟨rfl, rfl⟩
  have hR : (9 : Nat) = 9 ∨ (9 : Nat) = 11 := Or.inl rfl
  have hn := rx_n hx
  have hz := hx.2.2.2.2.1
  have lt : ∀ j, T j ≠ 0 → j < n := fun j h => Nat.lt_of_not_le (fun q => h (hz j q))
  have up2 : ∀ X a b, it_up (it_up X 9 5 a) 9 5 b = it_up X 9 5 b := by
    intro X a b
    funext x y
    simp only [it_up_app]
    split <;> rfl
  have rfA : ∀ x, it_rf 9 22 s mi (it_up mi 9 5 x) := fun x => rf_at (by decide)
  have xA : ∀ x, it_rx 9 n T false (it_up mi 9 5 x) := fun x => rx_fr hx (by decide) (rfA x)
  have sA : ∀ x, it_up mi 9 5 x 22 2 = ii s := fun x => by rw [it_up_f _ _ _ (by decide)]; exact hs
  have aA : ∀ x, it_up mi 9 5 x 9 5 = x := fun x => it_up_same _ _ _ _
  by_cases h : 65 ≤ T p ∧ T p ≤ 70
  · have l0 := lt p (by omega)
    have ne1 : ¬ ii (T p - 65) = -1 := ii_m1 (by omega)
    by_cases h1 : T (p + 1) = 62
    · have l1 := lt (p + 1) (by omega)
      by_cases h2 : 65 ≤ T (p + 2) ∧ T (p + 2) ≤ 70
      · have l2 := lt (p + 2) (by omega)
        have ne2 : ¬ ii (T (p + 2) - 65) = -1 := ii_m1 (by omega)
        have hbeg : iw (d + 3 * 6 + 1 + 1 + 1 + 1 + 1) 49 0 [.ref 9, .ref 17, v2, v3, v4] [] (it_mem L xs mi rw o g z) Q ↔ iw (d + 3 * 6 + 1 + 1 + 1 + 1 + 1) 49 43 [.ref 9, .ref 17, .int (ii s), .int (ii (T p - 65)), .int (ii (T (p + 2) - 65))] [] (it_mem L xs (it_up mi 9 5 (ii (p + 3))) rw o g z) Q := by
          simp only [w49_0, w49_1, w49_4, w49_7, w49_8, w49_9, w49_12, w49_13, w49_14, w49_15, w49_18, w49_19, w49_21, w49_24, w49_27, w49_28, w49_29, w49_30, w49_33, w49_35, w49_37, w49_38, isk_9, cv_9_0, cv_9_1, cv_9_2, cv_9_3, cv_9_4, cv_9_5, isk_17, cv_17_0, cv_17_1, cv_17_2, cv_17_3, cv_17_4, cv_17_5, isk_22, cv_22_0, cv_22_1, cv_22_2, ↓reduceIte, true_and, and_true, vok_int, vok_b0, vok_b1, vok_bb, r_backI, r_backV, bb_eq0, Nat.reduceAdd, Nat.reduceMul, Nat.reduceEqDiff, not_true_eq_false, not_false_eq_true, if_true, if_false, false_and, and_false, c17, c98, n_m1_0, n_m1_1, n_m1_2, n_m1_3, n_m1_4, n_m1_5, n_m1_6, n_0_m1, n_0_1, n_0_2, n_0_3, n_0_4, n_0_5, n_0_6, n_1_m1, n_1_0, n_1_2, n_1_3, n_1_4, n_1_5, n_1_6, n_2_m1, n_2_0, n_2_1, n_2_3, n_2_4, n_2_5, n_2_6, n_3_m1, n_3_0, n_3_1, n_3_2, n_3_4, n_3_5, n_3_6, n_4_m1, n_4_0, n_4_1, n_4_2, n_4_3, n_4_5, n_4_6, n_5_m1, n_5_0, n_5_1, n_5_2, n_5_3, n_5_4, n_5_6, n_6_m1, n_6_0, n_6_1, n_6_2, n_6_3, n_6_4, n_6_5, hs, c50t hx hp h5 h, ne1, c52t (x := 62) (xA (ii (p + 1))) (show p + 1 ≤ n by omega) (aA _) rfl h1, up2, c50t (xA (ii (p + 1 + 1))) (show p + 2 ≤ n by omega) (aA _) h2, ne2]
        rw [hbeg]
        -- behind the condition
        have last : ∀ (m1 : Nat → Nat → Int32) (q : Nat) (l : List (Int32 × Int32)), it_rf 9 22 s mi m1 → q ≤ n → m1 9 5 = ii q → it_cd 22 s l m1 → (∀ w oc, (T q = 59 → pR T n p = (q + 1, some (w, oc)) → lc oc = l → iw (d + 3 * 6 + 1 + 1 + 1 + 1 + 1) 49 66 [.ref 9, .ref 17, .int (ii s), .int (ii (T p - 65)), .int (ii (T (p + 2) - 65))] [] (it_mem L xs m1 rw o g z) Q)) ∧ (¬ T q = 59 → pR T n p = (q, none) → iw (d + 3 * 6 + 1 + 1 + 1 + 1 + 1) 49 66 [.ref 9, .ref 17, .int (ii s), .int (ii (T p - 65)), .int (ii (T (p + 2) - 65))] [] (it_mem L xs m1 rw o g z) Q) := by
          intro m1 q l f1 hq f5 fc
          have hx1 := rx_fr hx (by decide) f1
          refine ⟨fun w oc hT hpR hl => ?_, fun hT hpR => ?_⟩
          · have lq := lt q (by omega)
            have k30 : k < 30 := by
              obtain ⟨p1, p2⟩ := pR_ok (T := T) hz hp
              have := (p2 w oc (by rw [hpR])).1
              omega
            have g17 : it_up m1 9 5 (ii (q + 1)) 17 5 = ii k := by rw [it_up_f _ _ _ (by decide), f1.1 17 (by decide) (by decide) (by decide) (by decide)]; exact h17
            have g22 : it_up m1 9 5 (ii (q + 1)) 22 2 = ii (s + l.length) := by rw [it_up_f _ _ _ (by decide)]; exact fc.1
            have hwr : it_wr s k (it_up m1 9 5 (ii (q + 1))) (rup k (ii (T p - 65)) (ii (T (p + 2) - 65)) (ii s) (ii (s + l.length)) (it_up m1 9 5 (ii (q + 1)))) := by
              unfold rup
              refine ⟨fun a q1 q2 => ?_, fun j hj => ?_, fun j hj => ?_, fun j hj => ?_⟩
              · simp (disch := omega) only [it_up_f]
              · simp (disch := omega) only [it_up_f]
              · simp (disch := omega) only [it_up_f]
                exact ⟨trivial, trivial⟩
              · simp (disch := omega) only [it_up_f, it_up_j]
                exact ⟨trivial, trivial, trivial, trivial⟩
            have hall : it_wr s k mi (rup k (ii (T p - 65)) (ii (T (p + 2) - 65)) (ii s) (ii (s + l.length)) (it_up m1 9 5 (ii (q + 1)))) := wr_trans (wr_rf (rf_trans (Nat.le_refl _) f1 (rf_at (by decide)))) hwr (Nat.le_refl _) (Nat.le_refl _)
            rw [hpR] at hQ
            have hfin := (hQ _ hall (by unfold rup; simp (disch := omega) only [it_up_f, it_up_same])).2 w oc rfl (by unfold rup; rw [it_up_same]) (by
              rw [hl]
              refine ⟨?_, fun i hi => ?_⟩
              · unfold rup; simp (disch := omega) only [it_up_f]; exact fc.1
              · unfold rup; simp (disch := omega) only [it_up_f]; exact fc.2 i hi) (by unfold rup; simp (disch := omega) only [it_up_f, it_up_same]) (by unfold rup; simp (disch := omega) only [it_up_f, it_up_same]) (by unfold rup; simp (disch := omega) only [it_up_f, it_up_same]) (by rw [hl]; unfold rup; simp (disch := omega) only [it_up_f, it_up_same])
            simp only [w49_66, w49_67, w49_69, w49_72, w49_75, w49_76, w49_77, w49_78, w49_79, w49_81, w49_82, w49_85, w49_86, isk_9, cv_9_0, cv_9_1, cv_9_2, cv_9_3, cv_9_4, cv_9_5, isk_17, cv_17_0, cv_17_1, cv_17_2, cv_17_3, cv_17_4, cv_17_5, ↓reduceIte, true_and, and_true, vok_int, vok_b0, vok_b1, vok_bb, r_backI, r_backV, bb_eq0, Nat.reduceAdd, Nat.reduceMul, Nat.reduceEqDiff, not_true_eq_false, not_false_eq_true, if_true, if_false, false_and, and_false, c17, c98, n_m1_0, n_m1_1, n_m1_2, n_m1_3, n_m1_4, n_m1_5, n_m1_6, n_0_m1, n_0_1, n_0_2, n_0_3, n_0_4, n_0_5, n_0_6, n_1_m1, n_1_0, n_1_2, n_1_3, n_1_4, n_1_5, n_1_6, n_2_m1, n_2_0, n_2_1, n_2_3, n_2_4, n_2_5, n_2_6, n_3_m1, n_3_0, n_3_1, n_3_2, n_3_4, n_3_5, n_3_6, n_4_m1, n_4_0, n_4_1, n_4_2, n_4_3, n_4_5, n_4_6, n_5_m1, n_5_0, n_5_1, n_5_2, n_5_3, n_5_4, n_5_6, n_6_m1, n_6_0, n_6_1, n_6_2, n_6_3, n_6_4, n_6_5, c52t (x := 59) hx1 hq f5 rfl hT, c59 k30 g17, g22]
            exact hfin
          · rw [hpR] at hQ
            have hfin := (hQ m1 (wr_rf f1) f5).1 rfl
            simp only [w49_66, w49_67, w49_69, w49_72, w49_75, w49_76, isk_9, cv_9_0, cv_9_1, cv_9_2, cv_9_3, cv_9_4, cv_9_5, ↓reduceIte, true_and, and_true, vok_int, vok_b0, vok_b1, vok_bb, r_backI, r_backV, bb_eq0, Nat.reduceAdd, Nat.reduceMul, Nat.reduceEqDiff, not_true_eq_false, not_false_eq_true, if_true, if_false, false_and, and_false, c17, c98, n_m1_0, n_m1_1, n_m1_2, n_m1_3, n_m1_4, n_m1_5, n_m1_6, n_0_m1, n_0_1, n_0_2, n_0_3, n_0_4, n_0_5, n_0_6, n_1_m1, n_1_0, n_1_2, n_1_3, n_1_4, n_1_5, n_1_6, n_2_m1, n_2_0, n_2_1, n_2_3, n_2_4, n_2_5, n_2_6, n_3_m1, n_3_0, n_3_1, n_3_2, n_3_4, n_3_5, n_3_6, n_4_m1, n_4_0, n_4_1, n_4_2, n_4_3, n_4_5, n_4_6, n_5_m1, n_5_0, n_5_1, n_5_2, n_5_3, n_5_4, n_5_6, n_6_m1, n_6_0, n_6_1, n_6_2, n_6_3, n_6_4, n_6_5, c52f (x := 59) hx1 hq f5 rfl (by decide) hT]
            exact hfin
        by_cases h3 : T (p + 3) = 58
        · have l3 := lt (p + 3) (by omega)
          simp only [w49_43, w49_44, w49_46, w49_49, w49_52, w49_53, w49_54, w49_57, w49_58, isk_9, cv_9_0, cv_9_1, cv_9_2, cv_9_3, cv_9_4, cv_9_5, isk_17, cv_17_0, cv_17_1, cv_17_2, cv_17_3, cv_17_4, cv_17_5, isk_22, cv_22_0, cv_22_1, cv_22_2, ↓reduceIte, true_and, and_true, vok_int, vok_b0, vok_b1, vok_bb, r_backI, r_backV, bb_eq0, Nat.reduceAdd, Nat.reduceMul, Nat.reduceEqDiff, not_true_eq_false, not_false_eq_true, if_true, if_false, false_and, and_false, c17, c98, n_m1_0, n_m1_1, n_m1_2, n_m1_3, n_m1_4, n_m1_5, n_m1_6, n_0_m1, n_0_1, n_0_2, n_0_3, n_0_4, n_0_5, n_0_6, n_1_m1, n_1_0, n_1_2, n_1_3, n_1_4, n_1_5, n_1_6, n_2_m1, n_2_0, n_2_1, n_2_3, n_2_4, n_2_5, n_2_6, n_3_m1, n_3_0, n_3_1, n_3_2, n_3_4, n_3_5, n_3_6, n_4_m1, n_4_0, n_4_1, n_4_2, n_4_3, n_4_5, n_4_6, n_5_m1, n_5_0, n_5_1, n_5_2, n_5_3, n_5_4, n_5_6, n_6_m1, n_6_0, n_6_1, n_6_2, n_6_3, n_6_4, n_6_5, c52t (x := 58) (xA (ii (p + 3))) (show p + 3 ≤ n by omega) (aA _) rfl h3, up2]
          refine rcc hRC (ra hRC (rt hRC 6 (by decide) d)) (p + 4) s _ _ _ (xA _) (by omega) (aA _) (sA _) (by omega) (fun m1 g1 g2 => ⟨fun hb => ?_, fun b hb g3 => ?_⟩)
          · have f1 := rf_trans (Nat.le_refl _) (rfA (ii (p + 3 + 1))) g1
            rw [pR_f h h1 h2 h3 hb] at hQ
            have hfin := (hQ m1 (wr_rf f1) g2).1 rfl
            simp only [↓reduceIte, true_and, and_true, vok_int, vok_b0, vok_b1, vok_bb, r_backI, r_backV, bb_eq0, Nat.reduceAdd, Nat.reduceMul, Nat.reduceEqDiff, not_true_eq_false, not_false_eq_true, if_true, if_false, false_and, and_false, c17, c98, w49_61, w49_64, w49_65]
            exact hfin
          · have f1 := rf_trans (Nat.le_refl _) (rfA (ii (p + 3 + 1))) g1
            obtain ⟨f2, f3, f4⟩ := pC_ok (qq := false) hz 6 (p + 4) (by omega)
            have hl := last m1 _ b.1 f1 f3 g2 g3
            simp only [↓reduceIte, true_and, and_true, vok_int, vok_b0, vok_b1, vok_bb, r_backI, r_backV, bb_eq0, Nat.reduceAdd, Nat.reduceMul, Nat.reduceEqDiff, not_true_eq_false, not_false_eq_true, if_true, if_false, false_and, and_false, c17, c98, w49_61, n_m1_0, n_m1_1, n_m1_2, n_m1_3, n_m1_4, n_m1_5, n_m1_6, n_0_m1, n_0_1, n_0_2, n_0_3, n_0_4, n_0_5, n_0_6, n_1_m1, n_1_0, n_1_2, n_1_3, n_1_4, n_1_5, n_1_6, n_2_m1, n_2_0, n_2_1, n_2_3, n_2_4, n_2_5, n_2_6, n_3_m1, n_3_0, n_3_1, n_3_2, n_3_4, n_3_5, n_3_6, n_4_m1, n_4_0, n_4_1, n_4_2, n_4_3, n_4_5, n_4_6, n_5_m1, n_5_0, n_5_1, n_5_2, n_5_3, n_5_4, n_5_6, n_6_m1, n_6_0, n_6_1, n_6_2, n_6_3, n_6_4, n_6_5]
            by_cases h4 : T (pC false T n 6 (p + 4)).1 = 59
            · exact hl.1 (p + 4) (some b) h4 (pR_h h h1 h2 h3 hb h4) rfl
            · exact hl.2 h4 (pR_g h h1 h2 h3 hb h4)
        · have hl := last (it_up mi 9 5 (ii (p + 3))) (p + 3) [] (rfA _) (by omega) (aA _) (cd_nil (sA _))
          simp only [w49_43, w49_44, w49_46, w49_49, isk_9, cv_9_0, cv_9_1, cv_9_2, cv_9_3, cv_9_4, cv_9_5, ↓reduceIte, true_and, and_true, vok_int, vok_b0, vok_b1, vok_bb, r_backI, r_backV, bb_eq0, Nat.reduceAdd, Nat.reduceMul, Nat.reduceEqDiff, not_true_eq_false, not_false_eq_true, if_true, if_false, false_and, and_false, c17, c98, n_m1_0, n_m1_1, n_m1_2, n_m1_3, n_m1_4, n_m1_5, n_m1_6, n_0_m1, n_0_1, n_0_2, n_0_3, n_0_4, n_0_5, n_0_6, n_1_m1, n_1_0, n_1_2, n_1_3, n_1_4, n_1_5, n_1_6, n_2_m1, n_2_0, n_2_1, n_2_3, n_2_4, n_2_5, n_2_6, n_3_m1, n_3_0, n_3_1, n_3_2, n_3_4, n_3_5, n_3_6, n_4_m1, n_4_0, n_4_1, n_4_2, n_4_3, n_4_5, n_4_6, n_5_m1, n_5_0, n_5_1, n_5_2, n_5_3, n_5_4, n_5_6, n_6_m1, n_6_0, n_6_1, n_6_2, n_6_3, n_6_4, n_6_5, c52f (x := 58) (xA (ii (p + 3))) (show p + 3 ≤ n by omega) (aA _) rfl (by decide) h3]
          by_cases h4 : T (p + 3) = 59
          · exact hl.1 0 none h4 (pR_e h h1 h2 h4) rfl
          · exact hl.2 h4 (pR_d h h1 h2 h3 h4)
      · rw [pR_c h h1 h2] at hQ
        have hfin := (hQ _ (wr_rf (rfA (ii (p + 2)))) (aA _)).1 rfl
        simp only [w49_0, w49_1, w49_4, w49_7, w49_8, w49_9, w49_12, w49_13, w49_14, w49_15, w49_18, w49_19, w49_21, w49_24, w49_27, w49_28, w49_29, w49_30, w49_33, w49_35, w49_37, w49_38, w49_41, w49_42, isk_9, cv_9_0, cv_9_1, cv_9_2, cv_9_3, cv_9_4, cv_9_5, isk_17, cv_17_0, cv_17_1, cv_17_2, cv_17_3, cv_17_4, cv_17_5, isk_22, cv_22_0, cv_22_1, cv_22_2, ↓reduceIte, true_and, and_true, vok_int, vok_b0, vok_b1, vok_bb, r_backI, r_backV, bb_eq0, Nat.reduceAdd, Nat.reduceMul, Nat.reduceEqDiff, not_true_eq_false, not_false_eq_true, if_true, if_false, false_and, and_false, c17, c98, n_m1_0, n_m1_1, n_m1_2, n_m1_3, n_m1_4, n_m1_5, n_m1_6, n_0_m1, n_0_1, n_0_2, n_0_3, n_0_4, n_0_5, n_0_6, n_1_m1, n_1_0, n_1_2, n_1_3, n_1_4, n_1_5, n_1_6, n_2_m1, n_2_0, n_2_1, n_2_3, n_2_4, n_2_5, n_2_6, n_3_m1, n_3_0, n_3_1, n_3_2, n_3_4, n_3_5, n_3_6, n_4_m1, n_4_0, n_4_1, n_4_2, n_4_3, n_4_5, n_4_6, n_5_m1, n_5_0, n_5_1, n_5_2, n_5_3, n_5_4, n_5_6, n_6_m1, n_6_0, n_6_1, n_6_2, n_6_3, n_6_4, n_6_5, hs, c50t hx hp h5 h, ne1, c52t (x := 62) (xA (ii (p + 1))) (show p + 1 ≤ n by omega) (aA _) rfl h1, up2, c50f (xA (ii (p + 1 + 1))) (show p + 2 ≤ n by omega) (aA _) h2]
        exact hfin
    · rw [pR_b h h1] at hQ
      have hfin := (hQ _ (wr_rf (rfA (ii (p + 1)))) (aA _)).1 rfl
      simp only [w49_0, w49_1, w49_4, w49_7, w49_8, w49_9, w49_12, w49_13, w49_14, w49_15, w49_18, w49_19, w49_21, w49_24, w49_27, w49_28, isk_9, cv_9_0, cv_9_1, cv_9_2, cv_9_3, cv_9_4, cv_9_5, isk_17, cv_17_0, cv_17_1, cv_17_2, cv_17_3, cv_17_4, cv_17_5, isk_22, cv_22_0, cv_22_1, cv_22_2, ↓reduceIte, true_and, and_true, vok_int, vok_b0, vok_b1, vok_bb, r_backI, r_backV, bb_eq0, Nat.reduceAdd, Nat.reduceMul, Nat.reduceEqDiff, not_true_eq_false, not_false_eq_true, if_true, if_false, false_and, and_false, c17, c98, n_m1_0, n_m1_1, n_m1_2, n_m1_3, n_m1_4, n_m1_5, n_m1_6, n_0_m1, n_0_1, n_0_2, n_0_3, n_0_4, n_0_5, n_0_6, n_1_m1, n_1_0, n_1_2, n_1_3, n_1_4, n_1_5, n_1_6, n_2_m1, n_2_0, n_2_1, n_2_3, n_2_4, n_2_5, n_2_6, n_3_m1, n_3_0, n_3_1, n_3_2, n_3_4, n_3_5, n_3_6, n_4_m1, n_4_0, n_4_1, n_4_2, n_4_3, n_4_5, n_4_6, n_5_m1, n_5_0, n_5_1, n_5_2, n_5_3, n_5_4, n_5_6, n_6_m1, n_6_0, n_6_1, n_6_2, n_6_3, n_6_4, n_6_5, hs, c50t hx hp h5 h, ne1, c52f (x := 62) (xA (ii (p + 1))) (show p + 1 ≤ n by omega) (aA _) rfl (by decide) h1]
      exact hfin
  · rw [pR_a h] at hQ
    have hfin := (hQ mi (wr_rf rf_refl) h5).1 rfl
    simp only [w49_0, w49_1, w49_4, w49_7, w49_8, w49_9, w49_12, w49_13, w49_14, w49_15, w49_18, w49_19, w49_21, w49_24, w49_27, w49_28, isk_9, cv_9_0, cv_9_1, cv_9_2, cv_9_3, cv_9_4, cv_9_5, isk_17, cv_17_0, cv_17_1, cv_17_2, cv_17_3, cv_17_4, cv_17_5, isk_22, cv_22_0, cv_22_1, cv_22_2, ↓reduceIte, true_and, and_true, vok_int, vok_b0, vok_b1, vok_bb, r_backI, r_backV, bb_eq0, Nat.reduceAdd, Nat.reduceMul, Nat.reduceEqDiff, not_true_eq_false, not_false_eq_true, if_true, if_false, false_and, and_false, c17, c98, n_m1_0, n_m1_1, n_m1_2, n_m1_3, n_m1_4, n_m1_5, n_m1_6, n_0_m1, n_0_1, n_0_2, n_0_3, n_0_4, n_0_5, n_0_6, n_1_m1, n_1_0, n_1_2, n_1_3, n_1_4, n_1_5, n_1_6, n_2_m1, n_2_0, n_2_1, n_2_3, n_2_4, n_2_5, n_2_6, n_3_m1, n_3_0, n_3_1, n_3_2, n_3_4, n_3_5, n_3_6, n_4_m1, n_4_0, n_4_1, n_4_2, n_4_3, n_4_5, n_4_6, n_5_m1, n_5_0, n_5_1, n_5_2, n_5_3, n_5_4, n_5_6, n_6_m1, n_6_0, n_6_1, n_6_2, n_6_3, n_6_4, n_6_5, hs, c50f hx hp h5 h]
    exact hfin
end
