/-! Fold.rebuild. -/
theorem FR_cong {F N : Nat} {m m' : Nat → Nat → Int32} {S : FST} {D D' : Nat → Prop} (h : it_FR F N m S D) (hm : ∀ a, F + 1 ≤ a → a ≤ F + 5 → m' a = m a) (hD : ∀ e, D' e → D e) : it_FR F N m' S D' := by
  refine ⟨fun i hi => ?_, fun e he hd => ?_⟩
  · rw [hm (F + 4) (by omega) (by omega), hm (F + 1) (by omega) (by omega), hm (F + 2) (by omega) (by omega), hm (F + 3) (by omega) (by omega)]
    exact h.1 i hi
  · rw [hm (F + 5) (by omega) (by omega)]
    exact h.2 e he (hD e hd)
theorem lwC_cong {A : LWT} {m m' : Nat → Nat → Int32} {k : Nat} (h : it_lwC A m k) (hm : ∀ a, a ≤ 40 → m' a = m a) : it_lwC A m' k := by
  obtain ⟨a1, a2, a3, a4, a5, a6⟩ := h
  refine ⟨?_, ?_, a3, ?_, ?_, fun st pr ow ac ro goal => (a6 st pr ow ac ro goal).trans (alw_f (fun a _ _ => hm a (by omega))).symm⟩
  · rw [hm 25 (by omega), hm 26 (by omega)]; exact a1
  · rw [hm 18 (by omega)]; exact a2
  · rw [hm 17 (by omega)]; exact a4
  · rw [hm 20 (by omega), hm 21 (by omega)]; exact a5
theorem evt_cong {E : EVT} {m m' : Nat → Nat → Int32} {c : Nat} (h : it_evt E m 28 30 31 32 c) (hm : ∀ a, a ≤ 40 → m' a = m a) : it_evt E m' 28 30 31 32 c := by
  unfold it_evt
  rw [hm 28 (by omega), hm 30 (by omega), hm 31 (by omega), hm 32 (by omega)]
  exact h
section
variable {d : Nat} {Q : im_O → im_M → Prop} {L : Nat} {xs : Nat → Int32} {rw : Nat → Nat} {o : Nat → Int64} {g z : Nat}
theorem c21C {F P k : Nat} {kn sp : Nat → Nat} {E : EVT} {A : LWT} (hF : it_isk 6 F = true) (hF2 : 41 ≤ F) (hP : it_isa .int P = true) (hP0 : P ≠ 0) (hPl : it_ln L P = 3) (hPF : P ≤ F ∨ F + 8 ≤ P) : ∀ (n t : Nat) (nx : Nat → Nat) (S : FST) (D : Nat → Prop) (mi : Nat → Nat → Int32) (v : Value), t + n = 48 →
    (∀ r, r < 3 → mi (F + 6) r = ii (nx r) ∧ nx r ≤ 16 ∧ mi P r = ii (kn r) ∧ kn r ≤ 16) → (∀ r j, r < 3 → j < kn r → mi 29 (16 * r + j) = ii (sp (16 * r + j)) ∧ sp (16 * r + j) < 1000 ∧ it_evt E mi 28 30 31 32 (16 * r + j)) → it_lwC A mi k → it_FR F t mi S D →
    (∀ mi', (∀ a, a ≤ F ∨ F + 8 ≤ a → mi' a = mi a) → it_FR F 48 mi' (List.foldl (fstep E A) S (ford kn sp n nx)) (fun e => D e ∨ e ∈ ford kn sp n nx) → Q (.inl none) (it_mem L xs mi' rw o g z)) →
    iw (d + 5) 21 50 [.ref F, .ref P, .ref 27, .ref 16, .int (ii t), v] [] (it_mem L xs mi rw o g z) Q := by
  intro n
  induction n with
  | zero =>
    intro t nx S D mi v ht hn hs hA hS hQ
    have e1 : (48 : Int32) ≤ ii t := by rw [lit_48, ii_le (by decide) (by omega)]; omega
    rw [w21_50]
    simp only [w21_52, w21_54, w21_107, ↓reduceIte, true_and, and_true, vok_int, vok_b0, vok_b1, vok_bb, r_backI, r_backV, bb_eq0, Nat.reduceAdd, Nat.reduceMul, Nat.reduceEqDiff, not_true_eq_false, not_false_eq_true, if_true, if_false, false_and, and_false, c17, c98, e1]
    refine hQ mi (fun _ _ => rfl) ?_
    have et : t = 48 := by omega
    subst et
    exact FR_cong hS (fun _ _ _ => rfl) (fun e he => by rcases he with he | he; exact he; cases he)
  | succ n ih =>
    intro t nx S D mi v ht hn hs hA hS hQ
    have e1 : ¬ (48 : Int32) ≤ ii t := by rw [lit_48, ii_le (by decide) (by omega)]; omega
    have e2 : ii t + 1 = ii (t + 1) := ii_add (b := 1)
    rw [w21_50]
    simp only [w21_52, w21_54, w21_57, w21_58, w21_59, w21_60, isk_27, cv_27_0, cv_27_1, cv_27_2, cv_27_3, cv_27_4, cv_27_5, cv_27_6, ↓reduceIte, true_and, and_true, vok_int, vok_b0, vok_b1, vok_bb, r_backI, r_backV, bb_eq0, Nat.reduceAdd, Nat.reduceMul, Nat.reduceEqDiff, not_true_eq_false, not_false_eq_true, if_true, if_false, false_and, and_false, c17, c98, e1, hF]
    refine c22 (sp := sp) (kn := kn) (nx := nx) hF hP hP0 hPl hn (fun r hr hk => ⟨(hs r (nx r) hr hk).1, (hs r (nx r) hr hk).2.1⟩) ?_
    cases hb : fbest nx kn sp with
    | none =>
      have ef : ford kn sp (n + 1) nx = [] := by
        show (match fbest nx kn sp with | none => [] | some o => _) = _
        rw [hb]
      rw [ef] at hQ
      simp only [ob, r_backI, w21_63, w21_65, w21_67, w21_68, w21_71, ↓reduceIte, true_and, and_true, vok_int, vok_b0, vok_b1, vok_bb, r_backI, r_backV, bb_eq0, Nat.reduceAdd, Nat.reduceMul, Nat.reduceEqDiff, not_true_eq_false, not_false_eq_true, if_true, if_false, false_and, and_false, c17, c98]
      refine hQ mi (fun _ _ => rfl) ?_
      have h9 : it_FR F 48 mi S D := ⟨fun i hi => ⟨(hS.1 i hi).1, by have := (hS.1 i hi).2.1; omega, (hS.1 i hi).2.2⟩, hS.2⟩
      exact FR_cong h9 (fun _ _ _ => rfl) (fun e he => by rcases he with he | he; exact he; cases he)
    | some q =>
      obtain ⟨hq, hq2⟩ := fbest_some hb
      obtain ⟨n1, n2, n3, n4⟩ := hn q hq
      have ef : ford kn sp (n + 1) nx = (16 * q + nx q) :: ford kn sp n (va_up nx q (nx q + 1)) := by
        show (match fbest nx kn sp with | none => [] | some o => (16 * o + nx o) :: ford kn sp n (va_up nx o (nx o + 1))) = _
        rw [hb]
      rw [ef] at hQ
      have m1 : ¬ ii q = -1 := ii_m1 (by omega)
      have eq : (ii q).toNatClampNeg = q := ii_clamp (by omega)
      have b2 : it_inb L (F + 6) (ii q) := inb3 hq (lng_6_5 hF)
      have c1 : ii q * 16 + ii (nx q) = ii (16 * q + nx q) := by
        rw [lit_16, ii_mul, ii_add, Nat.mul_comm]
      simp only [ob, r_backI, w21_63, w21_65, w21_67, w21_68, w21_71, w21_72, w21_73, w21_75, w21_76, w21_79, w21_81, w21_82, w21_85, w21_86, w21_87, isk_16, cv_16_0, cv_16_1, cv_16_2, isk_27, cv_27_0, cv_27_1, cv_27_2, cv_27_3, cv_27_4, cv_27_5, cv_27_6, ↓reduceIte, true_and, and_true, vok_int, vok_b0, vok_b1, vok_bb, r_backI, r_backV, bb_eq0, Nat.reduceAdd, Nat.reduceMul, Nat.reduceEqDiff, not_true_eq_false, not_false_eq_true, if_true, if_false, false_and, and_false, c17, c98, m1, hF, cvg_6_5 hF, isag_6_5 hF, cvag_6_5 hF, b2, eq, n1, c20, c1]
      refine c23 hF hF2 (by omega) (hs q (nx q) hq hq2).2.2 hA (by omega) hS (fun mi1 hm1 hS1 => ?_)
      have g1 : mi1 (F + 6) q = ii (nx q) := by rw [hm1 (F + 6) (by omega)]; exact n1
      have g2 : ii (nx q) + 1 = ii (nx q + 1) := ii_add (b := 1)
      have g8 : 8 ≤ F + 6 := by omega
      simp only [↓reduceIte, true_and, and_true, vok_int, vok_b0, vok_b1, vok_bb, r_backI, r_backV, bb_eq0, Nat.reduceAdd, Nat.reduceMul, Nat.reduceEqDiff, not_true_eq_false, not_false_eq_true, if_true, if_false, false_and, and_false, c17, c98, w21_90, w21_91, w21_94, w21_96, w21_97, w21_98, w21_99, w21_100, w21_101, w21_104, hF, cvg_6_5 hF, isag_6_5 hF, cvag_6_5 hF, b2, eq, g1, g2, g8, e2]
      have hmm : ∀ a, a ≤ F ∨ F + 8 ≤ a → it_up mi1 (F + 6) q (ii (nx q + 1)) a = mi a := fun a ha => by
        rw [it_up_f _ _ _ (by omega)]
        exact hm1 a (by omega)
      refine ih (t + 1) (va_up nx q (nx q + 1)) (fstep E A S (16 * q + nx q)) (fun e => D e ∨ e = 16 * q + nx q) _ _ (by omega) (fun r hr => ?_) (fun r j hr hj => ?_) (lwC_cong hA (fun a ha => hmm a (by omega))) (FR_cong hS1 (fun a h1 h2 => it_up_f _ _ _ (by omega)) (fun _ h => h)) (fun mi' hm' hS' => ?_)
      · obtain ⟨r1, r2, r3, r4⟩ := hn r hr
        refine ⟨?_, ?_, ?_, r4⟩
        · rw [it_up_s]
          by_cases e : r = q
          · subst e; rw [if_pos rfl, va_up_self]
          · rw [if_neg e, va_up_ne _ _ e, hm1 (F + 6) (by omega)]; exact r1
        · by_cases e : r = q
          · subst e; rw [va_up_self]; omega
          · rw [va_up_ne _ _ e]; exact r2
        · rw [hmm P hPF]; exact r3
      · obtain ⟨s1, s2, s3⟩ := hs r j hr hj
        refine ⟨?_, s2, evt_cong s3 (fun a ha => hmm a (by omega))⟩
        rw [hmm 29 (by omega)]
        exact s1
      · refine hQ mi' (fun a ha => by rw [hm' a ha, hmm a ha]) ?_
        exact FR_cong hS' (fun _ _ _ => rfl) (fun e he => by
          rcases he with he | he
          · exact Or.inl (Or.inl he)
          · rcases List.mem_cons.mp he with he | he
            · exact Or.inl (Or.inr he)
            · exact Or.inr he)
theorem c21A {F P : Nat} (hF : it_isk 6 F = true) (hF2 : 41 ≤ F) {mi : Nat → Nat → Int32} {v : Value} : ∀ (n t : Nat), t + n = 48 → (iw d 21 3 [.ref F, .ref P, .ref 27, .ref 16, .int (ii t), v] [] (it_mem L xs (fun a b => if a = F + 4 ∧ b < t then 0 else mi a b) rw o g z) Q ↔ iw d 21 24 [.ref F, .ref P, .ref 27, .ref 16, .int (ii 48), v] [] (it_mem L xs (fun a b => if a = F + 4 ∧ b < 48 then 0 else mi a b) rw o g z) Q) := by
  intro n
  induction n with
  | zero =>
    intro t ht
    have et : t = 48 := by omega
    subst et
    have e1 : (48 : Int32) ≤ ii 48 := by decide
    rw [w21_3]
    simp only [w21_5, w21_7, ↓reduceIte, true_and, and_true, vok_int, vok_b0, vok_b1, vok_bb, r_backI, r_backV, bb_eq0, Nat.reduceAdd, Nat.reduceMul, Nat.reduceEqDiff, not_true_eq_false, not_false_eq_true, if_true, if_false, false_and, and_false, c17, c98, e1]
  | succ n ih =>
    intro t ht
    have e1 : ¬ (48 : Int32) ≤ ii t := by rw [lit_48, ii_le (by decide) (by omega)]; omega
    have e2 : ii t + 1 = ii (t + 1) := ii_add (b := 1)
    have e3 : (ii t).toNatClampNeg = t := ii_clamp (by omega)
    have b1 : it_inb L (F + 4) (ii t) := ii_inb (by omega) (by rw [lng_6_3 hF]; omega)
    have g1 : 8 ≤ F + 4 := by omega
    have em : it_up (fun a b => if a = F + 4 ∧ b < t then 0 else mi a b) (F + 4) t 0 = fun a b => if a = F + 4 ∧ b < t + 1 then 0 else mi a b := by
      funext a b
      rw [it_up_app]
      by_cases h : a = F + 4 ∧ b = t
      · rw [if_pos h, if_pos (by omega)]
      · rw [if_neg h]
        by_cases h2 : a = F + 4 ∧ b < t
        · rw [if_pos h2, if_pos (by omega)]
        · rw [if_neg h2, if_neg (by omega)]
    rw [← ih (t + 1) (by omega), w21_3]
    simp only [w21_5, w21_7, w21_10, w21_11, w21_14, w21_16, w21_17, w21_18, w21_21, ↓reduceIte, true_and, and_true, vok_int, vok_b0, vok_b1, vok_bb, r_backI, r_backV, bb_eq0, Nat.reduceAdd, Nat.reduceMul, Nat.reduceEqDiff, not_true_eq_false, not_false_eq_true, if_true, if_false, false_and, and_false, c17, c98, e1, hF, cvg_6_3 hF, isag_6_3 hF, b1, e3, g1, em, e2]
theorem c21 {F P k : Nat} {kn sp : Nat → Nat} {E : EVT} {A : LWT} {mi : Nat → Nat → Int32} {v4 v5 : Value} {S0 : FST} (h0 : S0.1 = fun _ => 0) (hF : it_isk 6 F = true) (hF2 : 41 ≤ F) (hP : it_isa .int P = true) (hP0 : P ≠ 0) (hPl : it_ln L P = 3) (hPF : P ≤ F ∨ F + 8 ≤ P)
    (hn : ∀ r, r < 3 → mi P r = ii (kn r) ∧ kn r ≤ 16) (hs : ∀ r j, r < 3 → j < kn r → mi 29 (16 * r + j) = ii (sp (16 * r + j)) ∧ sp (16 * r + j) < 1000 ∧ it_evt E mi 28 30 31 32 (16 * r + j)) (hA : it_lwC A mi k)
    (hQ : ∀ mi', (∀ a, a ≤ F ∨ F + 8 ≤ a → mi' a = mi a) → it_FR F 48 mi' (List.foldl (fstep E A) S0 (ford kn sp 48 (fun _ => 0))) (fun e => e ∈ ford kn sp 48 (fun _ => 0)) → Q (.inl none) (it_mem L xs mi' rw o g z)) :
    iw (d + 5) 21 0 [.ref F, .ref P, .ref 27, .ref 16, v4, v5] [] (it_mem L xs mi rw o g z) Q := by
  have e0 : (0 : Int32) = ii 0 := rfl
  have ez : (fun a b => if a = F + 4 ∧ b < 0 then 0 else mi a b) = mi := by
    funext a b
    rw [if_neg (by omega)]
  have hA1 := c21A (d := d + 5) (L := L) (xs := xs) (rw := rw) (o := o) (g := g) (z := z) (Q := Q) (P := P) (mi := mi) (v := v5) hF hF2 48 0 (by omega)
  rw [ez] at hA1
  simp only [w21_0, w21_1]
  rw [e0, hA1]
  have b0 : it_inb L (F + 6) 0 := in30 (lng_6_5 hF)
  have b1 : it_inb L (F + 6) 1 := in31 (lng_6_5 hF)
  have b2 : it_inb L (F + 6) 2 := in32 (lng_6_5 hF)
  have g8 : 8 ≤ F + 6 := by omega
  simp only [w21_24, w21_25, w21_27, w21_29, w21_30, w21_33, w21_34, w21_37, w21_39, w21_40, w21_41, w21_44, w21_47, w21_48, ↓reduceIte, true_and, and_true, vok_int, vok_b0, vok_b1, vok_bb, r_backI, r_backV, bb_eq0, Nat.reduceAdd, Nat.reduceMul, Nat.reduceEqDiff, not_true_eq_false, not_false_eq_true, if_true, if_false, false_and, and_false, c17, c98, hF, cvg_6_5 hF, isag_6_5 hF, Int32.reduceLE, Int32.reduceAdd, k0, k1, k2, b0, b1, b2, g8]
  have hmm : ∀ a, a ≤ F ∨ F + 8 ≤ a → (it_up (it_up (it_up (fun a b => if a = F + 4 ∧ b < 48 then 0 else mi a b) (F + 6) 0 0) (F + 6) 1 0) (F + 6) 2 0) a = mi a := by
    intro a ha
    rw [it_up_f _ _ _ (by omega), it_up_f _ _ _ (by omega), it_up_f _ _ _ (by omega)]
    funext b
    rw [if_neg (by omega)]
  refine c21C (kn := kn) (sp := sp) (E := E) (A := A) (k := k) hF hF2 hP hP0 hPl hPF 48 0 (fun _ => 0) S0 (fun _ => False) _ _ (by omega) (fun r hr => ?_) (fun r j hr hj => ?_) (lwC_cong hA (fun a ha => hmm a (by omega))) ?_ (fun mi' hm' hS' => hQ mi' (fun a ha => by rw [hm' a ha, hmm a ha]) (FR_cong hS' (fun _ _ _ => rfl) (fun e he => Or.inr he)))
  · obtain ⟨n1, n2⟩ := hn r hr
    refine ⟨?_, Nat.zero_le _, by rw [hmm P hPF]; exact n1, n2⟩
    rcases i_three hr with rfl | rfl | rfl <;> simp [it_up_app] <;> rfl
  · obtain ⟨s1, s2, s3⟩ := hs r j hr hj
    exact ⟨by rw [hmm 29 (by omega)]; exact s1, s2, evt_cong s3 (fun a ha => hmm a (by omega))⟩
  · refine ⟨fun i hi => ?_, fun e he hd => hd.elim⟩
    rw [h0]
    refine ⟨?_, Nat.le_refl 0, fun h => absurd rfl h⟩
    rw [it_up_f _ _ _ (by omega), it_up_f _ _ _ (by omega), it_up_f _ _ _ (by omega)]
    simp only
    rw [if_pos ⟨trivial, hi⟩]
    first | rfl | done
end
