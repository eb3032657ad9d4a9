/-! deliver. -/
theorem cv34 {xs : Nat → Int32} {mi : Nat → Nat → Int32} {rw : Nat → Nat} {o : Nat → Int64} {t : Nat} (ht : t < 3) : it_cv xs mi rw o 34 t = .ref (35 + 14 * t) := by
  rcases i_three ht with rfl | rfl | rfl <;> rfl
theorem isk_S {t : Nat} (ht : t < 3) : it_isk 7 (35 + 14 * t) = true := by
  rcases i_three ht with rfl | rfl | rfl
  · exact isk_35
  · exact isk_49
  · exact isk_63
theorem evt_fr {E : EVT} {m m' : Nat → Nat → Int32} {c : Nat} (h : it_evt E m 28 30 31 32 c) (hm : ∀ a, 28 ≤ a → a ≤ 32 → m' a = m a) : it_evt E m' 28 30 31 32 c := by
  unfold it_evt
  rw [hm 28 (by omega) (by omega), hm 30 (by omega) (by omega), hm 31 (by omega) (by omega), hm 32 (by omega) (by omega)]
  exact h
theorem lwC_fr {A : LWT} {m m' : Nat → Nat → Int32} {k : Nat} (h : it_lwC A m k) (hm : ∀ a, 17 ≤ a → a ≤ 26 → m' a = m a) : it_lwC A m' k := by
  obtain ⟨h1, h2, h3, h4, h5, h6⟩ := h
  refine ⟨?_, ?_, h3, ?_, ?_, fun st pr ow ac ro goal => (h6 st pr ow ac ro goal).trans (alw_f (fun a h1 h2 => hm a (by omega) (by omega))).symm⟩
  · rw [hm 25 (by omega) (by omega), hm 26 (by omega) (by omega)]; exact h1
  · rw [hm 18 (by omega) (by omega)]; exact h2
  · rw [hm 17 (by omega) (by omega)]; exact h4
  · rw [hm 20 (by omega) (by omega), hm 21 (by omega) (by omega)]; exact h5
theorem FR_fr {F N : Nat} {m m' : Nat → Nat → Int32} {S : FST} {D : Nat → Prop} (h : it_FR F N m S D) (hm : ∀ a, F + 1 ≤ a → a ≤ F + 5 → m' a = m a) : it_FR F N m' S D := by
  refine ⟨fun i hi => ?_, fun e he hd => ?_⟩
  · rw [hm (F + 4) (by omega) (by omega), hm (F + 1) (by omega) (by omega), hm (F + 2) (by omega) (by omega), hm (F + 3) (by omega) (by omega)]
    exact h.1 i hi
  · rw [hm (F + 5) (by omega) (by omega)]
    exact h.2 e he hd
/-- what a place knows behind a message -/
def kn2 (kn : Nat → Nat → Nat) (t : Nat) (B : Nat → Nat) : Nat → Nat → Nat := fun p q => if p = t ∧ q < 3 then max (kn t q) (B q) else kn p q
def vw2 (vw : Nat → Nat → Nat → Nat) (t f : Nat) (B : Nat → Nat) : Nat → Nat → Nat → Nat := fun p r q => if p = t ∧ r = f ∧ q < 3 then max (vw t f q) (B q) else vw p r q
def tm3 (tm sp : Nat → Nat) (t : Nat) (A B : Nat → Nat) : Nat := tmx (A 2) (B 2) (sp (16 * 2 + (B 2 - 1))) (tmx (A 1) (B 1) (sp (16 * 1 + (B 1 - 1))) (tmx (A 0) (B 0) (sp (16 * 0 + (B 0 - 1))) (tm t)))
theorem kn2_t {kn : Nat → Nat → Nat} {t q : Nat} {B : Nat → Nat} (hq : q < 3) : kn2 kn t B t q = max (kn t q) (B q) := if_pos ⟨rfl, hq⟩
theorem kn2_n {kn : Nat → Nat → Nat} {t p : Nat} {B : Nat → Nat} (hp : p ≠ t) : kn2 kn t B p = kn p := by
  funext q
  exact if_neg (fun h => hp h.1)
theorem kn2_ge {kn : Nat → Nat → Nat} {t p q : Nat} {B : Nat → Nat} : kn p q ≤ kn2 kn t B p q := by
  unfold kn2
  split
  · rename_i h; rw [h.1]; omega
  · exact Nat.le_refl _
theorem kn2_same {kn : Nat → Nat → Nat} {t : Nat} {B : Nat → Nat} (h : ∀ q, q < 3 → B q ≤ kn t q) : kn2 kn t B t = kn t := by
  funext q
  unfold kn2
  split
  · rename_i h1
    have := h q h1.2
    omega
  · rfl
theorem tmx_le {a b st t N : Nat} (h1 : a < b → st ≤ N) (h2 : t ≤ N) : tmx a b st t ≤ N := by
  unfold tmx
  split
  · rename_i h
    have := h1 h
    omega
  · exact h2
theorem tmx_ge {a b st t : Nat} : t ≤ tmx a b st t := by
  unfold tmx
  split <;> omega
theorem tmx_st {a b st t : Nat} (h : a < b) : st ≤ tmx a b st t := by
  unfold tmx
  rw [if_pos h]
  omega
theorem num_deliver {cnt : Nat → Nat} {kn : Nat → Nat → Nat} {vw : Nat → Nat → Nat → Nat} {tm sp A B : Nat → Nat} {t f : Nat} (hN : it_num cnt kn vw tm sp) (ht : t < 3) (hf : f < 3) (hft : f ≠ t) (hm : ∀ q, q < 3 → A q ≤ B q ∧ B q ≤ kn f q ∧ A q ≤ kn t q) :
    it_num cnt (kn2 kn t B) (vw2 vw t f B) (fun p => if p = t then tm3 tm sp t A B else tm p) sp := by
  obtain ⟨n1, n2, n3, n4, n5, n6, n7, n8⟩ := hN
  have hBc : ∀ q, q < 3 → B q ≤ cnt q := fun q hq => Nat.le_trans (hm q hq).2.1 (n2 f q hf hq)
  have hsp : ∀ q, q < 3 → A q < B q → sp (16 * q + (B q - 1)) ≤ cnt 0 + cnt 1 + cnt 2 := fun q hq h => (n6 q (B q - 1) hq (by have := hBc q hq; omega)).2
  have hge : tm t ≤ tm3 tm sp t A B := Nat.le_trans tmx_ge (Nat.le_trans tmx_ge tmx_ge)
  have hst : ∀ q, q < 3 → A q < B q → sp (16 * q + (B q - 1)) ≤ tm3 tm sp t A B := by
    intro q hq h
    unfold tm3
    rcases i_three hq with rfl | rfl | rfl
    · exact Nat.le_trans (tmx_st h) (Nat.le_trans tmx_ge tmx_ge)
    · exact Nat.le_trans (tmx_st h) tmx_ge
    · exact tmx_st h
  refine ⟨n1, fun p q hp hq => ?_, fun p hp => ?_, fun p r q hp hr hq => ?_, fun p hp => ?_, n6, n7, fun p q i hp hq hi => ?_⟩
  · unfold kn2
    have := n2 p q hp hq
    have := hBc q hq
    split
    · rename_i h
      have e := h.1
      subst e
      omega
    · assumption
  · unfold kn2
    have h3 := n3 p hp
    have := hBc p hp
    split
    · rename_i h
      have e := h.1
      subst e
      omega
    · exact h3
  · obtain ⟨v1, v2⟩ := n4 p r q hp hr hq
    have g1 := kn2_ge (kn := kn) (t := t) (p := p) (q := q) (B := B)
    have g2 := kn2_ge (kn := kn) (t := t) (p := r) (q := q) (B := B)
    unfold vw2
    split
    · rename_i h
      obtain ⟨rfl, rfl, -⟩ := h
      rw [kn2_t hq] at g1 ⊢
      rw [kn2_n hft]
      have := (hm q hq).2.1
      omega
    · omega
  · simp only
    split
    · unfold tm3
      exact tmx_le (hsp 2 (by decide)) (tmx_le (hsp 1 (by decide)) (tmx_le (hsp 0 (by decide)) (n5 t ht)))
    · exact n5 p hp
  · simp only
    split
    · rename_i h
      subst h
      by_cases h1 : i < kn p q
      · exact Nat.le_trans (n8 p q i hp hq h1) hge
      · rw [kn2_t hq] at hi
        have h2 := (hm q hq).2.2
        have h3 : i < B q := by omega
        have h4 := hst q hq (by omega)
        have h5 := hBc q hq
        by_cases h6 : i = B q - 1
        · rw [h6]; exact h4
        · exact Nat.le_trans (Nat.le_of_lt (n7 q i (B q - 1) hq (by omega) (by omega))) h4
    · rename_i h
      rw [kn2_n h] at hi
      exact n8 p q i hp hq hi
theorem pst_kn {cnt cnt' : Nat → Nat} {kn kn' : Nat → Nat → Nat} {rw : Nat → Nat} {s s' : Int32} {m r : Nat → Nat → Int32} (h : it_pst cnt kn rw s s' m r) (hk : ∀ p q, kn p q ≤ kn' p q) : it_pst cnt' kn' rw s s' m r := by
  obtain ⟨n, p1, p2, p3, p4, p5, p6⟩ := h
  refine ⟨n, p1, p2, p3, p4, p5, fun k hk2 => ?_⟩
  obtain ⟨f, t, q1, q2, q3, q4, q5, q6, q7, q8⟩ := p6 k hk2
  refine ⟨f, t, q1, q2, q3, q4, q5, q6, q7, fun o ho => ?_⟩
  obtain ⟨a, b, r1, r2, r3, r4⟩ := q8 o ho
  exact ⟨a, b, r1, Nat.le_trans r2 (hk f o), Nat.le_trans r3 (hk t o), r4⟩
section
variable {d : Nat} {Q : im_O → im_M → Prop} {L : Nat} {xs : Nat → Int32} {mi : Nat → Nat → Int32} {rw : Nat → Nat} {o : Nat → Int64} {g z : Nat}
theorem c16n {a : Int32} {v2 v3 v4 : Value} (h : ¬ (0 ≤ a ∧ a < mi 77 1)) : iw (d + 1) 16 0 [.ref 8, .int a, v2, v3, v4] [] (it_mem L xs mi rw o g z) Q ↔ Q (.inl (some (.int (-1)))) (it_mem L xs mi rw o g z) := by
  simp only [w16_0, w16_1, w16_2, w16_5, w16_8, w16_11, w16_14, w16_15, isk_8, cv_8_0, cv_8_1, cv_8_2, cv_8_3, cv_8_4, cv_8_5, cv_8_6, cv_8_7, cv_8_8, isk_77, cv_77_0, cv_77_1, ↓reduceIte, true_and, and_true, vok_int, vok_b0, vok_b1, vok_bb, r_backI, r_backV, bb_eq0, Nat.reduceAdd, Nat.reduceMul, Nat.reduceEqDiff, not_true_eq_false, not_false_eq_true, if_true, if_false, false_and, and_false, c17, c98, eq_false h]
theorem dlC {k n f t : Nat} {cnt : Nat → Nat} {kn : Nat → Nat → Nat} {vw : Nat → Nat → Nat → Nat} {tm sp A B : Nat → Nat} {v2 v3 v4 : Value} (i3 : mi 17 5 = 0 → mi 27 6 = 0) (i6 : it_wfl (it_win 17 25 mi) (it_win 107 111 mi) (mi 99 15) (mi 99 16) (mi 99 20)) (hN : it_num cnt kn vw tm sp) (hG : it_log cnt sp (it_win 27 34 mi) (it_win 113 119 mi)) (i9 : it_sit kn vw tm (it_win 35 77 mi) (it_win 119 122 mi))
    (i11 : it_fol kn sp (it_win 35 77 mi) (it_win 27 34 mi) (it_win 17 25 mi) (it_win 25 27 mi)) (hn : n ≤ 6) (hk : k < n) (hs : mi 77 1 = ii n) (hR : ∀ j, j < 6 → it_isk 8 (rw j) = true) (hR2 : 79 ≤ rw k) (hf : f < 3) (ht : t < 3) (hft : f ≠ t) (m2 : mi (rw k) 2 = ii f) (m3 : mi (rw k) 3 = ii t)
    (hm : ∀ q, q < 3 → mi (rw k + 1) q = ii (A q) ∧ mi (rw k + 2) q = ii (B q)) (hm2 : ∀ q, q < 3 → A q ≤ B q ∧ B q ≤ kn f q ∧ A q ≤ kn t q)
    (hQ : ∀ mi', (∀ a, a ≠ 77 → ¬ (35 + 14 * t ≤ a ∧ a ≤ 48 + 14 * t) → mi' a = mi a) → mi' 77 1 = ii (n - 1) → (∀ q, q < 3 → mi' (36 + 14 * t) q = ii (max (kn t q) (B q)) ∧ mi' (38 + 14 * t + f) q = ii (max (vw t f q) (B q))) → (∀ r, r < 3 → r ≠ f → mi' (38 + 14 * t + r) = mi (38 + 14 * t + r)) → mi' (35 + 14 * t) 3 = ii (tm3 tm sp t A B) →
      it_FR (41 + 14 * t) 48 mi' (it_fold (kn2 kn t B t) sp (it_win 27 34 mi) (it_win 17 25 mi) (it_win 25 27 mi)) (fun e => e ∈ ford (kn2 kn t B t) sp 48 (fun _ => 0)) → Q (.inl (some (.int (ii (B 0 - kn t 0 + (B 1 - kn t 1) + (B 2 - kn t 2)))))) (it_mem L xs mi' (rot rw k n) o g z)) :
    iw (d + 6) 16 0 [.ref 8, .int (ii k), v2, v3, v4] [] (it_mem L xs mi rw o g z) Q := by
  have hRk := hR k (by omega)
  have et : (ii t).toNatClampNeg = t := ii_clamp (by omega)
  have m3' : it_up mi 77 1 (ii (n - 1)) (rw k) 3 = ii t := by rw [it_up_f _ _ _ (by omega)]; exact m3
  simp only [w16_0, w16_1, w16_2, w16_5, w16_8, w16_11, w16_14, w16_15, w16_16, w16_17, w16_20, w16_21, w16_24, w16_25, w16_26, w16_29, w16_30, w16_33, w16_34, w16_35, w16_36, w16_37, w16_38, w16_41, isk_8, cv_8_0, cv_8_1, cv_8_2, cv_8_3, cv_8_4, cv_8_5, cv_8_6, cv_8_7, cv_8_8, isk_77, cv_77_0, cv_77_1, isa_34, ln_34, cv_34_0, cv_34_1, cv_34_2, ↓reduceIte, true_and, and_true, vok_int, vok_b0, vok_b1, vok_bb, r_backI, r_backV, bb_eq0, Nat.reduceAdd, Nat.reduceMul, Nat.reduceEqDiff, not_true_eq_false, not_false_eq_true, if_true, if_false, false_and, and_false, c17, c98, hs, bel (x := ii n) rfl (by omega) hk, c18 hn hk hs hR, hRk, cvg_8_3 hRk, m3', inb3 ht ln_34, et, cv34 ht, isk_S ht]
  have hB16 : ∀ q, q < 3 → B q ≤ 16 := fun q hq => Nat.le_trans (hm2 q hq).2.1 (Nat.le_trans (hN.2.1 f q hf hq) (hN.1 q hq))
  have hBc : ∀ q, q < 3 → B q ≤ cnt q := fun q hq => Nat.le_trans (hm2 q hq).2.1 (hN.2.1 f q hf hq)
  have c0 := hN.1 0 (by decide)
  have c1 := hN.1 1 (by decide)
  have c2 := hN.1 2 (by decide)
  have htm := hN.2.2.2.2.1 t ht
  have hsp : ∀ q j, q < 3 → j < cnt q → sp (16 * q + j) < 1000 := fun q j hq hj => by have := (hN.2.2.2.2.2.1 q j hq hj).2; omega
  have hst : ∀ q, q < 3 → A q < B q → it_up mi 77 1 (ii (n - 1)) 29 (16 * q + (B q - 1)) = ii ((fun q => if A q < B q then sp (16 * q + (B q - 1)) else 0) q) := by
    intro q hq h
    have h1 := (hG.2.2 q (B q - 1) hq (by have := hBc q hq; omega)).2.2.2.2.2.1
    rw [win_at (by omega) (by omega)] at h1
    rw [it_up_f _ _ _ (by decide)]
    simp only [if_pos h]
    exact h1
  refine c19 (S := 35 + 14 * t) (R := rw k) (f := f) (t := tm t) (A := A) (B := B) (K := kn t) (W := vw t f) (st := fun q => if A q < B q then sp (16 * q + (B q - 1)) else 0) (isk_S ht) (by omega) (by omega) hRk hR2 hf (by rw [it_up_f _ _ _ (by omega)]; exact m2) (fun q hq => ?_) (fun q hq => ?_) ?_ (by omega) hst (fun q hq => ?_) (fun ma f1 f2 f3 => ?_)
  · obtain ⟨q1, q2⟩ := hm q hq
    have := hB16 q hq
    have := (hm2 q hq).1
    rw [it_up_f _ _ _ (by omega), it_up_f _ _ _ (by omega)]
    exact ⟨q1, q2, by omega, by omega⟩
  · have q1 := (i9.1 t q ht hq).1
    have q2 := (i9.2.1 t f q ht hf hq).1
    have q3 := hN.2.1 t q ht hq
    have q4 := hN.1 q hq
    have q5 := (hN.2.2.2.1 t f q ht hf hq).1
    rw [win_at (by omega) (by omega)] at q1 q2
    rw [it_up_f _ _ _ (by omega), it_up_f _ _ _ (by omega), show 35 + 14 * t + 1 = 36 + 14 * t by omega, show 35 + 14 * t + 3 + f = 38 + 14 * t + f by omega]
    exact ⟨q1, by omega, q2, by omega⟩
  · have q1 := (i9.2.2 t ht).1
    rw [win_at (by omega) (by omega)] at q1
    rw [it_up_f _ _ _ (by omega)]
    exact q1
  · show (if A q < B q then sp (16 * q + (B q - 1)) else 0) < 1000
    split
    · exact hsp q (B q - 1) hq (by have := hBc q hq; omega)
    · decide
  · have e3 : tmx (A 2) (B 2) ((fun q => if A q < B q then sp (16 * q + (B q - 1)) else 0) 2) (tmx (A 1) (B 1) ((fun q => if A q < B q then sp (16 * q + (B q - 1)) else 0) 1) (tmx (A 0) (B 0) ((fun q => if A q < B q then sp (16 * q + (B q - 1)) else 0) 0) (tm t))) = tm3 tm sp t A B := by
      unfold tm3 tmx
      simp only
      by_cases h0 : A 0 < B 0 <;> by_cases h1 : A 1 < B 1 <;> by_cases h2 : A 2 < B 2 <;> simp [h0, h1, h2]
    rw [e3] at f3
    have f1' : ∀ x, x ≠ 77 → x ≠ 35 + 14 * t → x ≠ 36 + 14 * t → x ≠ 38 + 14 * t + f → ma x = mi x := fun x h7 h1 h2 h3 => by
      rw [f1 x h1 (by omega) (by omega), it_up_f _ _ _ h7]
    have f7 : ma 77 1 = ii (n - 1) := by rw [f1 77 (by omega) (by omega) (by omega), it_up_same]
    have f2' : ∀ q, q < 3 → ma (36 + 14 * t) q = ii (max (kn t q) (B q)) ∧ ma (38 + 14 * t + f) q = ii (max (vw t f q) (B q)) := fun q hq => by
      have := f2 q hq
      rw [show 35 + 14 * t + 1 = 36 + 14 * t by omega, show 35 + 14 * t + 3 + f = 38 + 14 * t + f by omega] at this
      exact this
    have k0' := hN.2.1 t 0 ht (by decide)
    have k1' := hN.2.1 t 1 ht (by decide)
    have k2' := hN.2.1 t 2 ht (by decide)
    have b0 := hB16 0 (by decide)
    have b1 := hB16 1 (by decide)
    have b2 := hB16 2 (by decide)
    by_cases hfr : B 0 - kn t 0 + (B 1 - kn t 1) + (B 2 - kn t 2) = 0
    · have hsame : kn2 kn t B t = kn t := kn2_same (fun q hq => by rcases i_three hq with rfl | rfl | rfl <;> omega)
      rw [hsame] at hQ
      have hfin := hQ ma (fun a h1 h2 => f1' a h1 (by omega) (by omega) (by omega)) f7 f2' (fun r hr hne => f1' _ (by omega) (by omega) (by omega) (by omega)) f3 (FR_fr (i11 t ht) (fun a h1 h2 => by rw [f1' a (by omega) (by omega) (by omega) (by omega), win_at (by omega) (by omega)]))
      have e0 : ii (B 0 - kn t 0 + (B 1 - kn t 1) + (B 2 - kn t 2)) ≤ 0 := by rw [hfr]; decide
      simp only [↓reduceIte, true_and, and_true, vok_int, vok_b0, vok_b1, vok_bb, r_backI, r_backV, bb_eq0, Nat.reduceAdd, Nat.reduceMul, Nat.reduceEqDiff, not_true_eq_false, not_false_eq_true, if_true, if_false, false_and, and_false, c17, c98, w16_44, w16_46, w16_48, w16_51, w16_52, w16_55, w16_56, w16_59, w16_60, w16_63, w16_64, w16_67, w16_70, w16_72, e0]
      exact hfin
    · have e0 : ¬ ii (B 0 - kn t 0 + (B 1 - kn t 1) + (B 2 - kn t 2)) ≤ 0 := by rw [lit_0, ii_le (by omega) (by decide)]; omega
      simp only [↓reduceIte, true_and, and_true, vok_int, vok_b0, vok_b1, vok_bb, r_backI, r_backV, bb_eq0, Nat.reduceAdd, Nat.reduceMul, Nat.reduceEqDiff, not_true_eq_false, not_false_eq_true, if_true, if_false, false_and, and_false, c17, c98, w16_44, w16_46, w16_48, w16_51, w16_52, w16_55, w16_56, w16_59, w16_60, w16_63, w16_64, w16_67, isk_8, cv_8_0, cv_8_1, cv_8_2, cv_8_3, cv_8_4, cv_8_5, cv_8_6, cv_8_7, cv_8_8, e0, isk_S ht, cvg_7_0 (isk_S ht), cvg_7_2 (isk_S ht), iskg_7_2 (isk_S ht)]
      obtain ⟨k', hA⟩ := law_C i6 (no_evt i3 hG hN.1 (n := B 0 - kn t 0 + (B 1 - kn t 1) + (B 2 - kn t 2)) hfr (by have := hBc 0 (by decide); have := hBc 1 (by decide); have := hBc 2 (by decide); omega))
      refine c21 (F := 35 + 14 * t + 6) (P := 35 + 14 * t + 1) (k := k') (kn := kn2 kn t B t) (sp := sp) (E := EC (it_win 27 34 mi)) (A := AC (it_win 17 25 mi) (it_win 25 27 mi)) (S0 := S0) rfl (iskg_7_2 (isk_S ht)) (by omega) (isag_7_0 (isk_S ht)) (by omega) (lng_7_0 (isk_S ht)) (by omega) (fun r hr => ?_) (fun r j hr hj => ?_) (lwC_fr hA (fun a h1 h2 => f1' a (by omega) (by omega) (by omega) (by omega))) (fun mb g1 g2 => ?_)
      · rw [show 35 + 14 * t + 1 = 36 + 14 * t by omega, kn2_t hr]
        have := hB16 r hr
        have := hN.2.1 t r ht hr
        have := hN.1 r hr
        exact ⟨(f2' r hr).1, by omega⟩
      · have hjc : j < cnt r := by
          rw [kn2_t hr] at hj
          have := hBc r hr
          have := hN.2.1 t r ht hr
          omega
        have h1 := (hG.2.2 r j hr hjc).2.2.2.2.2.1
        rw [win_at (by omega) (by omega)] at h1
        refine ⟨?_, hsp r j hr hjc, evt_fr (evt_C (hN.1 r hr) hG hr hjc) (fun a h1 h2 => f1' a (by omega) (by omega) (by omega) (by omega))⟩
        rw [f1' 29 (by omega) (by omega) (by omega) (by omega)]
        exact h1
      · have hfin := hQ mb (fun a h1 h2 => by rw [g1 a (by omega), f1' a h1 (by omega) (by omega) (by omega)]) (by rw [g1 77 (by omega)]; exact f7) (fun q hq => by rw [g1 (36 + 14 * t) (by omega), g1 (38 + 14 * t + f) (by omega)]; exact f2' q hq) (fun r hr hne => by rw [g1 _ (by omega), f1' _ (by omega) (by omega) (by omega) (by omega)]) (by rw [g1 _ (by omega)]; exact f3) (by rw [show 41 + 14 * t = 35 + 14 * t + 6 by omega]; exact g2)
        simp only [↓reduceIte, true_and, and_true, vok_int, vok_b0, vok_b1, vok_bb, r_backI, r_backV, bb_eq0, Nat.reduceAdd, Nat.reduceMul, Nat.reduceEqDiff, not_true_eq_false, not_false_eq_true, if_true, if_false, false_and, and_false, c17, c98, w16_70, w16_72]
        exact hfin
theorem c110n {a : Int32} {v2 v3 : Value} (h : ¬ (0 ≤ a ∧ a < mi 99 33)) : iw (d + 1) 110 0 [.ref 99, .int a, v2, v3] [] (it_mem L xs mi rw o g z) Q ↔ Q (.inl (some (.int (-1)))) (it_mem L xs (it_up mi 99 0 0) rw o g z) := by
  have e0 : ∀ x, it_up mi 99 0 x 99 33 = mi 99 33 := fun x => by rw [it_up_s, if_neg (by decide)]
  by_cases h1 : a < 0
  · simp only [w110_0, w110_1, w110_2, w110_5, w110_6, w110_9, w110_10, w110_11, w110_14, w110_17, w110_18, isk_99, cv_99_0, cv_99_1, cv_99_2, cv_99_3, cv_99_4, cv_99_5, cv_99_6, cv_99_7, cv_99_8, cv_99_9, cv_99_10, cv_99_11, cv_99_12, cv_99_13, cv_99_14, cv_99_15, cv_99_16, cv_99_17, cv_99_18, cv_99_19, cv_99_20, cv_99_21, cv_99_22, cv_99_23, cv_99_24, cv_99_25, cv_99_26, cv_99_27, cv_99_28, cv_99_29, cv_99_30, cv_99_31, cv_99_32, cv_99_33, cv_99_34, cv_99_35, cv_99_36, cv_99_37, cv_99_38, cv_99_39, cv_99_40, cv_99_41, cv_99_42, cv_99_43, cv_99_44, cv_99_45, cv_99_46, ↓reduceIte, true_and, and_true, vok_int, vok_b0, vok_b1, vok_bb, r_backI, r_backV, bb_eq0, Nat.reduceAdd, Nat.reduceMul, Nat.reduceEqDiff, not_true_eq_false, not_false_eq_true, if_true, if_false, false_and, and_false, c17, c98, h1]
  · have h2 : ¬ a < mi 99 33 := fun q => h ⟨i_nlt.mp h1, q⟩
    simp only [w110_0, w110_1, w110_2, w110_5, w110_6, w110_9, w110_10, w110_11, w110_14, w110_17, w110_18, isk_99, cv_99_0, cv_99_1, cv_99_2, cv_99_3, cv_99_4, cv_99_5, cv_99_6, cv_99_7, cv_99_8, cv_99_9, cv_99_10, cv_99_11, cv_99_12, cv_99_13, cv_99_14, cv_99_15, cv_99_16, cv_99_17, cv_99_18, cv_99_19, cv_99_20, cv_99_21, cv_99_22, cv_99_23, cv_99_24, cv_99_25, cv_99_26, cv_99_27, cv_99_28, cv_99_29, cv_99_30, cv_99_31, cv_99_32, cv_99_33, cv_99_34, cv_99_35, cv_99_36, cv_99_37, cv_99_38, cv_99_39, cv_99_40, cv_99_41, cv_99_42, cv_99_43, cv_99_44, cv_99_45, cv_99_46, ↓reduceIte, true_and, and_true, vok_int, vok_b0, vok_b1, vok_bb, r_backI, r_backV, bb_eq0, Nat.reduceAdd, Nat.reduceMul, Nat.reduceEqDiff, not_true_eq_false, not_false_eq_true, if_true, if_false, false_and, and_false, c17, c98, h1, e0, h2]
theorem c110 {k n f t : Nat} {kn : Nat → Nat → Nat} {vw : Nat → Nat → Nat → Nat} {tm sp A B : Nat → Nat} {v2 v3 : Value} (hn : n ≤ 6) (hk : k < n) (hs : mi 99 33 = ii n) (hf : f < 3) (ht : t < 3) (h122 : mi 122 k = ii f) (h123 : mi 123 k = ii t) (hm : ∀ q, q < 3 → mi 124 (3 * k + q) = ii (A q) ∧ mi 125 (3 * k + q) = ii (B q) ∧ A q ≤ B q ∧ B q ≤ 16)
    (hK : ∀ q, q < 3 → mi 119 (3 * t + q) = ii (kn t q) ∧ kn t q ≤ 16) (hW : ∀ q, q < 3 → mi 120 (9 * t + 3 * f + q) = ii (vw t f q) ∧ vw t f q ≤ 16) (hT : mi 121 t = ii (tm t)) (hT2 : tm t < 1000) (hsp : ∀ q j, q < 3 → j < B q → mi 115 (16 * q + j) = ii (sp (16 * q + j)) ∧ sp (16 * q + j) < 1000) (hmo : ∀ q i j, q < 3 → i < j → j < B q → sp (16 * q + i) < sp (16 * q + j))
    (hQ : ∀ ma, (∀ a, a ≠ 119 → a ≠ 120 → a ≠ 121 → ma a = it_up mi 99 0 0 a) → (∀ q, q < 3 → ma 119 (3 * t + q) = ii (max (kn t q) (B q)) ∧ ma 120 (9 * t + 3 * f + q) = ii (max (vw t f q) (B q))) → (∀ j, j < 3 * t ∨ 3 * t + 3 ≤ j → ma 119 j = mi 119 j) → (∀ j, j < 9 * t + 3 * f ∨ 9 * t + 3 * f + 3 ≤ j → ma 120 j = mi 120 j) → ma 121 t = ii (tm3 tm sp t A B) → (∀ j, j ≠ t → ma 121 j = mi 121 j) →
      Q (.inl (some (.int (ii (B 0 - kn t 0 + (B 1 - kn t 1) + (B 2 - kn t 2)))))) (it_mem L xs (sh (it_up ma 99 33 (ii (n - 1))) k (n - 1)) rw o g z)) :
    iw (d + 1) 110 0 [.ref 99, .int (ii k), v2, v3] [] (it_mem L xs mi rw o g z) Q := by
  have h0 : ¬ ii k < 0 := by rw [lit_0, ii_lt (by omega) (by decide)]; omega
  have h1 : ii k < ii n := (ii_lt (by omega) (by omega)).mpr hk
  have e0 : ∀ x, it_up mi 99 0 x 99 33 = ii n := fun x => by rw [it_up_s, if_neg (by decide)]; exact hs
  obtain ⟨a0, b0, ab0, b016⟩ := hm 0 (by decide)
  obtain ⟨a1, b1, ab1, b116⟩ := hm 1 (by decide)
  obtain ⟨a2, b2, ab2, b216⟩ := hm 2 (by decide)
  obtain ⟨kk0, l0⟩ := hK 0 (by decide)
  obtain ⟨kk1, l1⟩ := hK 1 (by decide)
  obtain ⟨kk2, l2⟩ := hK 2 (by decide)
  obtain ⟨w0, x0⟩ := hW 0 (by decide)
  obtain ⟨w1, x1⟩ := hW 1 (by decide)
  obtain ⟨w2, x2⟩ := hW 2 (by decide)
  have bsp : ∀ q, q < 3 → A q < B q → sp (16 * q + (B q - 1)) < 1000 := fun q hq h => (hsp q (B q - 1) hq (by omega)).2
  have t1 : tmx (A 0) (B 0) (sp (16 * 0 + (B 0 - 1))) (tm t) < 1000 := by
    have := tmx_le (N := 999) (fun h => Nat.le_of_lt_succ (bsp 0 (by decide) h)) (Nat.le_of_lt_succ hT2)
    omega
  have t2 : tmx (A 1) (B 1) (sp (16 * 1 + (B 1 - 1))) (tmx (A 0) (B 0) (sp (16 * 0 + (B 0 - 1))) (tm t)) < 1000 := by
    have := tmx_le (N := 999) (fun h => Nat.le_of_lt_succ (bsp 1 (by decide) h)) (Nat.le_of_lt_succ t1)
    omega
  simp only [w110_0, w110_1, w110_2, w110_5, w110_6, w110_9, w110_10, w110_11, w110_14, w110_17, w110_18, w110_19, w110_20, w110_21, w110_22, isk_99, cv_99_0, cv_99_1, cv_99_2, cv_99_3, cv_99_4, cv_99_5, cv_99_6, cv_99_7, cv_99_8, cv_99_9, cv_99_10, cv_99_11, cv_99_12, cv_99_13, cv_99_14, cv_99_15, cv_99_16, cv_99_17, cv_99_18, cv_99_19, cv_99_20, cv_99_21, cv_99_22, cv_99_23, cv_99_24, cv_99_25, cv_99_26, cv_99_27, cv_99_28, cv_99_29, cv_99_30, cv_99_31, cv_99_32, cv_99_33, cv_99_34, cv_99_35, cv_99_36, cv_99_37, cv_99_38, cv_99_39, cv_99_40, cv_99_41, cv_99_42, cv_99_43, cv_99_44, cv_99_45, cv_99_46, ↓reduceIte, true_and, and_true, vok_int, vok_b0, vok_b1, vok_bb, r_backI, r_backV, bb_eq0, Nat.reduceAdd, Nat.reduceMul, Nat.reduceEqDiff, not_true_eq_false, not_false_eq_true, if_true, if_false, false_and, and_false, c17, c98, h0, e0, h1]
  rw [w110_23]
  simp only [w110_24, w110_25, w110_28, w110_29, w110_30, w110_31, w110_32, isk_99, cv_99_0, cv_99_1, cv_99_2, cv_99_3, cv_99_4, cv_99_5, cv_99_6, cv_99_7, cv_99_8, cv_99_9, cv_99_10, cv_99_11, cv_99_12, cv_99_13, cv_99_14, cv_99_15, cv_99_16, cv_99_17, cv_99_18, cv_99_19, cv_99_20, cv_99_21, cv_99_22, cv_99_23, cv_99_24, cv_99_25, cv_99_26, cv_99_27, cv_99_28, cv_99_29, cv_99_30, cv_99_31, cv_99_32, cv_99_33, cv_99_34, cv_99_35, cv_99_36, cv_99_37, cv_99_38, cv_99_39, cv_99_40, cv_99_41, cv_99_42, cv_99_43, cv_99_44, cv_99_45, cv_99_46, ↓reduceIte, true_and, and_true, vok_int, vok_b0, vok_b1, vok_bb, r_backI, r_backV, bb_eq0, Nat.reduceAdd, Nat.reduceMul, Nat.reduceEqDiff, not_true_eq_false, not_false_eq_true, if_true, if_false, false_and, and_false, c17, c98, Int32.reduceLE]
  refine c111 (k := k) (q := 0) (f := f) (t := t) (a := A 0) (b := B 0) (K := kn t 0) (W := vw t f 0) (τ := tm t) (sp := sp) (by omega) (by decide) hf ht b016 ab0 ?_ ?_ ?_ ?_ ?_ l0 ?_ x0 ?_ hT2 (fun e he => ?_) (fun i j hi hj => hmo 0 i j (by decide) hi hj) ?_
  · rw [it_up_f _ _ _ (by decide)]; exact h122
  · rw [it_up_f _ _ _ (by decide)]; exact h123
  · rw [it_up_f _ _ _ (by decide)]; exact a0
  · rw [it_up_f _ _ _ (by decide)]; exact b0
  · rw [it_up_f _ _ _ (by decide)]; exact kk0
  · rw [it_up_f _ _ _ (by decide)]; exact w0
  · rw [it_up_f _ _ _ (by decide)]; exact hT
  · rw [it_up_f _ _ _ (by decide)]; exact hsp 0 e (by decide) he
  have z0 : (0 : Int32) + ii (B 0 - kn t 0) = ii (B 0 - kn t 0) := by rw [lit_0, ii_add, Nat.zero_add]
  simp only [↓reduceIte, true_and, and_true, vok_int, vok_b0, vok_b1, vok_bb, r_backI, r_backV, bb_eq0, Nat.reduceAdd, Nat.reduceMul, Nat.reduceEqDiff, not_true_eq_false, not_false_eq_true, if_true, if_false, false_and, and_false, c17, c98, w110_35, w110_36, w110_37, w110_40, z0, Int32.reduceAdd]
  rw [w110_23]
  simp only [w110_24, w110_25, w110_28, w110_29, w110_30, w110_31, w110_32, isk_99, cv_99_0, cv_99_1, cv_99_2, cv_99_3, cv_99_4, cv_99_5, cv_99_6, cv_99_7, cv_99_8, cv_99_9, cv_99_10, cv_99_11, cv_99_12, cv_99_13, cv_99_14, cv_99_15, cv_99_16, cv_99_17, cv_99_18, cv_99_19, cv_99_20, cv_99_21, cv_99_22, cv_99_23, cv_99_24, cv_99_25, cv_99_26, cv_99_27, cv_99_28, cv_99_29, cv_99_30, cv_99_31, cv_99_32, cv_99_33, cv_99_34, cv_99_35, cv_99_36, cv_99_37, cv_99_38, cv_99_39, cv_99_40, cv_99_41, cv_99_42, cv_99_43, cv_99_44, cv_99_45, cv_99_46, ↓reduceIte, true_and, and_true, vok_int, vok_b0, vok_b1, vok_bb, r_backI, r_backV, bb_eq0, Nat.reduceAdd, Nat.reduceMul, Nat.reduceEqDiff, not_true_eq_false, not_false_eq_true, if_true, if_false, false_and, and_false, c17, c98, Int32.reduceLE]
  refine c111 (k := k) (q := 1) (f := f) (t := t) (a := A 1) (b := B 1) (K := kn t 1) (W := vw t f 1) (τ := tmx (A 0) (B 0) (sp (16 * 0 + (B 0 - 1))) (tm t)) (sp := sp) (by omega) (by decide) hf ht b116 ab1 ?_ ?_ ?_ ?_ ?_ l1 ?_ x1 ?_ t1 (fun e he => ?_) (fun i j hi hj => hmo 1 i j (by decide) hi hj) ?_
  · simp (disch := omega) only [it_up_f]; exact h122
  · simp (disch := omega) only [it_up_f]; exact h123
  · simp (disch := omega) only [it_up_f]; exact a1
  · simp (disch := omega) only [it_up_f]; exact b1
  · simp (disch := omega) only [it_up_f, it_up_j]; exact kk1
  · simp (disch := omega) only [it_up_f, it_up_j]; exact w1
  · simp (disch := omega) only [it_up_f, it_up_same]
  · simp (disch := omega) only [it_up_f]; exact hsp 1 e (by decide) he
  have z1 : ii (B 0 - kn t 0) + ii (B 1 - kn t 1) = ii (B 0 - kn t 0 + (B 1 - kn t 1)) := ii_add
  simp only [↓reduceIte, true_and, and_true, vok_int, vok_b0, vok_b1, vok_bb, r_backI, r_backV, bb_eq0, Nat.reduceAdd, Nat.reduceMul, Nat.reduceEqDiff, not_true_eq_false, not_false_eq_true, if_true, if_false, false_and, and_false, c17, c98, w110_35, w110_36, w110_37, w110_40, z1, Int32.reduceAdd]
  rw [w110_23]
  simp only [w110_24, w110_25, w110_28, w110_29, w110_30, w110_31, w110_32, isk_99, cv_99_0, cv_99_1, cv_99_2, cv_99_3, cv_99_4, cv_99_5, cv_99_6, cv_99_7, cv_99_8, cv_99_9, cv_99_10, cv_99_11, cv_99_12, cv_99_13, cv_99_14, cv_99_15, cv_99_16, cv_99_17, cv_99_18, cv_99_19, cv_99_20, cv_99_21, cv_99_22, cv_99_23, cv_99_24, cv_99_25, cv_99_26, cv_99_27, cv_99_28, cv_99_29, cv_99_30, cv_99_31, cv_99_32, cv_99_33, cv_99_34, cv_99_35, cv_99_36, cv_99_37, cv_99_38, cv_99_39, cv_99_40, cv_99_41, cv_99_42, cv_99_43, cv_99_44, cv_99_45, cv_99_46, ↓reduceIte, true_and, and_true, vok_int, vok_b0, vok_b1, vok_bb, r_backI, r_backV, bb_eq0, Nat.reduceAdd, Nat.reduceMul, Nat.reduceEqDiff, not_true_eq_false, not_false_eq_true, if_true, if_false, false_and, and_false, c17, c98, Int32.reduceLE]
  refine c111 (k := k) (q := 2) (f := f) (t := t) (a := A 2) (b := B 2) (K := kn t 2) (W := vw t f 2) (τ := tmx (A 1) (B 1) (sp (16 * 1 + (B 1 - 1))) (tmx (A 0) (B 0) (sp (16 * 0 + (B 0 - 1))) (tm t))) (sp := sp) (by omega) (by decide) hf ht b216 ab2 ?_ ?_ ?_ ?_ ?_ l2 ?_ x2 ?_ t2 (fun e he => ?_) (fun i j hi hj => hmo 2 i j (by decide) hi hj) ?_
  · simp (disch := omega) only [it_up_f]; exact h122
  · simp (disch := omega) only [it_up_f]; exact h123
  · simp (disch := omega) only [it_up_f]; exact a2
  · simp (disch := omega) only [it_up_f]; exact b2
  · simp (disch := omega) only [it_up_f, it_up_j]; exact kk2
  · simp (disch := omega) only [it_up_f, it_up_j]; exact w2
  · simp (disch := omega) only [it_up_f, it_up_same]
  · simp (disch := omega) only [it_up_f]; exact hsp 2 e (by decide) he
  have z2 : ii (B 0 - kn t 0 + (B 1 - kn t 1)) + ii (B 2 - kn t 2) = ii (B 0 - kn t 0 + (B 1 - kn t 1) + (B 2 - kn t 2)) := ii_add
  simp only [↓reduceIte, true_and, and_true, vok_int, vok_b0, vok_b1, vok_bb, r_backI, r_backV, bb_eq0, Nat.reduceAdd, Nat.reduceMul, Nat.reduceEqDiff, not_true_eq_false, not_false_eq_true, if_true, if_false, false_and, and_false, c17, c98, w110_35, w110_36, w110_37, w110_40, z2, Int32.reduceAdd]
  rw [w110_23]
  simp only [w110_24, w110_25, w110_28, w110_29, w110_30, w110_31, w110_32, w110_35, w110_36, w110_37, w110_40, w110_43, w110_44, w110_45, isk_99, cv_99_0, cv_99_1, cv_99_2, cv_99_3, cv_99_4, cv_99_5, cv_99_6, cv_99_7, cv_99_8, cv_99_9, cv_99_10, cv_99_11, cv_99_12, cv_99_13, cv_99_14, cv_99_15, cv_99_16, cv_99_17, cv_99_18, cv_99_19, cv_99_20, cv_99_21, cv_99_22, cv_99_23, cv_99_24, cv_99_25, cv_99_26, cv_99_27, cv_99_28, cv_99_29, cv_99_30, cv_99_31, cv_99_32, cv_99_33, cv_99_34, cv_99_35, cv_99_36, cv_99_37, cv_99_38, cv_99_39, cv_99_40, cv_99_41, cv_99_42, cv_99_43, cv_99_44, cv_99_45, cv_99_46, ↓reduceIte, true_and, and_true, vok_int, vok_b0, vok_b1, vok_bb, r_backI, r_backV, bb_eq0, Nat.reduceAdd, Nat.reduceMul, Nat.reduceEqDiff, not_true_eq_false, not_false_eq_true, if_true, if_false, false_and, and_false, c17, c98, Int32.reduceLE]
  rw [c112 hn hk (by simp (disch := omega) only [it_up_f]; exact e0 0)]
  simp only [↓reduceIte, true_and, and_true, vok_int, vok_b0, vok_b1, vok_bb, r_backI, r_backV, bb_eq0, Nat.reduceAdd, Nat.reduceMul, Nat.reduceEqDiff, not_true_eq_false, not_false_eq_true, if_true, if_false, false_and, and_false, c17, c98, w110_48, w110_49]
  refine hQ _ (fun a g1 g2 g3 => ?_) (fun q hq => ?_) (fun j hj => ?_) (fun j hj => ?_) ?_ (fun j hj => ?_)
  · simp (disch := assumption) only [it_up_f]
  · rcases i_three hq with rfl | rfl | rfl
    · constructor
      · simp (disch := omega) only [it_up_f, it_up_j, it_up_same]
      · simp (disch := omega) only [it_up_f, it_up_j, it_up_same]
    · constructor
      · simp (disch := omega) only [it_up_f, it_up_j, it_up_same]
      · simp (disch := omega) only [it_up_f, it_up_j, it_up_same]
    · constructor
      · simp (disch := omega) only [it_up_f, it_up_j, it_up_same]
      · simp (disch := omega) only [it_up_f, it_up_j, it_up_same]
  · simp (disch := omega) only [it_up_f, it_up_j]
  · simp (disch := omega) only [it_up_f, it_up_j]
  · simp (disch := omega) only [it_up_f, it_up_same]
    rfl
  · simp (disch := omega) only [it_up_f, it_up_j]
end
