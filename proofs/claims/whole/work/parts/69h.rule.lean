/-! The reference's hasRule. -/
/-- what hasRule rests on: the rules as both sides keep them -/
def it_W (wf ro mi : Nat → Nat → Int32) : Prop := ∃ (k S : Nat) (T : Nat → Nat), k ≤ 30 ∧ wf 17 5 = ii k ∧ mi 99 16 = ii k ∧ mi 99 20 = ii S ∧ S ≤ 120 ∧ (∀ j, j < S → mi 110 j = ii (T j)) ∧ (∀ j, S ≤ j → T j = 0) ∧ (∀ q, q < k → it_rul wf mi T S q) ∧ ∀ u, u < 4 → mi 111 u = ro 25 u
theorem rul_fr {m r r' : Nat → Nat → Int32} {T : Nat → Nat} {S q : Nat} (h : it_rul m r T S q) (h7 : r' 107 = r 107) (h8 : r' 108 = r 108) (h9 : r' 109 = r 109) : it_rul m r' T S q := by
  unfold it_rul
  rw [h7, h8, h9]
  exact h
theorem W_fr {wf ro mi mi' : Nat → Nat → Int32} (h : it_W wf ro mi) (hm : ∀ a, 107 ≤ a → a ≤ 112 → mi' a = mi a) (h1 : mi' 99 16 = mi 99 16) (h2 : mi' 99 20 = mi 99 20) : it_W wf ro mi' := by
  obtain ⟨k, S, T, w1, w2, w3, w4, w5, w6, w7, w8, w9⟩ := h
  refine ⟨k, S, T, w1, w2, by rw [h1]; exact w3, by rw [h2]; exact w4, w5, fun j hj => by rw [hm 110 (by omega) (by omega)]; exact w6 j hj, w7, fun q hq => rul_fr (w8 q hq) (hm 107 (by omega) (by omega)) (hm 108 (by omega) (by omega)) (hm 109 (by omega) (by omega)), fun u hu => by rw [hm 111 (by omega) (by omega)]; exact w9 u hu⟩
section
variable {d : Nat} {Q : im_O → im_M → Prop} {L : Nat} {xs : Nat → Int32} {rw : Nat → Nat} {o : Nat → Int64} {g z : Nat}
/-- a rule lets it pass -/
def it_R (wf : Nat → Nat → Int32) (st pr ow ac ro goal : Int32) (r : Nat) : Prop := wf 18 r = st ∧ wf 19 r = goal ∧ hC (wf 23) (wf 24) st pr ow ac ro (wf 20 r).toNatClampNeg (wf 21 r).toNatClampNeg
theorem c105L {k S i u : Nat} {T : Nat → Nat} {goal : Int32} {wf mi0 : Nat → Nat → Int32} (hk : k ≤ 30) (hS : S ≤ 120) (w3 : mi0 99 16 = ii k) (w4 : mi0 99 20 = ii S) (w6 : ∀ j, j < S → mi0 110 j = ii (T j)) (w7 : ∀ j, S ≤ j → T j = 0) (w8 : ∀ q, q < k → it_rul wf mi0 T S q) (hi : i < 48) (hu : u < 4) :
    ∀ (m q : Nat) (has : Prop) (mi : Nat → Nat → Int32), m + q = k → (∀ a, a < 104 ∨ 107 ≤ a → mi a = mi0 a) →
    (∀ mi', (∀ a, a < 104 ∨ 107 ≤ a → mi' a = mi0 a) → Q (.inl (some (.int (bb (has ∨ ∃ r, q ≤ r ∧ r < k ∧ it_R wf (mi0 127 i) (mi0 128 i) (mi0 129 i) (ii u) (mi0 111 u) goal r))))) (it_mem L xs mi' rw o g z)) →
    iw (d + 3) 105 6 [.ref 99, .int (ii i), .int (ii u), .int goal, .int (bb has), .int (ii q)] [] (it_mem L xs mi rw o g z) Q := by
  intro m
  induction m with
  | zero =>
    intro q has mi hm hf hQ
    have e1 : ii k ≤ ii q := (ii_le (by omega) (by omega)).mpr (by omega)
    have r3 : mi 99 16 = ii k := by rw [hf 99 (by omega)]; exact w3
    have hfin := hQ mi hf
    have e9 : bb (has ∨ ∃ r, q ≤ r ∧ r < k ∧ it_R wf (mi0 127 i) (mi0 128 i) (mi0 129 i) (ii u) (mi0 111 u) goal r) = bb has := by
      apply bb_inj.mpr
      constructor
      · rintro (h | ⟨r, h1, h2, -⟩)
        · exact h
        · omega
      · exact Or.inl
    rw [e9] at hfin
    rw [w105_6]
    simp only [w105_8, w105_9, w105_12, w105_94, w105_96, isk_99, cv_99_0, cv_99_1, cv_99_2, cv_99_3, cv_99_4, cv_99_5, cv_99_6, cv_99_7, cv_99_8, cv_99_9, cv_99_10, cv_99_11, cv_99_12, cv_99_13, cv_99_14, cv_99_15, cv_99_16, cv_99_17, cv_99_18, cv_99_19, cv_99_20, cv_99_21, cv_99_22, cv_99_23, cv_99_24, cv_99_25, cv_99_26, cv_99_27, cv_99_28, cv_99_29, cv_99_30, cv_99_31, cv_99_32, cv_99_33, cv_99_34, cv_99_35, cv_99_36, cv_99_37, cv_99_38, cv_99_39, cv_99_40, cv_99_41, cv_99_42, cv_99_43, cv_99_44, cv_99_45, cv_99_46, ↓reduceIte, true_and, and_true, vok_int, vok_b0, vok_b1, vok_bb, r_backI, r_backV, bb_eq0, Nat.reduceAdd, Nat.reduceMul, Nat.reduceEqDiff, not_true_eq_false, not_false_eq_true, if_true, if_false, false_and, and_false, c17, c98, r3, e1]
    exact hfin
  | succ m ih =>
    intro q has mi hm hf hQ
    have hqk : q < k := by omega
    have e1 : ¬ ii k ≤ ii q := by rw [ii_le (by omega) (by omega)]; omega
    have e2 : ii q + 1 = ii (q + 1) := ii_add (b := 1)
    have e3 : (ii q).toNatClampNeg = q := ii_clamp (by omega)
    have e4 : (ii i).toNatClampNeg = i := ii_clamp (by omega)
    have r3 : mi 99 16 = ii k := by rw [hf 99 (by omega)]; exact w3
    have r4 : mi 99 20 = ii S := by rw [hf 99 (by omega)]; exact w4
    have b7 : it_inb L 107 (ii q) := ii_inb (by omega) (by rw [ln_107]; omega)
    have b8 : it_inb L 108 (ii q) := ii_inb (by omega) (by rw [ln_108]; omega)
    have b9 : it_inb L 109 (ii q) := ii_inb (by omega) (by rw [ln_109]; omega)
    have bi : it_inb L 127 (ii i) := ii_inb (by omega) (by rw [ln_127]; omega)
    obtain ⟨u1, u2, a, b, w, u3, u4, u5, u6, u7, u8, u9⟩ := w8 q hqk
    have x7 : mi 107 q = wf 18 q := by rw [hf 107 (by omega)]; exact u1.symm
    have x8 : mi 108 q = wf 19 q := by rw [hf 108 (by omega)]; exact u2.symm
    have x9 : mi 109 q = ii w := by rw [hf 109 (by omega)]; exact u5
    have xi : mi 127 i = mi0 127 i := by rw [hf 127 (by omega)]
    have z1 : ¬ (1 : Int32) = 0 := by decide
    have ea : (wf 20 q).toNatClampNeg = a := by rw [u3]; exact ii_clamp (by omega)
    have eb : (wf 21 q).toNatClampNeg = b := by rw [u4]; exact ii_clamp (by omega)
    -- what a later rule says
    have nx : ∀ (h2 : Prop), (h2 ↔ (has ∨ it_R wf (mi0 127 i) (mi0 128 i) (mi0 129 i) (ii u) (mi0 111 u) goal q)) → (bb (h2 ∨ ∃ r, q + 1 ≤ r ∧ r < k ∧ it_R wf (mi0 127 i) (mi0 128 i) (mi0 129 i) (ii u) (mi0 111 u) goal r) = bb (has ∨ ∃ r, q ≤ r ∧ r < k ∧ it_R wf (mi0 127 i) (mi0 128 i) (mi0 129 i) (ii u) (mi0 111 u) goal r)) := by
      intro h2 hh
      apply bb_inj.mpr
      rw [hh]
      constructor
      · rintro ((h | h) | ⟨r, h1, h3, h4⟩)
        · exact Or.inl h
        · exact Or.inr ⟨q, Nat.le_refl _, hqk, h⟩
        · exact Or.inr ⟨r, by omega, h3, h4⟩
      · rintro (h | ⟨r, h1, h3, h4⟩)
        · exact Or.inl (Or.inl h)
        · by_cases e : r = q
          · subst e; exact Or.inl (Or.inr h4)
          · exact Or.inr ⟨r, by omega, h3, h4⟩
    have go : ∀ (h2 : Prop) (mi2 : Nat → Nat → Int32), (∀ a, a < 104 ∨ 107 ≤ a → mi2 a = mi0 a) → (h2 ↔ (has ∨ it_R wf (mi0 127 i) (mi0 128 i) (mi0 129 i) (ii u) (mi0 111 u) goal q)) → iw (d + 3) 105 6 [.ref 99, .int (ii i), .int (ii u), .int goal, .int (bb h2), .int (ii (q + 1))] [] (it_mem L xs mi2 rw o g z) Q := fun h2 mi2 hf2 hh => ih (q + 1) h2 mi2 (by omega) hf2 (fun mi' hm' => by rw [nx h2 hh]; exact hQ mi' hm')
    rw [w105_6]
    by_cases h0 : has
    · have hgo := go True mi hf ⟨fun _ => Or.inl h0, fun _ => trivial⟩
      rw [bb_T] at hgo
      rw [bb_t h0]
      simp only [w105_8, w105_9, w105_12, w105_15, w105_17, w105_20, w105_21, w105_24, w105_26, w105_27, w105_28, w105_31, w105_32, w105_33, w105_36, w105_37, w105_40, w105_42, w105_43, w105_44, w105_47, w105_48, w105_51, w105_53, w105_54, w105_57, w105_58, w105_59, w105_62, w105_63, w105_66, w105_68, w105_69, w105_70, w105_73, w105_74, w105_75, w105_78, w105_81, w105_82, w105_85, w105_86, w105_88, w105_91, isk_99, cv_99_0, cv_99_1, cv_99_2, cv_99_3, cv_99_4, cv_99_5, cv_99_6, cv_99_7, cv_99_8, cv_99_9, cv_99_10, cv_99_11, cv_99_12, cv_99_13, cv_99_14, cv_99_15, cv_99_16, cv_99_17, cv_99_18, cv_99_19, cv_99_20, cv_99_21, cv_99_22, cv_99_23, cv_99_24, cv_99_25, cv_99_26, cv_99_27, cv_99_28, cv_99_29, cv_99_30, cv_99_31, cv_99_32, cv_99_33, cv_99_34, cv_99_35, cv_99_36, cv_99_37, cv_99_38, cv_99_39, cv_99_40, cv_99_41, cv_99_42, cv_99_43, cv_99_44, cv_99_45, cv_99_46, ↓reduceIte, true_and, and_true, vok_int, vok_b0, vok_b1, vok_bb, r_backI, r_backV, bb_eq0, Nat.reduceAdd, Nat.reduceMul, Nat.reduceEqDiff, not_true_eq_false, not_false_eq_true, if_true, if_false, false_and, and_false, c17, c98, r3, e1, z1, e2]
      exact hgo
    rw [bb_f h0]
    by_cases h1 : wf 18 q = mi0 127 i
    · by_cases h2 : wf 19 q = goal
      · by_cases hw : w = 0
        · have hab : a = b := by
            rcases u9 with h | h
            · exact h.2
            · exact absurd hw h.1
          have hgo := go True mi hf ⟨fun _ => Or.inr ⟨h1, h2, by rw [ea, eb, hab]; exact hC_none⟩, fun _ => trivial⟩
          rw [bb_T] at hgo
          have x9 : mi 109 q = 0 := by rw [x9, hw]; rfl
          simp only [w105_8, w105_9, w105_12, w105_15, w105_17, w105_20, w105_21, w105_24, w105_26, w105_27, w105_28, w105_31, w105_32, w105_33, w105_36, w105_37, w105_40, w105_42, w105_43, w105_44, w105_47, w105_48, w105_51, w105_53, w105_54, w105_57, w105_58, w105_59, w105_62, w105_63, w105_66, w105_68, w105_69, w105_70, w105_73, w105_74, w105_75, w105_78, w105_81, w105_82, w105_85, w105_86, w105_88, w105_91, isk_99, cv_99_0, cv_99_1, cv_99_2, cv_99_3, cv_99_4, cv_99_5, cv_99_6, cv_99_7, cv_99_8, cv_99_9, cv_99_10, cv_99_11, cv_99_12, cv_99_13, cv_99_14, cv_99_15, cv_99_16, cv_99_17, cv_99_18, cv_99_19, cv_99_20, cv_99_21, cv_99_22, cv_99_23, cv_99_24, cv_99_25, cv_99_26, cv_99_27, cv_99_28, cv_99_29, cv_99_30, cv_99_31, cv_99_32, cv_99_33, cv_99_34, cv_99_35, cv_99_36, cv_99_37, cv_99_38, cv_99_39, cv_99_40, cv_99_41, cv_99_42, cv_99_43, cv_99_44, cv_99_45, cv_99_46, isa_107, ln_107, cv_107, isa_108, ln_108, cv_108, isa_109, ln_109, cv_109, isa_127, ln_127, cv_127, ↓reduceIte, true_and, and_true, vok_int, vok_b0, vok_b1, vok_bb, r_backI, r_backV, bb_eq0, Nat.reduceAdd, Nat.reduceMul, Nat.reduceEqDiff, not_true_eq_false, not_false_eq_true, if_true, if_false, false_and, and_false, c17, c98, r3, e1, e2, e3, e4, b7, b8, b9, bi, x7, x8, x9, xi, h1, h2]
          exact hgo
        · obtain ⟨-, c, y1, y2, y3, y4⟩ : w ≠ 0 ∧ ∃ c : CV, (pC false T S 6 w).2 = some c ∧ T (pC false T S 6 w).1 = 59 ∧ b = a + c.1.length ∧ ∀ j, j < c.1.length → wf 23 (a + j) = (c.1.getD j (0, 0)).1 ∧ wf 24 (a + j) = (c.1.getD j (0, 0)).2 := by
            rcases u9 with h | h
            · exact absurd h.1 hw
            · exact h
          have x9n : ¬ ii w = 0 := fun q => hw ((ii_inj (b := 0) (by omega) (by decide)).mp q)
          simp only [w105_8, w105_9, w105_12, w105_15, w105_17, w105_20, w105_21, w105_24, w105_26, w105_27, w105_28, w105_31, w105_32, w105_33, w105_36, w105_37, w105_40, w105_42, w105_43, w105_44, w105_47, w105_48, w105_51, w105_53, w105_54, w105_57, w105_58, w105_59, w105_62, w105_63, w105_66, w105_68, w105_69, w105_70, w105_73, w105_74, w105_75, isk_99, cv_99_0, cv_99_1, cv_99_2, cv_99_3, cv_99_4, cv_99_5, cv_99_6, cv_99_7, cv_99_8, cv_99_9, cv_99_10, cv_99_11, cv_99_12, cv_99_13, cv_99_14, cv_99_15, cv_99_16, cv_99_17, cv_99_18, cv_99_19, cv_99_20, cv_99_21, cv_99_22, cv_99_23, cv_99_24, cv_99_25, cv_99_26, cv_99_27, cv_99_28, cv_99_29, cv_99_30, cv_99_31, cv_99_32, cv_99_33, cv_99_34, cv_99_35, cv_99_36, cv_99_37, cv_99_38, cv_99_39, cv_99_40, cv_99_41, cv_99_42, cv_99_43, cv_99_44, cv_99_45, cv_99_46, isa_107, ln_107, cv_107, isa_108, ln_108, cv_108, isa_109, ln_109, cv_109, isa_110, ln_110, cv_110, isa_127, ln_127, cv_127, ↓reduceIte, true_and, and_true, vok_int, vok_b0, vok_b1, vok_bb, r_backI, r_backV, bb_eq0, Nat.reduceAdd, Nat.reduceMul, Nat.reduceEqDiff, not_true_eq_false, not_false_eq_true, if_true, if_false, false_and, and_false, c17, c98, r3, r4, e1, e2, e3, e4, b7, b8, b9, bi, x7, x8, x9, x9n, xi, h1, h2]
          have hx : it_hx 110 S i T false (ii u) (mi 111 u) (mi 127 i, mi 128 i, mi 129 i) mi := ⟨Or.inr rfl, hS, fun j hj => by rw [hf 110 (by omega)]; exact w6 j hj, w7, hi, rfl, rfl, rfl, Or.inl ⟨rfl, u, hu, rfl, rfl⟩⟩
          refine c106 hx (by omega) y1 (Or.inr y2) (fun m1 hm1 => ?_)
          have hf1 : ∀ a, a < 104 ∨ 107 ≤ a → m1 a = mi0 a := fun a ha => (hm1 a ha).trans (hf a ha)
          have hval : (c.2 (fun k v => hfit k v (mi 127 i) (mi 128 i) (mi 129 i) (ii u) (mi 111 u))) ↔ (has ∨ it_R wf (mi0 127 i) (mi0 128 i) (mi0 129 i) (ii u) (mi0 111 u) goal q) := by
            rw [hf 127 (by omega), hf 128 (by omega), hf 129 (by omega), hf 111 (by omega), ← hC_cv (gd_pC (e := 1) (by decide) y1) y4, ← y3]
            unfold it_R
            rw [ea, eb]
            constructor
            · intro h; exact Or.inr ⟨h1, h2, h⟩
            · rintro (h | h)
              · exact absurd h h0
              · exact h.2.2
          have hgo := go _ m1 hf1 hval
          by_cases hv : c.2 (fun k v => hfit k v (mi 127 i) (mi 128 i) (mi 129 i) (ii u) (mi 111 u))
          · rw [bb_t hv] at hgo
            rw [bb_t hv]
            simp only [w105_78, w105_81, w105_82, w105_85, w105_86, w105_88, w105_91, ↓reduceIte, true_and, and_true, vok_int, vok_b0, vok_b1, vok_bb, r_backI, r_backV, bb_eq0, Nat.reduceAdd, Nat.reduceMul, Nat.reduceEqDiff, not_true_eq_false, not_false_eq_true, if_true, if_false, false_and, and_false, c17, c98, z1, e2]
            exact hgo
          · rw [bb_f hv] at hgo
            rw [bb_f hv]
            simp only [w105_78, w105_81, w105_82, w105_85, w105_86, w105_88, w105_91, ↓reduceIte, true_and, and_true, vok_int, vok_b0, vok_b1, vok_bb, r_backI, r_backV, bb_eq0, Nat.reduceAdd, Nat.reduceMul, Nat.reduceEqDiff, not_true_eq_false, not_false_eq_true, if_true, if_false, false_and, and_false, c17, c98, e2]
            exact hgo
      · have hgo := go False mi hf ⟨fun h => h.elim, fun h => h.elim h0 (fun h => h2 h.2.1)⟩
        rw [bb_F] at hgo
        simp only [w105_8, w105_9, w105_12, w105_15, w105_17, w105_20, w105_21, w105_24, w105_26, w105_27, w105_28, w105_31, w105_32, w105_33, w105_36, w105_37, w105_40, w105_42, w105_43, w105_44, w105_47, w105_48, w105_51, w105_53, w105_54, w105_57, w105_58, w105_59, w105_62, w105_63, w105_66, w105_68, w105_69, w105_70, w105_73, w105_74, w105_75, w105_78, w105_81, w105_82, w105_85, w105_86, w105_88, w105_91, isk_99, cv_99_0, cv_99_1, cv_99_2, cv_99_3, cv_99_4, cv_99_5, cv_99_6, cv_99_7, cv_99_8, cv_99_9, cv_99_10, cv_99_11, cv_99_12, cv_99_13, cv_99_14, cv_99_15, cv_99_16, cv_99_17, cv_99_18, cv_99_19, cv_99_20, cv_99_21, cv_99_22, cv_99_23, cv_99_24, cv_99_25, cv_99_26, cv_99_27, cv_99_28, cv_99_29, cv_99_30, cv_99_31, cv_99_32, cv_99_33, cv_99_34, cv_99_35, cv_99_36, cv_99_37, cv_99_38, cv_99_39, cv_99_40, cv_99_41, cv_99_42, cv_99_43, cv_99_44, cv_99_45, cv_99_46, isa_107, ln_107, cv_107, isa_108, ln_108, cv_108, isa_127, ln_127, cv_127, ↓reduceIte, true_and, and_true, vok_int, vok_b0, vok_b1, vok_bb, r_backI, r_backV, bb_eq0, Nat.reduceAdd, Nat.reduceMul, Nat.reduceEqDiff, not_true_eq_false, not_false_eq_true, if_true, if_false, false_and, and_false, c17, c98, r3, e1, e2, e3, e4, b7, b8, bi, x7, x8, xi, h1, h2]
        exact hgo
    · have hgo := go False mi hf ⟨fun h => h.elim, fun h => h.elim h0 (fun h => h1 h.1)⟩
      rw [bb_F] at hgo
      simp only [w105_8, w105_9, w105_12, w105_15, w105_17, w105_20, w105_21, w105_24, w105_26, w105_27, w105_28, w105_31, w105_32, w105_33, w105_36, w105_37, w105_40, w105_42, w105_43, w105_44, w105_47, w105_48, w105_51, w105_53, w105_54, w105_57, w105_58, w105_59, w105_62, w105_63, w105_66, w105_68, w105_69, w105_70, w105_73, w105_74, w105_75, w105_78, w105_81, w105_82, w105_85, w105_86, w105_88, w105_91, isk_99, cv_99_0, cv_99_1, cv_99_2, cv_99_3, cv_99_4, cv_99_5, cv_99_6, cv_99_7, cv_99_8, cv_99_9, cv_99_10, cv_99_11, cv_99_12, cv_99_13, cv_99_14, cv_99_15, cv_99_16, cv_99_17, cv_99_18, cv_99_19, cv_99_20, cv_99_21, cv_99_22, cv_99_23, cv_99_24, cv_99_25, cv_99_26, cv_99_27, cv_99_28, cv_99_29, cv_99_30, cv_99_31, cv_99_32, cv_99_33, cv_99_34, cv_99_35, cv_99_36, cv_99_37, cv_99_38, cv_99_39, cv_99_40, cv_99_41, cv_99_42, cv_99_43, cv_99_44, cv_99_45, cv_99_46, isa_107, ln_107, cv_107, isa_127, ln_127, cv_127, ↓reduceIte, true_and, and_true, vok_int, vok_b0, vok_b1, vok_bb, r_backI, r_backV, bb_eq0, Nat.reduceAdd, Nat.reduceMul, Nat.reduceEqDiff, not_true_eq_false, not_false_eq_true, if_true, if_false, false_and, and_false, c17, c98, r3, e1, e2, e3, e4, b7, bi, x7, xi, h1]
      exact hgo
end
theorem h105_W {wf ro : Nat → Nat → Int32} : it_h105 (AC wf ro) (it_W wf ro) := by
  refine ⟨fun mi mi' h hm h1 h2 => W_fr h hm h1 h2, ?_⟩
  intro d L xs mi rw o g z i u v Q hi hu hW hQ
  obtain ⟨k, S, T, w1, w2, w3, w4, w5, w6, w7, w8, w9⟩ := hW
  have e0 : (0 : Int32) = ii 0 := rfl
  simp only [w105_0, w105_1, w105_3, w105_4]
  have h0 := c105L (d := d) (Q := Q) (L := L) (xs := xs) (rw := rw) (o := o) (g := g) (z := z) (goal := v) w1 w5 w3 w4 w6 w7 w8 hi hu k 0 False mi (by omega) (fun _ _ => rfl) (fun mi' hm' => by
    have hfin := hQ mi' hm'
    have e9 : bb (False ∨ ∃ r, 0 ≤ r ∧ r < k ∧ it_R wf (mi 127 i) (mi 128 i) (mi 129 i) (ii u) (mi 111 u) v r) = bb ((AC wf ro).2.2.2 (mi 127 i) (mi 128 i) (mi 129 i) (ii u) ((AC wf ro).1 u) v) := by
      apply bb_inj.mpr
      show _ ↔ it_alw wf (wf 17 5).toNatClampNeg (mi 127 i) (mi 128 i) (mi 129 i) (ii u) (ro 25 u) v
      rw [w2, ii_clamp (by omega), ← w9 u hu]
      constructor
      · rintro (h | ⟨r, -, h1, h2, h3, h4⟩)
        · exact h.elim
        · exact ⟨r, h1, h2, h3, h4⟩
      · rintro ⟨r, h1, h2, h3, h4⟩
        exact Or.inr ⟨r, Nat.zero_le _, h1, h2, h3, h4⟩
    rw [e9]
    exact hfin)
  rw [bb_F] at h0
  exact h0
