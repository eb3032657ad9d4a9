/-! remove, drop; lose. -/
def rotp (rw : Nat → Nat) (k m : Nat) : Nat → Nat := fun j => if k ≤ j ∧ j < m then rw (j + 1) else rw j
def rot (rw : Nat → Nat) (k n : Nat) : Nat → Nat := va_up (rotp rw k (n - 1)) (n - 1) (rw k)
theorem rotp_step {rw : Nat → Nat} {k m : Nat} (h : k ≤ m) : va_up (rotp rw k m) m (rw (m + 1)) = rotp rw k (m + 1) := by
  funext j
  by_cases e : j = m
  · subst e
    rw [va_up_self]
    unfold rotp
    rw [if_pos (by omega)]
  · rw [va_up_ne _ _ e]
    unfold rotp
    by_cases h2 : k ≤ j ∧ j < m
    · rw [if_pos h2, if_pos (by omega)]
    · rw [if_neg h2, if_neg (by omega)]
theorem rotp_0 {rw : Nat → Nat} {k : Nat} : rotp rw k k = rw := by
  funext j
  unfold rotp
  rw [if_neg (by omega)]
theorem rotp_hi {rw : Nat → Nat} {k m j : Nat} (h : m ≤ j) : rotp rw k m j = rw j := by
  unfold rotp
  rw [if_neg (by omega)]
theorem isk_msg {i a : Nat} (hi : i < 6) (h : a = 79 + 3 * i) : it_isk 8 a = true := by
  subst h
  rcases (show i = 0 ∨ i = 1 ∨ i = 2 ∨ i = 3 ∨ i = 4 ∨ i = 5 by omega) with rfl | rfl | rfl | rfl | rfl | rfl <;> decide +kernel
def sh (mi : Nat → Nat → Int32) (k m : Nat) : Nat → Nat → Int32 := fun a b => if (a = 122 ∨ a = 123) ∧ k ≤ b ∧ b < m then mi a (b + 1) else if (a = 124 ∨ a = 125) ∧ 3 * k ≤ b ∧ b < 3 * m then mi a (b + 3) else mi a b
theorem sh_f {mi : Nat → Nat → Int32} {k m a : Nat} (h : a < 122 ∨ 126 ≤ a) : sh mi k m a = mi a := by
  funext b
  unfold sh
  rw [if_neg (by omega), if_neg (by omega)]
theorem sh_0 {mi : Nat → Nat → Int32} {k : Nat} : sh mi k k = mi := by
  funext a b
  unfold sh
  rw [if_neg (by omega), if_neg (by omega)]
theorem sh_1 {mi : Nat → Nat → Int32} {k m b : Nat} (h : m ≤ b) : sh mi k m 122 b = mi 122 b := by
  unfold sh
  rw [if_neg (by omega), if_neg (by omega)]
theorem sh_2 {mi : Nat → Nat → Int32} {k m b : Nat} (h : m ≤ b) : sh mi k m 123 b = mi 123 b := by
  unfold sh
  rw [if_neg (by omega), if_neg (by omega)]
theorem sh_3 {mi : Nat → Nat → Int32} {k m b : Nat} (h : 3 * m ≤ b) : sh mi k m 124 b = mi 124 b := by
  unfold sh
  rw [if_neg (by omega), if_neg (by omega)]
theorem sh_4 {mi : Nat → Nat → Int32} {k m b : Nat} (h : 3 * m ≤ b) : sh mi k m 125 b = mi 125 b := by
  unfold sh
  rw [if_neg (by omega), if_neg (by omega)]
theorem sh_at1 {mi : Nat → Nat → Int32} {k m a b : Nat} (ha : a = 122 ∨ a = 123) : sh mi k m a b = if k ≤ b ∧ b < m then mi a (b + 1) else mi a b := by
  unfold sh
  by_cases h : k ≤ b ∧ b < m
  · rw [if_pos ⟨ha, h⟩, if_pos h]
  · rw [if_neg (fun q => h q.2), if_neg h, if_neg (by omega)]
theorem sh_at2 {mi : Nat → Nat → Int32} {k m a b : Nat} (ha : a = 124 ∨ a = 125) : sh mi k m a b = if 3 * k ≤ b ∧ b < 3 * m then mi a (b + 3) else mi a b := by
  unfold sh
  rw [if_neg (by omega)]
  by_cases h : 3 * k ≤ b ∧ b < 3 * m
  · rw [if_pos ⟨ha, h⟩, if_pos h]
  · rw [if_neg (fun q => h q.2), if_neg h]
theorem sh_step {mi : Nat → Nat → Int32} {k m : Nat} (hk : k ≤ m) : it_up (it_up (it_up (it_up (it_up (it_up (it_up (it_up (sh mi k m) 122 m (mi 122 (m + 1))) 123 m (mi 123 (m + 1))) 124 (3 * m) (mi 124 (3 * m + 3))) 125 (3 * m) (mi 125 (3 * m + 3))) 124 (3 * m + 1) (mi 124 (3 * m + 3 + 1))) 125 (3 * m + 1) (mi 125 (3 * m + 3 + 1))) 124 (3 * m + 2) (mi 124 (3 * m + 3 + 2))) 125 (3 * m + 2) (mi 125 (3 * m + 3 + 2)) = sh mi k (m + 1) := by
  funext a b
  by_cases h1 : a = 122
  · subst h1
    simp (disch := omega) only [it_up_f, it_up_s, sh_at1]
    by_cases e : b = m
    · subst e; rw [if_pos rfl, if_pos (by omega)]
    · rw [if_neg e]
      by_cases h2 : k ≤ b ∧ b < m
      · rw [if_pos h2, if_pos (by omega)]
      · rw [if_neg h2, if_neg (by omega)]
  by_cases h1 : a = 123
  · subst h1
    simp (disch := omega) only [it_up_f, it_up_s, sh_at1]
    by_cases e : b = m
    · subst e; rw [if_pos rfl, if_pos (by omega)]
    · rw [if_neg e]
      by_cases h2 : k ≤ b ∧ b < m
      · rw [if_pos h2, if_pos (by omega)]
      · rw [if_neg h2, if_neg (by omega)]
  by_cases h1 : a = 124 ∨ a = 125
  · have key : ∀ (f : Nat → Int32), (if b = 3 * m + 2 then f (3 * m + 3 + 2) else if b = 3 * m + 1 then f (3 * m + 3 + 1) else if b = 3 * m then f (3 * m + 3) else if 3 * k ≤ b ∧ b < 3 * m then f (b + 3) else f b) = if 3 * k ≤ b ∧ b < 3 * (m + 1) then f (b + 3) else f b := by
      intro f
      by_cases e2 : b = 3 * m + 2
      · subst e2; rw [if_pos rfl, if_pos (by omega)]
      by_cases e1 : b = 3 * m + 1
      · subst e1; rw [if_neg e2, if_pos rfl, if_pos (by omega)]
      by_cases e0 : b = 3 * m
      · subst e0; rw [if_neg e2, if_neg e1, if_pos rfl, if_pos (by omega)]
      rw [if_neg e2, if_neg e1, if_neg e0]
      by_cases h2 : 3 * k ≤ b ∧ b < 3 * m
      · rw [if_pos h2, if_pos (by omega)]
      · rw [if_neg h2, if_neg (by omega)]
    rcases h1 with rfl | rfl
    · simp (disch := omega) only [it_up_f, it_up_s, sh_at2]
      exact key _
    · simp (disch := omega) only [it_up_f, it_up_s, sh_at2]
      exact key _
  · simp (disch := omega) only [it_up_f, sh_f]
section
variable {d : Nat} {Q : im_O → im_M → Prop} {L : Nat} {xs : Nat → Int32} {mi : Nat → Nat → Int32} {rw : Nat → Nat} {o : Nat → Int64} {g z : Nat}
theorem c18L {k n r : Nat} (hn : n ≤ 6) (hk : k < n) (hs : mi 77 1 = ii (n - 1)) (hR : ∀ j, j < 6 → it_isk 8 (rw j) = true) : ∀ (t m : Nat), m + t = n - 1 → k ≤ m → (iw d 18 19 [.ref 77, .int (ii k), .ref r, .int (ii m)] [] (it_mem L xs mi (rotp rw k m) o g z) Q ↔ iw d 18 47 [.ref 77, .int (ii k), .ref r, .int (ii (n - 1))] [] (it_mem L xs mi (rotp rw k (n - 1)) o g z) Q) := by
  intro t
  induction t with
  | zero =>
    intro m hm hkm
    have e : m = n - 1 := by omega
    subst e
    rw [w18_19]
    have e4 : ii (n - 1) ≤ ii (n - 1) := (ii_le (by omega) (by omega)).mpr (Nat.le_refl _)
    simp only [w18_20, w18_21, w18_24, isk_77, cv_77_0, cv_77_1, ↓reduceIte, true_and, and_true, vok_int, vok_b0, vok_b1, vok_bb, r_backI, r_backV, bb_eq0, Nat.reduceAdd, Nat.reduceMul, Nat.reduceEqDiff, not_true_eq_false, not_false_eq_true, if_true, if_false, false_and, and_false, c17, c98, hs, e4]
  | succ t ih =>
    intro m hm hkm
    rw [← ih (m + 1) (by omega) (by omega)]
    have e3 : ¬ ii (n - 1) ≤ ii m := by rw [ii_le (by omega) (by omega)]; omega
    have b1 : it_inb L 78 (ii m) := ii_inb (by omega) (by rw [ln_78]; omega)
    have b2 : it_inb L 78 (ii (m + 1)) := ii_inb (by omega) (by rw [ln_78]; omega)
    have e1 : (ii m).toNatClampNeg = m := ii_clamp (by omega)
    have e2 : (ii (m + 1)).toNatClampNeg = m + 1 := ii_clamp (by omega)
    have e5 : ii m + 1 = ii (m + 1) := ii_add (b := 1)
    have e6 : rotp rw k m (m + 1) = rw (m + 1) := rotp_hi (by omega)
    rw [w18_19]
    simp only [w18_20, w18_21, w18_24, w18_27, w18_28, w18_31, w18_32, w18_33, w18_36, w18_37, w18_38, w18_39, w18_40, w18_41, w18_44, isk_77, cv_77_0, cv_77_1, isa_78, ln_78, cv_78, ↓reduceIte, true_and, and_true, vok_int, vok_b0, vok_b1, vok_bb, r_backI, r_backV, bb_eq0, Nat.reduceAdd, Nat.reduceMul, Nat.reduceEqDiff, not_true_eq_false, not_false_eq_true, if_true, if_false, false_and, and_false, c17, c98, hs, e3, e5, b1, b2, e1, e2, e6, hR (m + 1) (by omega), rotp_step hkm]
theorem c18 {k n : Nat} {v w : Value} (hn : n ≤ 6) (hk : k < n) (hs : mi 77 1 = ii n) (hR : ∀ j, j < 6 → it_isk 8 (rw j) = true) : iw d 18 0 [.ref 77, .int (ii k), v, w] [] (it_mem L xs mi rw o g z) Q ↔ Q (.inl (some (.ref (rw k)))) (it_mem L xs (it_up mi 77 1 (ii (n - 1))) (rot rw k n) o g z) := by
  have b1 : it_inb L 78 (ii k) := ii_inb (by omega) (by rw [ln_78]; omega)
  have b2 : it_inb L 78 (ii (n - 1)) := ii_inb (by omega) (by rw [ln_78]; omega)
  have e1 : (ii k).toNatClampNeg = k := ii_clamp (by omega)
  have e2 : (ii (n - 1)).toNatClampNeg = n - 1 := ii_clamp (by omega)
  have e3 : ii n - 1 = ii (n - 1) := ii_sub (b := 1) (by omega)
  have h := c18L (d := d) (Q := Q) (L := L) (xs := xs) (mi := it_up mi 77 1 (ii (n - 1))) (rw := rw) (o := o) (g := g) (z := z) (r := rw k) hn hk (it_up_same _ _ _ _) hR (n - 1 - k) k (by omega) (Nat.le_refl _)
  rw [rotp_0] at h
  simp only [w18_0, w18_1, w18_4, w18_5, w18_6, w18_7, w18_8, w18_9, w18_12, w18_13, w18_14, w18_17, w18_18, isk_77, cv_77_0, cv_77_1, isa_78, ln_78, cv_78, ↓reduceIte, true_and, and_true, vok_int, vok_b0, vok_b1, vok_bb, r_backI, r_backV, bb_eq0, Nat.reduceAdd, Nat.reduceMul, Nat.reduceEqDiff, not_true_eq_false, not_false_eq_true, if_true, if_false, false_and, and_false, c17, c98, hs, b1, e1, e3, h]
  simp only [w18_47, w18_48, w18_51, w18_52, w18_55, w18_56, w18_57, w18_58, isk_77, cv_77_0, cv_77_1, isa_78, ln_78, cv_78, ↓reduceIte, true_and, and_true, vok_int, vok_b0, vok_b1, vok_bb, r_backI, r_backV, bb_eq0, Nat.reduceAdd, Nat.reduceMul, Nat.reduceEqDiff, not_true_eq_false, not_false_eq_true, if_true, if_false, false_and, and_false, c17, c98, it_up_s, b2, e2, hR k (by omega)]
  exact Iff.rfl
theorem c112L {k n : Nat} {v : Value} (hn : n ≤ 6) (hk : k < n) (hs : mi 99 33 = ii (n - 1)) : ∀ (t m : Nat) (v : Value), m + t = n - 1 → k ≤ m → (iw d 112 12 [.ref 99, .int (ii k), .int (ii m), v] [] (it_mem L xs (sh mi k m) rw o g z) Q ↔ Q (.inl none) (it_mem L xs (sh mi k (n - 1)) rw o g z)) := by
  intro t
  induction t with
  | zero =>
    intro m v hm hkm
    have e : m = n - 1 := by omega
    subst e
    rw [w112_12]
    have e4 : ii (n - 1) ≤ ii (n - 1) := (ii_le (by omega) (by omega)).mpr (Nat.le_refl _)
    simp only [w112_13, w112_14, w112_17, w112_111, isk_99, cv_99_0, cv_99_1, cv_99_2, cv_99_3, cv_99_4, cv_99_5, cv_99_6, cv_99_7, cv_99_8, cv_99_9, cv_99_10, cv_99_11, cv_99_12, cv_99_13, cv_99_14, cv_99_15, cv_99_16, cv_99_17, cv_99_18, cv_99_19, cv_99_20, cv_99_21, cv_99_22, cv_99_23, cv_99_24, cv_99_25, cv_99_26, cv_99_27, cv_99_28, cv_99_29, cv_99_30, cv_99_31, cv_99_32, cv_99_33, cv_99_34, cv_99_35, cv_99_36, cv_99_37, cv_99_38, cv_99_39, cv_99_40, cv_99_41, cv_99_42, cv_99_43, cv_99_44, cv_99_45, cv_99_46, ↓reduceIte, true_and, and_true, vok_int, vok_b0, vok_b1, vok_bb, r_backI, r_backV, bb_eq0, Nat.reduceAdd, Nat.reduceMul, Nat.reduceEqDiff, not_true_eq_false, not_false_eq_true, if_true, if_false, false_and, and_false, c17, c98, sh_f (show 99 < 122 ∨ 126 ≤ 99 by omega), hs, e4]
  | succ t ih =>
    intro m v hm hkm
    rw [← ih (m + 1) (.int (ii 3)) (by omega) (by omega)]
    have e3 : ¬ ii (n - 1) ≤ ii m := by rw [ii_le (by omega) (by omega)]; omega
    have a1 : it_inb L 122 (ii m) := ii_inb (by omega) (by rw [ln_122]; omega)
    have a2 : it_inb L 122 (ii (m + 1)) := ii_inb (by omega) (by rw [ln_122]; omega)
    have a3 : it_inb L 123 (ii m) := ii_inb (by omega) (by rw [ln_123]; omega)
    have a4 : it_inb L 123 (ii (m + 1)) := ii_inb (by omega) (by rw [ln_123]; omega)
    have b : ∀ x, x < 18 → it_inb L 124 (ii x) := fun x hx => ii_inb (by omega) (by rw [ln_124]; omega)
    have c : ∀ x, x < 18 → it_inb L 125 (ii x) := fun x hx => ii_inb (by omega) (by rw [ln_125]; omega)
    rw [w112_12]
    simp (disch := omega) only [w112_13, w112_14, w112_17, w112_20, w112_21, w112_24, w112_25, w112_26, w112_29, w112_30, w112_31, w112_32, w112_33, w112_34, w112_35, w112_38, w112_39, w112_40, w112_43, w112_44, w112_45, w112_46, w112_47, w112_48, w112_49, w112_50, w112_51, w112_52, w112_55, w112_56, w112_59, w112_60, w112_61, w112_62, w112_63, w112_64, w112_65, w112_68, w112_69, w112_70, w112_71, w112_72, w112_73, w112_74, w112_75, w112_76, w112_77, w112_78, w112_81, w112_82, w112_83, w112_84, w112_85, w112_86, w112_87, w112_90, w112_91, w112_92, w112_93, w112_94, w112_95, w112_96, w112_97, w112_98, w112_99, w112_102, w112_105, w112_108, isk_99, cv_99_0, cv_99_1, cv_99_2, cv_99_3, cv_99_4, cv_99_5, cv_99_6, cv_99_7, cv_99_8, cv_99_9, cv_99_10, cv_99_11, cv_99_12, cv_99_13, cv_99_14, cv_99_15, cv_99_16, cv_99_17, cv_99_18, cv_99_19, cv_99_20, cv_99_21, cv_99_22, cv_99_23, cv_99_24, cv_99_25, cv_99_26, cv_99_27, cv_99_28, cv_99_29, cv_99_30, cv_99_31, cv_99_32, cv_99_33, cv_99_34, cv_99_35, cv_99_36, cv_99_37, cv_99_38, cv_99_39, cv_99_40, cv_99_41, cv_99_42, cv_99_43, cv_99_44, cv_99_45, cv_99_46, isa_122, ln_122, cv_122, isa_123, ln_123, cv_123, isa_124, ln_124, cv_124, isa_125, ln_125, cv_125, ↓reduceIte, true_and, and_true, vok_int, vok_b0, vok_b1, vok_bb, r_backI, r_backV, bb_eq0, Nat.reduceAdd, Nat.reduceMul, Nat.reduceEqDiff, not_true_eq_false, not_false_eq_true, if_true, if_false, false_and, and_false, c17, c98, lit_0, lit_1, lit_2, lit_3, ii_mul, ii_add, it_up_f, it_up_j, sh_f, sh_1, sh_2, sh_3, sh_4, hs, e3, a1, a2, a3, a4, b, c, ii_clamp, ii_le, Nat.reduceLeDiff, Nat.add_zero, sh_step hkm]
theorem c112 {k n : Nat} {v w : Value} (hn : n ≤ 6) (hk : k < n) (hs : mi 99 33 = ii n) : iw d 112 0 [.ref 99, .int (ii k), v, w] [] (it_mem L xs mi rw o g z) Q ↔ Q (.inl none) (it_mem L xs (sh (it_up mi 99 33 (ii (n - 1))) k (n - 1)) rw o g z) := by
  have e3 : ii n - 1 = ii (n - 1) := ii_sub (b := 1) (by omega)
  have h := c112L (d := d) (Q := Q) (L := L) (xs := xs) (mi := it_up mi 99 33 (ii (n - 1))) (rw := rw) (o := o) (g := g) (z := z) (v := w) hn hk (it_up_same _ _ _ _) (n - 1 - k) k w (by omega) (Nat.le_refl _)
  rw [sh_0] at h
  simp only [w112_0, w112_1, w112_2, w112_5, w112_6, w112_7, w112_10, w112_11, isk_99, cv_99_0, cv_99_1, cv_99_2, cv_99_3, cv_99_4, cv_99_5, cv_99_6, cv_99_7, cv_99_8, cv_99_9, cv_99_10, cv_99_11, cv_99_12, cv_99_13, cv_99_14, cv_99_15, cv_99_16, cv_99_17, cv_99_18, cv_99_19, cv_99_20, cv_99_21, cv_99_22, cv_99_23, cv_99_24, cv_99_25, cv_99_26, cv_99_27, cv_99_28, cv_99_29, cv_99_30, cv_99_31, cv_99_32, cv_99_33, cv_99_34, cv_99_35, cv_99_36, cv_99_37, cv_99_38, cv_99_39, cv_99_40, cv_99_41, cv_99_42, cv_99_43, cv_99_44, cv_99_45, cv_99_46, ↓reduceIte, true_and, and_true, vok_int, vok_b0, vok_b1, vok_bb, r_backI, r_backV, bb_eq0, Nat.reduceAdd, Nat.reduceMul, Nat.reduceEqDiff, not_true_eq_false, not_false_eq_true, if_true, if_false, false_and, and_false, c17, c98, hs, e3, h]
theorem c32n {a : Int32} (h : ¬ (0 ≤ a ∧ a < mi 77 1)) : iw (d + 1) 32 0 [.ref 8, .int a] [] (it_mem L xs mi rw o g z) Q ↔ Q (.inl (some (.int 0))) (it_mem L xs mi rw o g z) := by
  simp only [w32_0, w32_1, w32_2, w32_5, w32_8, w32_11, w32_14, w32_15, isk_8, cv_8_0, cv_8_1, cv_8_2, cv_8_3, cv_8_4, cv_8_5, cv_8_6, cv_8_7, cv_8_8, isk_77, cv_77_0, cv_77_1, ↓reduceIte, true_and, and_true, vok_int, vok_b0, vok_b1, vok_bb, r_backI, r_backV, bb_eq0, Nat.reduceAdd, Nat.reduceMul, Nat.reduceEqDiff, not_true_eq_false, not_false_eq_true, if_true, if_false, false_and, and_false, c17, c98, eq_false h]
theorem c32 {k n : Nat} (hn : n ≤ 6) (hk : k < n) (hs : mi 77 1 = ii n) (hR : ∀ j, j < 6 → it_isk 8 (rw j) = true) : iw (d + 1) 32 0 [.ref 8, .int (ii k)] [] (it_mem L xs mi rw o g z) Q ↔ Q (.inl (some (.int 1))) (it_mem L xs (it_up mi 77 1 (ii (n - 1))) (rot rw k n) o g z) := by
  simp only [w32_0, w32_1, w32_2, w32_5, w32_8, w32_11, w32_14, w32_15, w32_16, w32_17, w32_20, w32_21, w32_24, w32_25, w32_26, isk_8, cv_8_0, cv_8_1, cv_8_2, cv_8_3, cv_8_4, cv_8_5, cv_8_6, cv_8_7, cv_8_8, isk_77, cv_77_0, cv_77_1, ↓reduceIte, true_and, and_true, vok_int, vok_b0, vok_b1, vok_bb, r_backI, r_backV, bb_eq0, Nat.reduceAdd, Nat.reduceMul, Nat.reduceEqDiff, not_true_eq_false, not_false_eq_true, if_true, if_false, false_and, and_false, c17, c98, hs, bel (x := ii n) rfl (by omega) hk, c18 hn hk hs hR]
theorem c113n {a : Int32} (h : ¬ (0 ≤ a ∧ a < mi 99 33)) : iw (d + 1) 113 0 [.ref 99, .int a] [] (it_mem L xs mi rw o g z) Q ↔ Q (.inl (some (.int 0))) (it_mem L xs (it_up mi 99 0 0) rw o g z) := by
  by_cases h1 : a < 0
  · simp only [w113_0, w113_1, w113_2, w113_5, w113_6, w113_9, w113_10, w113_11, w113_14, w113_17, w113_18, isk_99, cv_99_0, cv_99_1, cv_99_2, cv_99_3, cv_99_4, cv_99_5, cv_99_6, cv_99_7, cv_99_8, cv_99_9, cv_99_10, cv_99_11, cv_99_12, cv_99_13, cv_99_14, cv_99_15, cv_99_16, cv_99_17, cv_99_18, cv_99_19, cv_99_20, cv_99_21, cv_99_22, cv_99_23, cv_99_24, cv_99_25, cv_99_26, cv_99_27, cv_99_28, cv_99_29, cv_99_30, cv_99_31, cv_99_32, cv_99_33, cv_99_34, cv_99_35, cv_99_36, cv_99_37, cv_99_38, cv_99_39, cv_99_40, cv_99_41, cv_99_42, cv_99_43, cv_99_44, cv_99_45, cv_99_46, ↓reduceIte, true_and, and_true, vok_int, vok_b0, vok_b1, vok_bb, r_backI, r_backV, bb_eq0, Nat.reduceAdd, Nat.reduceMul, Nat.reduceEqDiff, not_true_eq_false, not_false_eq_true, if_true, if_false, false_and, and_false, c17, c98, h1]
  · have h2 : ¬ a < mi 99 33 := fun q => h ⟨i_nlt.mp h1, q⟩
    simp only [w113_0, w113_1, w113_2, w113_5, w113_6, w113_9, w113_10, w113_11, w113_14, w113_17, w113_18, isk_99, cv_99_0, cv_99_1, cv_99_2, cv_99_3, cv_99_4, cv_99_5, cv_99_6, cv_99_7, cv_99_8, cv_99_9, cv_99_10, cv_99_11, cv_99_12, cv_99_13, cv_99_14, cv_99_15, cv_99_16, cv_99_17, cv_99_18, cv_99_19, cv_99_20, cv_99_21, cv_99_22, cv_99_23, cv_99_24, cv_99_25, cv_99_26, cv_99_27, cv_99_28, cv_99_29, cv_99_30, cv_99_31, cv_99_32, cv_99_33, cv_99_34, cv_99_35, cv_99_36, cv_99_37, cv_99_38, cv_99_39, cv_99_40, cv_99_41, cv_99_42, cv_99_43, cv_99_44, cv_99_45, cv_99_46, ↓reduceIte, true_and, and_true, vok_int, vok_b0, vok_b1, vok_bb, r_backI, r_backV, bb_eq0, Nat.reduceAdd, Nat.reduceMul, Nat.reduceEqDiff, not_true_eq_false, not_false_eq_true, if_true, if_false, false_and, and_false, c17, c98, h1, h2, it_up_s]
theorem c113 {k n : Nat} (hn : n ≤ 6) (hk : k < n) (hs : mi 99 33 = ii n) : iw (d + 1) 113 0 [.ref 99, .int (ii k)] [] (it_mem L xs mi rw o g z) Q ↔ Q (.inl (some (.int 1))) (it_mem L xs (sh (it_up (it_up mi 99 0 0) 99 33 (ii (n - 1))) k (n - 1)) rw o g z) := by
  have h1 : ¬ ii k < 0 := by rw [lit_0, ii_lt (by omega) (by decide)]; omega
  have h2 : ii k < ii n := (ii_lt (by omega) (by omega)).mpr hk
  have hs' : it_up mi 99 0 0 99 33 = ii n := by rw [it_up_s, if_neg (by decide)]; exact hs
  simp only [w113_0, w113_1, w113_2, w113_5, w113_6, w113_9, w113_10, w113_11, w113_14, w113_17, w113_18, w113_19, w113_20, w113_21, w113_24, w113_25, isk_99, cv_99_0, cv_99_1, cv_99_2, cv_99_3, cv_99_4, cv_99_5, cv_99_6, cv_99_7, cv_99_8, cv_99_9, cv_99_10, cv_99_11, cv_99_12, cv_99_13, cv_99_14, cv_99_15, cv_99_16, cv_99_17, cv_99_18, cv_99_19, cv_99_20, cv_99_21, cv_99_22, cv_99_23, cv_99_24, cv_99_25, cv_99_26, cv_99_27, cv_99_28, cv_99_29, cv_99_30, cv_99_31, cv_99_32, cv_99_33, cv_99_34, cv_99_35, cv_99_36, cv_99_37, cv_99_38, cv_99_39, cv_99_40, cv_99_41, cv_99_42, cv_99_43, cv_99_44, cv_99_45, cv_99_46, ↓reduceIte, true_and, and_true, vok_int, vok_b0, vok_b1, vok_bb, r_backI, r_backV, bb_eq0, Nat.reduceAdd, Nat.reduceMul, Nat.reduceEqDiff, not_true_eq_false, not_false_eq_true, if_true, if_false, false_and, and_false, c17, c98, hs', h1, h2, c112 hn hk hs']
end
def pim (k n j : Nat) : Nat := if j < k then j else if j < n - 1 then j + 1 else if j = n - 1 then k else j
theorem rot_pim {rw : Nat → Nat} {k n j : Nat} (hk : k < n) : rot rw k n j = rw (pim k n j) := by
  unfold rot pim
  by_cases e : j = n - 1
  · subst e
    rw [va_up_self, if_neg (by omega), if_neg (by omega), if_pos rfl]
  · rw [va_up_ne _ _ e]
    unfold rotp
    by_cases h1 : j < k
    · rw [if_neg (by omega), if_pos h1]
    · rw [if_neg h1]
      by_cases h2 : j < n - 1
      · rw [if_pos (by omega), if_pos h2]
      · rw [if_neg (by omega), if_neg h2, if_neg e]
theorem pim_lt {k n j : Nat} (hn : n ≤ 6) (hk : k < n) (hj : j < 6) : pim k n j < 6 := by
  unfold pim
  repeat' split
  all_goals omega
theorem pim_inj {k n a b : Nat} (hk : k < n) (h : pim k n a = pim k n b) : a = b := by
  unfold pim at h
  repeat' split at h
  all_goals omega
theorem pst_drop {cnt : Nat → Nat} {kn : Nat → Nat → Nat} {rw : Nat → Nat} {k n : Nat} {m r r' : Nat → Nat → Int32} (hk : k < n) (hn : n ≤ 6) (h : it_pst cnt kn rw (ii n) (ii n) m r)
    (h1 : ∀ a j, a = 122 ∨ a = 123 → j < n - 1 → r' a j = if k ≤ j then r a (j + 1) else r a j) (h2 : ∀ a j q, a = 124 ∨ a = 125 → j < n - 1 → q < 3 → r' a (3 * j + q) = if k ≤ j then r a (3 * (j + 1) + q) else r a (3 * j + q)) : it_pst cnt kn (rot rw k n) (ii (n - 1)) (ii (n - 1)) m r' := by
  obtain ⟨n', hn', e1, _, p1, p2, p3⟩ := h
  have en : n' = n := ((ii_inj (by omega) (by omega)).mp e1).symm
  subst en
  refine ⟨n' - 1, by omega, rfl, rfl, fun j hj => ?_, fun a b ha hb hab => ?_, fun j hj => ?_⟩
  · rw [rot_pim hk]
    exact p1 _ (pim_lt hn hk hj)
  · rw [rot_pim hk, rot_pim hk] at hab
    exact pim_inj hk (p2 _ _ (pim_lt hn hk ha) (pim_lt hn hk hb) hab)
  · rw [rot_pim hk]
    have e : pim k n' j = if k ≤ j then j + 1 else j := by
      unfold pim
      by_cases h9 : j < k
      · rw [if_pos h9, if_neg (by omega)]
      · rw [if_neg h9, if_pos hj, if_pos (by omega)]
    rw [e]
    obtain ⟨f, t, f1, f2, f3, f4, f5, f6, f7, f8⟩ := p3 (if k ≤ j then j + 1 else j) (by split <;> omega)
    refine ⟨f, t, f1, f2, f3, f4, f5, ?_, ?_, fun q hq => ?_⟩
    · rw [h1 122 j (by omega) hj, ← f6]; split <;> rfl
    · rw [h1 123 j (by omega) hj, ← f7]; split <;> rfl
    · obtain ⟨a, b, g1, g2, g3, g4, g5, g6, g7⟩ := f8 q hq
      refine ⟨a, b, g1, g2, g3, g4, g5, ?_, ?_⟩
      · rw [h2 124 j q (by omega) hj hq, ← g6]; split <;> rfl
      · rw [h2 125 j q (by omega) hj hq, ← g7]; split <;> rfl
theorem win_sh {mi : Nat → Nat → Int32} {lo hi k m : Nat} (h : hi ≤ 122 ∨ 126 ≤ lo) : it_win lo hi (sh mi k m) = it_win lo hi mi := by
  funext a
  unfold it_win
  split
  · exact sh_f (by omega)
  · rfl
theorem pst_isk {cnt : Nat → Nat} {kn : Nat → Nat → Nat} {rw : Nat → Nat} {s s' : Int32} {m r : Nat → Nat → Int32} (h : it_pst cnt kn rw s s' m r) : ∀ j, j < 6 → it_isk 8 (rw j) = true := by
  obtain ⟨n, _, _, _, p1, _⟩ := h
  intro j hj
  obtain ⟨i, hi, e⟩ := p1 j hj
  exact isk_msg hi e
/-- the reference's messages behind drop -/
theorem pst_sh {cnt : Nat → Nat} {kn : Nat → Nat → Nat} {rw : Nat → Nat} {k n : Nat} {m mi : Nat → Nat → Int32} (hk : k < n) (hn : n ≤ 6) (h : it_pst cnt kn rw (ii n) (ii n) m (it_win 122 126 mi)) : it_pst cnt kn (rot rw k n) (ii (n - 1)) (ii (n - 1)) m (it_win 122 126 (sh mi k (n - 1))) := by
  refine pst_drop hk hn h (fun a j ha hj => ?_) (fun a j q ha hj hq => ?_)
  · rw [win_at (by omega) (by omega), win_at (by omega) (by omega), sh_at1 ha]
    by_cases e : k ≤ j
    · rw [if_pos ⟨e, hj⟩, if_pos e]
    · rw [if_neg (fun q => e q.1), if_neg e]
  · rw [win_at (by omega) (by omega), win_at (by omega) (by omega), sh_at2 ha]
    by_cases e : k ≤ j
    · rw [if_pos (by omega), if_pos e]
      congr 1
      omega
    · rw [if_neg (by omega), if_neg e]
section
variable {Q : im_O → im_M → Prop} {L : Nat} {xs : Nat → Int32} {mi : Nat → Nat → Int32} {rw : Nat → Nat} {o : Nat → Int64} {g z i : Nat} {l5 l6 : Value}
theorem op8 (hL : L ≤ 3072) (hi : i + 6 ≤ L) (hI : it_Inv mi rw) (hK : it_K L xs i g z Q) : iw 30 0 509 [.ref 0, .ref 8, .ref 99, .ref 134, .int (ii i), l5, l6] [] (it_mem L xs mi rw o g z) Q := by
  have hI0 := hI
  obtain ⟨i1, i2, i3, i4, i5, i6, cnt, kn, vw, tm, sp, hN, hG, i9, i10, i11⟩ := hI
  have hR := pst_isk i10
  have hP := i10
  obtain ⟨n, hn, s1, s2, _⟩ := i10
  rw [s1, s2] at hP
  have hb := sc_in (k := 1) hL hi (by decide)
  have hc := sc_cl (k := 1) hL hi (by decide)
  have e1 : ii i + 1 = ii (i + 1) := ii_add (b := 1)
  simp only [w0_509, w0_510, w0_511, w0_513, w0_514, w0_515, w0_516, isa_0, ln_0, cv_0, isk_8, cv_8_0, cv_8_1, cv_8_2, cv_8_3, cv_8_4, cv_8_5, cv_8_6, cv_8_7, cv_8_8, isk_99, cv_99_0, cv_99_1, cv_99_2, cv_99_3, cv_99_4, cv_99_5, cv_99_6, cv_99_7, cv_99_8, cv_99_9, cv_99_10, cv_99_11, cv_99_12, cv_99_13, cv_99_14, cv_99_15, cv_99_16, cv_99_17, cv_99_18, cv_99_19, cv_99_20, cv_99_21, cv_99_22, cv_99_23, cv_99_24, cv_99_25, cv_99_26, cv_99_27, cv_99_28, cv_99_29, cv_99_30, cv_99_31, cv_99_32, cv_99_33, cv_99_34, cv_99_35, cv_99_36, cv_99_37, cv_99_38, cv_99_39, cv_99_40, cv_99_41, cv_99_42, cv_99_43, cv_99_44, cv_99_45, cv_99_46, e1, hb, hc, true_and]
  by_cases h : 0 ≤ xs (i + 1) ∧ xs (i + 1) < ii n
  · obtain ⟨k, hk, ep⟩ := below (b := n) rfl (by omega) h
    have s2' : it_up mi 77 1 (ii (n - 1)) 99 33 = ii n := by rw [it_up_f _ _ _ (by decide)]; exact s2
    simp only [ep, c32 hn hk s1 hR, c113 hn hk s2', ↓reduceIte, true_and, and_true, vok_int, vok_b0, vok_b1, vok_bb, r_backI, r_backV, bb_eq0, Nat.reduceAdd, Nat.reduceMul, Nat.reduceEqDiff, not_true_eq_false, not_false_eq_true, if_true, if_false, false_and, and_false, c17, c98, w0_519, w0_520, w0_521, w0_523, w0_524, w0_525, w0_526, w0_529, w0_532, w0_533, isa_0, ln_0, cv_0, isk_8, cv_8_0, cv_8_1, cv_8_2, cv_8_3, cv_8_4, cv_8_5, cv_8_6, cv_8_7, cv_8_8, isk_99, cv_99_0, cv_99_1, cv_99_2, cv_99_3, cv_99_4, cv_99_5, cv_99_6, cv_99_7, cv_99_8, cv_99_9, cv_99_10, cv_99_11, cv_99_12, cv_99_13, cv_99_14, cv_99_15, cv_99_16, cv_99_17, cv_99_18, cv_99_19, cv_99_20, cv_99_21, cv_99_22, cv_99_23, cv_99_24, cv_99_25, cv_99_26, cv_99_27, cv_99_28, cv_99_29, cv_99_30, cv_99_31, cv_99_32, cv_99_33, cv_99_34, cv_99_35, cv_99_36, cv_99_37, cv_99_38, cv_99_39, cv_99_40, cv_99_41, cv_99_42, cv_99_43, cv_99_44, cv_99_45, cv_99_46, e1, hb, hc]
    refine hK _ _ _ _ _ _ _ ?_ (by omega) (by omega)
    have hS := pst_sh (mi := it_up (it_up (it_up mi 77 1 (ii (n - 1))) 99 0 0) 99 33 (ii (n - 1))) (m := it_win 79 97 mi) hk hn (by simp (disch := omega) only [win_out]; exact hP)
    simp (disch := omega) only [it_Inv, win_sh, sh_f, it_up_f, win_out, it_up_s, Nat.reduceEqDiff, if_false, if_true]
    exact ⟨i1, i2, i3, i4, i5, i6, cnt, kn, vw, tm, sp, hN, hG, i9, hS, i11⟩
  · have ha : ¬ (0 ≤ xs (i + 1) ∧ xs (i + 1) < mi 77 1) := by rw [s1]; exact h
    have hb' : ¬ (0 ≤ xs (i + 1) ∧ xs (i + 1) < mi 99 33) := by rw [s2]; exact h
    simp only [c32n ha, c113n hb', ↓reduceIte, true_and, and_true, vok_int, vok_b0, vok_b1, vok_bb, r_backI, r_backV, bb_eq0, Nat.reduceAdd, Nat.reduceMul, Nat.reduceEqDiff, not_true_eq_false, not_false_eq_true, if_true, if_false, false_and, and_false, c17, c98, w0_519, w0_520, w0_521, w0_523, w0_524, w0_525, w0_526, w0_529, w0_532, w0_533, isa_0, ln_0, cv_0, isk_8, cv_8_0, cv_8_1, cv_8_2, cv_8_3, cv_8_4, cv_8_5, cv_8_6, cv_8_7, cv_8_8, isk_99, cv_99_0, cv_99_1, cv_99_2, cv_99_3, cv_99_4, cv_99_5, cv_99_6, cv_99_7, cv_99_8, cv_99_9, cv_99_10, cv_99_11, cv_99_12, cv_99_13, cv_99_14, cv_99_15, cv_99_16, cv_99_17, cv_99_18, cv_99_19, cv_99_20, cv_99_21, cv_99_22, cv_99_23, cv_99_24, cv_99_25, cv_99_26, cv_99_27, cv_99_28, cv_99_29, cv_99_30, cv_99_31, cv_99_32, cv_99_33, cv_99_34, cv_99_35, cv_99_36, cv_99_37, cv_99_38, cv_99_39, cv_99_40, cv_99_41, cv_99_42, cv_99_43, cv_99_44, cv_99_45, cv_99_46, e1, hb, hc]
    exact hK _ _ _ _ _ _ _ (inv_code hI0) (by omega) (by omega)
end
