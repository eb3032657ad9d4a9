/-! Contracts of the small methods. -/
noncomputable def bb (c : Prop) : Int32 := @ite _ c (Classical.propDecidable c) 1 0
theorem bb_t {c : Prop} (h : c) : bb c = 1 := @if_pos c (Classical.propDecidable c) h _ _ _
theorem bb_f {c : Prop} (h : ¬ c) : bb c = 0 := @if_neg c (Classical.propDecidable c) h _ _ _
theorem bb_eq0 {c : Prop} : (bb c = 0) ↔ ¬ c := by
  by_cases h : c
  · rw [bb_t h]; simp [h]
  · rw [bb_f h]; simp [h]
theorem bb_eq1 {c : Prop} : (bb c = 1) ↔ c := by
  by_cases h : c
  · rw [bb_t h]; simp [h]
  · rw [bb_f h]; simp [h]
theorem vok_bb {c : Prop} : it_vok .boolean (bb c) := by
  by_cases h : c
  · rw [bb_t h]; exact vok_b1
  · rw [bb_f h]; exact vok_b0
theorem bb_inj {c e : Prop} : (bb c = bb e) ↔ (c ↔ e) := by
  by_cases h1 : c <;> by_cases h2 : e <;> simp [h1, h2, bb_t, bb_f]
theorem bb_ite {c : Prop} {x : Decidable c} : bb c = (if c then 1 else 0) := by
  by_cases h : c
  · rw [bb_t h, if_pos h]
  · rw [bb_f h, if_neg h]
theorem bb_T : bb True = 1 := bb_t trivial
theorem bb_F : bb False = 0 := bb_f (fun h => h)
theorem i_nlt {a b : Int32} : ¬ a < b ↔ b ≤ a := Int32.not_lt
theorem i_nle {a b : Int32} : ¬ a ≤ b ↔ b < a := Int32.not_le
theorem nar_ch {n : Nat} (h : n < 65536) : (ii n).toUInt32.toUInt16.toUInt32.toInt32 = ii n := by
  have h2 : (ii n).toUInt32.toUInt16.toUInt32 = UInt32.ofNat n := by
    apply UInt32.toNat_inj.mp
    rw [UInt16.toNat_toUInt32, UInt32.toNat_toUInt16]
    show (UInt32.ofNat n).toNat % 2 ^ 16 = (UInt32.ofNat n).toNat
    rw [UInt32.toNat_ofNat']
    omega
  rw [h2]
  rfl
theorem vok_ch {n : Nat} (h : n < 65536) : it_vok .char (ii n) := by
  refine ⟨congrArg Value.int (nar_ch h), ?_⟩
  show (decide ((0 : Int32) ≤ ii n) && decide (ii n ≤ (65535 : Int32))) = true
  rw [Bool.and_eq_true, decide_eq_true_eq, decide_eq_true_eq]
  exact ⟨(ii_le (a := 0) (by decide) (by omega)).mpr (Nat.zero_le _), (ii_le (b := 65535) (by omega) (by decide)).mpr (by omega)⟩
theorem vp_nar_ch {n : Nat} (h : n < 65536) : vp_nar .char (ii n) = ii n := nar_ch h
theorem i2c_ii (x : Int32) : ∃ n, n < 65536 ∧ (x.toUInt32 % 65536).toInt32 = ii n := by
  refine ⟨(x.toUInt32 % 65536).toNat, ?_, ?_⟩
  · rw [UInt32.toNat_mod]
    exact Nat.mod_lt _ (by decide)
  · show (x.toUInt32 % 65536).toInt32 = (UInt32.ofNat (x.toUInt32 % 65536).toNat).toInt32
    rw [UInt32.ofNat_toNat]
section
variable {d : Nat} {Q : im_O → im_M → Prop} {L : Nat} {xs : Nat → Int32} {mi : Nat → Nat → Int32} {rw : Nat → Nat} {o : Nat → Int64} {g z : Nat}
theorem c17 {a b : Int32} : iw d 17 0 [.int a, .int b] [] (it_mem L xs mi rw o g z) Q ↔ Q (.inl (some (.int (bb (0 ≤ a ∧ a < b))))) (it_mem L xs mi rw o g z) := by
  simp only [w17_0, w17_1, w17_4, w17_5, w17_6, w17_9, w17_10, w17_13, w17_14, vok_b0, vok_b1, true_and]
  have e1 : 0 ≤ a ↔ ¬ a < 0 := i_nlt.symm
  have e2 : a < b ↔ ¬ b ≤ a := i_nle.symm
  by_cases h1 : a < 0 <;> by_cases h2 : b ≤ a <;> simp [h1, h2, bb_T, bb_F, e1, e2]
theorem c98 {a b : Int32} : iw d 98 0 [.int a, .int b] [] (it_mem L xs mi rw o g z) Q ↔ Q (.inl (some (.int (bb (0 ≤ a ∧ a ≤ b))))) (it_mem L xs mi rw o g z) := by
  simp only [w98_0, w98_1, w98_4, w98_5, w98_6, w98_9, w98_10, w98_13, w98_14, vok_b0, vok_b1, true_and]
  by_cases h1 : a < 0 <;> by_cases h2 : b < a <;> simp [h1, h2, bb_T, bb_F, ← i_nlt]
theorem c84 {a : Int32} : iw d 84 0 [.int a] [] (it_mem L xs mi rw o g z) Q ↔ Q (.inl (some (.int (bb (32 ≤ a ∧ a ≤ 126))))) (it_mem L xs mi rw o g z) := by
  simp only [w84_0, w84_1, w84_3, w84_6, w84_7, w84_9, w84_12, w84_13, w84_16, w84_17, vok_b0, vok_b1, true_and]
  by_cases h1 : a < 32 <;> by_cases h2 : 126 < a <;> simp [h1, h2, bb_T, bb_F, ← i_nlt]
theorem c20 {a b : Int32} : iw d 20 0 [.int a, .int b] [] (it_mem L xs mi rw o g z) Q ↔ Q (.inl (some (.int (a * 16 + b)))) (it_mem L xs mi rw o g z) := by
  simp only [w20_0, w20_1, w20_3, w20_4, w20_5, w20_6, vok_int, true_and]
theorem c87 {a : Int32} : iw d 87 0 [.ref 99, .int a] [] (it_mem L xs mi rw o g z) Q ↔ Q (.inl (some (.int 0))) (it_mem L xs (it_up mi 99 0 a) rw o g z) := by
  simp only [w87_0, w87_1, w87_2, w87_5, w87_6, isk_99, cv_99_0, cv_99_1, cv_99_2, cv_99_3, cv_99_4, cv_99_5, cv_99_6, cv_99_7, cv_99_8, cv_99_9, cv_99_10, cv_99_11, cv_99_12, cv_99_13, cv_99_14, cv_99_15, cv_99_16, cv_99_17, cv_99_18, cv_99_19, cv_99_20, cv_99_21, cv_99_22, cv_99_23, cv_99_24, cv_99_25, cv_99_26, cv_99_27, cv_99_28, cv_99_29, cv_99_30, cv_99_31, cv_99_32, cv_99_33, cv_99_34, cv_99_35, cv_99_36, cv_99_37, cv_99_38, cv_99_39, cv_99_40, cv_99_41, cv_99_42, cv_99_43, cv_99_44, cv_99_45, cv_99_46, vok_int, true_and]
theorem c82 : iw d 82 0 [.ref 99] [] (it_mem L xs mi rw o g z) Q ↔ Q (.inl (some (.int (mi 99 0)))) (it_mem L xs mi rw o g z) := by
  simp only [w82_0, w82_1, w82_4, isk_99, cv_99_0, cv_99_1, cv_99_2, cv_99_3, cv_99_4, cv_99_5, cv_99_6, cv_99_7, cv_99_8, cv_99_9, cv_99_10, cv_99_11, cv_99_12, cv_99_13, cv_99_14, cv_99_15, cv_99_16, cv_99_17, cv_99_18, cv_99_19, cv_99_20, cv_99_21, cv_99_22, cv_99_23, cv_99_24, cv_99_25, cv_99_26, cv_99_27, cv_99_28, cv_99_29, cv_99_30, cv_99_31, cv_99_32, cv_99_33, cv_99_34, cv_99_35, cv_99_36, cv_99_37, cv_99_38, cv_99_39, cv_99_40, cv_99_41, cv_99_42, cv_99_43, cv_99_44, cv_99_45, cv_99_46, vok_int, true_and]
theorem c46 : iw d 46 0 [.ref 17] [] (it_mem L xs mi rw o g z) Q ↔ Q (.inl (some (.int (bb (0 < mi 17 5))))) (it_mem L xs mi rw o g z) := by
  simp only [w46_0, w46_1, w46_4, w46_7, w46_8, w46_11, w46_12, isk_17, cv_17_0, cv_17_1, cv_17_2, cv_17_3, cv_17_4, cv_17_5, vok_b0, vok_b1, true_and]
  by_cases h1 : mi 17 5 ≤ 0 <;> simp [h1, bb_T, bb_F, ← i_nle]
end
