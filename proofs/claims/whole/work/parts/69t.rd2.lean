/-! The class's reader: facts. -/
def fk (qq : Bool) (a b : Nat) : Int32 := if a = 110 then 6 else if a = 111 then 9 else if a = 112 ∧ b = 60 then 3 else if a = 112 ∧ b = 62 then 5 else if ¬ b = 61 then -1 else if a = 112 then 4 else if a = 114 then 8 else if a = 115 then 10 else if qq = true then 11 else 7
theorem ix_1 {a : Nat} (ha : a < 128) : 0 ≤ it_ix 1 (ii a) ↔ (a = 112 ∨ a = 110 ∨ a = 117 ∨ a = 114 ∨ a = 111) := by
  have e : ∀ k : Nat, k < 128 → ((ii k = ii a) ↔ (k = a)) := fun k hk => ii_inj (by omega) (by omega)
  show 0 ≤ (if ii 112 = ii a then Int32.ofNat 0 else if ii 110 = ii a then Int32.ofNat 1 else if ii 117 = ii a then Int32.ofNat 2 else if ii 114 = ii a then Int32.ofNat 3 else if ii 111 = ii a then Int32.ofNat 4 else -1) ↔ _
  by_cases a1 : 112 = a
  · rw [if_pos ((e 112 (by decide)).mpr a1)]; exact ⟨fun _ => by omega, fun _ => by decide⟩
  rw [if_neg (fun q => a1 ((e 112 (by decide)).mp q))]
  by_cases a2 : 110 = a
  · rw [if_pos ((e 110 (by decide)).mpr a2)]; exact ⟨fun _ => by omega, fun _ => by decide⟩
  rw [if_neg (fun q => a2 ((e 110 (by decide)).mp q))]
  by_cases a3 : 117 = a
  · rw [if_pos ((e 117 (by decide)).mpr a3)]; exact ⟨fun _ => by omega, fun _ => by decide⟩
  rw [if_neg (fun q => a3 ((e 117 (by decide)).mp q))]
  by_cases a4 : 114 = a
  · rw [if_pos ((e 114 (by decide)).mpr a4)]; exact ⟨fun _ => by omega, fun _ => by decide⟩
  rw [if_neg (fun q => a4 ((e 114 (by decide)).mp q))]
  by_cases a5 : 111 = a
  · rw [if_pos ((e 111 (by decide)).mpr a5)]; exact ⟨fun _ => by omega, fun _ => by decide⟩
  rw [if_neg (fun q => a5 ((e 111 (by decide)).mp q))]
  exact ⟨fun h => absurd h (by decide), fun h => by omega⟩
theorem ix_2 {a : Nat} (ha : a < 128) : 0 ≤ it_ix 2 (ii a) ↔ (a = 112 ∨ a = 110 ∨ a = 117 ∨ a = 115) := by
  have e : ∀ k : Nat, k < 128 → ((ii k = ii a) ↔ (k = a)) := fun k hk => ii_inj (by omega) (by omega)
  show 0 ≤ (if ii 112 = ii a then Int32.ofNat 0 else if ii 110 = ii a then Int32.ofNat 1 else if ii 117 = ii a then Int32.ofNat 2 else if ii 115 = ii a then Int32.ofNat 3 else -1) ↔ _
  by_cases a1 : 112 = a
  · rw [if_pos ((e 112 (by decide)).mpr a1)]; exact ⟨fun _ => by omega, fun _ => by decide⟩
  rw [if_neg (fun q => a1 ((e 112 (by decide)).mp q))]
  by_cases a2 : 110 = a
  · rw [if_pos ((e 110 (by decide)).mpr a2)]; exact ⟨fun _ => by omega, fun _ => by decide⟩
  rw [if_neg (fun q => a2 ((e 110 (by decide)).mp q))]
  by_cases a3 : 117 = a
  · rw [if_pos ((e 117 (by decide)).mpr a3)]; exact ⟨fun _ => by omega, fun _ => by decide⟩
  rw [if_neg (fun q => a3 ((e 117 (by decide)).mp q))]
  by_cases a4 : 115 = a
  · rw [if_pos ((e 115 (by decide)).mpr a4)]; exact ⟨fun _ => by omega, fun _ => by decide⟩
  rw [if_neg (fun q => a4 ((e 115 (by decide)).mp q))]
  exact ⟨fun h => absurd h (by decide), fun h => by omega⟩
section
variable {d : Nat} {Q : im_O → im_M → Prop} {L : Nat} {xs : Nat → Int32} {mi : Nat → Nat → Int32} {rw : Nat → Nat} {o : Nat → Int64} {g z : Nat}
variable {Rd n C : Nat} {T : Nat → Nat} {qq : Bool}
theorem w56_10 {l0 l1 l2 l3 l4 : Value} {k : Nat} {c : Int32} {M : im_M} (hk : k = 1 ∨ k = 2) (h0 : 0 ≤ c) (h1 : c < 128) : iw d 56 10 [l0, l1, l2, l3, l4] [.int c, .ref k] M Q ↔ iw d 56 13 [l0, l1, l2, l3, l4] [.int (it_ix k c)] M Q := r_ixof (show im_at 56 10 (.invokevirtual 94) 3 from ⟨by decide +kernel, by decide +kernel⟩) (by decide +kernel) hk h0 h1 (Nat.le_of_ble_eq_true rfl)
theorem c57 {a b : Nat} (hx : it_rx Rd n T qq mi) (ha : a < 128) (hb : b < 128) : iw d 57 0 [.ref Rd, .int (ii a), .int (ii b)] [] (it_mem L xs mi rw o g z) Q ↔ Q (.inl (some (.int (fk qq a b)))) (it_mem L xs mi rw o g z) := by
  have hR := rx_r hx
  have h1 := hx.2.1
  have a1 : ii a = 110 ↔ a = 110 := by rw [lit_110, ii_inj (by omega) (by decide)]
  have a2 : ii a = 111 ↔ a = 111 := by rw [lit_111, ii_inj (by omega) (by decide)]
  have a3 : ii a = 112 ↔ a = 112 := by rw [lit_112, ii_inj (by omega) (by decide)]
  have a4 : ii a = 114 ↔ a = 114 := by rw [lit_114, ii_inj (by omega) (by decide)]
  have a5 : ii a = 115 ↔ a = 115 := by rw [lit_115, ii_inj (by omega) (by decide)]
  have b1 : ii b = 60 ↔ b = 60 := by rw [lit_60, ii_inj (by omega) (by decide)]
  have b2 : ii b = 62 ↔ b = 62 := by rw [lit_62, ii_inj (by omega) (by decide)]
  have b3 : ii b = 61 ↔ b = 61 := by rw [lit_61, ii_inj (by omega) (by decide)]
  unfold fk
  by_cases e1 : a = 110
  · simp only [w57_0, w57_1, w57_3, w57_6, w57_8, w57_9, w57_10, w57_12, w57_15, w57_17, w57_18, w57_19, w57_21, w57_24, w57_25, w57_27, w57_30, w57_31, w57_32, w57_33, w57_35, w57_38, w57_39, w57_41, w57_44, w57_45, w57_46, w57_47, w57_49, w57_52, w57_53, w57_54, w57_55, w57_57, w57_60, w57_61, w57_62, w57_63, w57_65, w57_68, w57_70, w57_71, w57_72, w57_74, w57_77, w57_79, w57_80, w57_81, w57_84, w57_87, w57_89, w57_92, w57_94, ↓reduceIte, true_and, and_true, vok_int, vok_b0, vok_b1, vok_bb, r_backI, r_backV, bb_eq0, Nat.reduceAdd, Nat.reduceMul, Nat.reduceEqDiff, not_true_eq_false, not_false_eq_true, if_true, if_false, false_and, and_false, c17, c98, a1, eq_true e1]
  by_cases e2 : a = 111
  · simp only [w57_0, w57_1, w57_3, w57_6, w57_8, w57_9, w57_10, w57_12, w57_15, w57_17, w57_18, w57_19, w57_21, w57_24, w57_25, w57_27, w57_30, w57_31, w57_32, w57_33, w57_35, w57_38, w57_39, w57_41, w57_44, w57_45, w57_46, w57_47, w57_49, w57_52, w57_53, w57_54, w57_55, w57_57, w57_60, w57_61, w57_62, w57_63, w57_65, w57_68, w57_70, w57_71, w57_72, w57_74, w57_77, w57_79, w57_80, w57_81, w57_84, w57_87, w57_89, w57_92, w57_94, ↓reduceIte, true_and, and_true, vok_int, vok_b0, vok_b1, vok_bb, r_backI, r_backV, bb_eq0, Nat.reduceAdd, Nat.reduceMul, Nat.reduceEqDiff, not_true_eq_false, not_false_eq_true, if_true, if_false, false_and, and_false, c17, c98, a1, a2, eq_true e2, e1]
  by_cases e3 : a = 112
  · by_cases f1 : b = 60
    · simp only [w57_0, w57_1, w57_3, w57_6, w57_8, w57_9, w57_10, w57_12, w57_15, w57_17, w57_18, w57_19, w57_21, w57_24, w57_25, w57_27, w57_30, w57_31, w57_32, w57_33, w57_35, w57_38, w57_39, w57_41, w57_44, w57_45, w57_46, w57_47, w57_49, w57_52, w57_53, w57_54, w57_55, w57_57, w57_60, w57_61, w57_62, w57_63, w57_65, w57_68, w57_70, w57_71, w57_72, w57_74, w57_77, w57_79, w57_80, w57_81, w57_84, w57_87, w57_89, w57_92, w57_94, ↓reduceIte, true_and, and_true, vok_int, vok_b0, vok_b1, vok_bb, r_backI, r_backV, bb_eq0, Nat.reduceAdd, Nat.reduceMul, Nat.reduceEqDiff, not_true_eq_false, not_false_eq_true, if_true, if_false, false_and, and_false, c17, c98, a1, a2, a3, b1, eq_true e3, eq_true f1, e1, e2]
    · by_cases f2 : b = 62
      · simp only [w57_0, w57_1, w57_3, w57_6, w57_8, w57_9, w57_10, w57_12, w57_15, w57_17, w57_18, w57_19, w57_21, w57_24, w57_25, w57_27, w57_30, w57_31, w57_32, w57_33, w57_35, w57_38, w57_39, w57_41, w57_44, w57_45, w57_46, w57_47, w57_49, w57_52, w57_53, w57_54, w57_55, w57_57, w57_60, w57_61, w57_62, w57_63, w57_65, w57_68, w57_70, w57_71, w57_72, w57_74, w57_77, w57_79, w57_80, w57_81, w57_84, w57_87, w57_89, w57_92, w57_94, ↓reduceIte, true_and, and_true, vok_int, vok_b0, vok_b1, vok_bb, r_backI, r_backV, bb_eq0, Nat.reduceAdd, Nat.reduceMul, Nat.reduceEqDiff, not_true_eq_false, not_false_eq_true, if_true, if_false, false_and, and_false, c17, c98, a1, a2, a3, b1, b2, eq_true e3, f1, eq_true f2, e1, e2]
      · by_cases f3 : b = 61
        · simp only [w57_0, w57_1, w57_3, w57_6, w57_8, w57_9, w57_10, w57_12, w57_15, w57_17, w57_18, w57_19, w57_21, w57_24, w57_25, w57_27, w57_30, w57_31, w57_32, w57_33, w57_35, w57_38, w57_39, w57_41, w57_44, w57_45, w57_46, w57_47, w57_49, w57_52, w57_53, w57_54, w57_55, w57_57, w57_60, w57_61, w57_62, w57_63, w57_65, w57_68, w57_70, w57_71, w57_72, w57_74, w57_77, w57_79, w57_80, w57_81, w57_84, w57_87, w57_89, w57_92, w57_94, ↓reduceIte, true_and, and_true, vok_int, vok_b0, vok_b1, vok_bb, r_backI, r_backV, bb_eq0, Nat.reduceAdd, Nat.reduceMul, Nat.reduceEqDiff, not_true_eq_false, not_false_eq_true, if_true, if_false, false_and, and_false, c17, c98, a1, a2, a3, b1, b2, b3, eq_true e3, f1, f2, eq_true f3, e1, e2]
        · simp only [w57_0, w57_1, w57_3, w57_6, w57_8, w57_9, w57_10, w57_12, w57_15, w57_17, w57_18, w57_19, w57_21, w57_24, w57_25, w57_27, w57_30, w57_31, w57_32, w57_33, w57_35, w57_38, w57_39, w57_41, w57_44, w57_45, w57_46, w57_47, w57_49, w57_52, w57_53, w57_54, w57_55, w57_57, w57_60, w57_61, w57_62, w57_63, w57_65, w57_68, w57_70, w57_71, w57_72, w57_74, w57_77, w57_79, w57_80, w57_81, w57_84, w57_87, w57_89, w57_92, w57_94, ↓reduceIte, true_and, and_true, vok_int, vok_b0, vok_b1, vok_bb, r_backI, r_backV, bb_eq0, Nat.reduceAdd, Nat.reduceMul, Nat.reduceEqDiff, not_true_eq_false, not_false_eq_true, if_true, if_false, false_and, and_false, c17, c98, a1, a2, a3, b1, b2, b3, eq_true e3, f1, f2, f3, e1, e2]
  by_cases f3 : b = 61
  · by_cases e4 : a = 114
    · simp only [w57_0, w57_1, w57_3, w57_6, w57_8, w57_9, w57_10, w57_12, w57_15, w57_17, w57_18, w57_19, w57_21, w57_24, w57_25, w57_27, w57_30, w57_31, w57_32, w57_33, w57_35, w57_38, w57_39, w57_41, w57_44, w57_45, w57_46, w57_47, w57_49, w57_52, w57_53, w57_54, w57_55, w57_57, w57_60, w57_61, w57_62, w57_63, w57_65, w57_68, w57_70, w57_71, w57_72, w57_74, w57_77, w57_79, w57_80, w57_81, w57_84, w57_87, w57_89, w57_92, w57_94, ↓reduceIte, true_and, and_true, vok_int, vok_b0, vok_b1, vok_bb, r_backI, r_backV, bb_eq0, Nat.reduceAdd, Nat.reduceMul, Nat.reduceEqDiff, not_true_eq_false, not_false_eq_true, if_true, if_false, false_and, and_false, c17, c98, a1, a2, a3, a4, b3, e1, e2, e3, eq_true e4, eq_true f3]
    · by_cases e5 : a = 115
      · simp only [w57_0, w57_1, w57_3, w57_6, w57_8, w57_9, w57_10, w57_12, w57_15, w57_17, w57_18, w57_19, w57_21, w57_24, w57_25, w57_27, w57_30, w57_31, w57_32, w57_33, w57_35, w57_38, w57_39, w57_41, w57_44, w57_45, w57_46, w57_47, w57_49, w57_52, w57_53, w57_54, w57_55, w57_57, w57_60, w57_61, w57_62, w57_63, w57_65, w57_68, w57_70, w57_71, w57_72, w57_74, w57_77, w57_79, w57_80, w57_81, w57_84, w57_87, w57_89, w57_92, w57_94, ↓reduceIte, true_and, and_true, vok_int, vok_b0, vok_b1, vok_bb, r_backI, r_backV, bb_eq0, Nat.reduceAdd, Nat.reduceMul, Nat.reduceEqDiff, not_true_eq_false, not_false_eq_true, if_true, if_false, false_and, and_false, c17, c98, a1, a2, a3, a4, a5, b3, e1, e2, e3, e4, eq_true e5, eq_true f3]
      · cases qq with
        | true =>
          have h1 : mi Rd 1 = 1 := h1.trans (bb_t rfl)
          simp only [w57_0, w57_1, w57_3, w57_6, w57_8, w57_9, w57_10, w57_12, w57_15, w57_17, w57_18, w57_19, w57_21, w57_24, w57_25, w57_27, w57_30, w57_31, w57_32, w57_33, w57_35, w57_38, w57_39, w57_41, w57_44, w57_45, w57_46, w57_47, w57_49, w57_52, w57_53, w57_54, w57_55, w57_57, w57_60, w57_61, w57_62, w57_63, w57_65, w57_68, w57_70, w57_71, w57_72, w57_74, w57_77, w57_79, w57_80, w57_81, w57_84, w57_87, w57_89, w57_92, w57_94, ↓reduceIte, true_and, and_true, vok_int, vok_b0, vok_b1, vok_bb, r_backI, r_backV, bb_eq0, Nat.reduceAdd, Nat.reduceMul, Nat.reduceEqDiff, not_true_eq_false, not_false_eq_true, if_true, if_false, false_and, and_false, c17, c98, n_m1_0, n_m1_1, n_m1_2, n_m1_3, n_m1_4, n_m1_5, n_m1_6, n_0_m1, n_0_1, n_0_2, n_0_3, n_0_4, n_0_5, n_0_6, n_1_m1, n_1_0, n_1_2, n_1_3, n_1_4, n_1_5, n_1_6, n_2_m1, n_2_0, n_2_1, n_2_3, n_2_4, n_2_5, n_2_6, n_3_m1, n_3_0, n_3_1, n_3_2, n_3_4, n_3_5, n_3_6, n_4_m1, n_4_0, n_4_1, n_4_2, n_4_3, n_4_5, n_4_6, n_5_m1, n_5_0, n_5_1, n_5_2, n_5_3, n_5_4, n_5_6, n_6_m1, n_6_0, n_6_1, n_6_2, n_6_3, n_6_4, n_6_5, rd_k hR, rd_1 hR, h1, a1, a2, a3, a4, a5, b3, e1, e2, e3, e4, e5, eq_true f3]
        | false =>
          have h1 : mi Rd 1 = 0 := h1.trans (bb_f (fun h => by cases h))
          have ff : (false = true) = False := by simp
          simp only [w57_0, w57_1, w57_3, w57_6, w57_8, w57_9, w57_10, w57_12, w57_15, w57_17, w57_18, w57_19, w57_21, w57_24, w57_25, w57_27, w57_30, w57_31, w57_32, w57_33, w57_35, w57_38, w57_39, w57_41, w57_44, w57_45, w57_46, w57_47, w57_49, w57_52, w57_53, w57_54, w57_55, w57_57, w57_60, w57_61, w57_62, w57_63, w57_65, w57_68, w57_70, w57_71, w57_72, w57_74, w57_77, w57_79, w57_80, w57_81, w57_84, w57_87, w57_89, w57_92, w57_94, ↓reduceIte, true_and, and_true, vok_int, vok_b0, vok_b1, vok_bb, r_backI, r_backV, bb_eq0, Nat.reduceAdd, Nat.reduceMul, Nat.reduceEqDiff, not_true_eq_false, not_false_eq_true, if_true, if_false, false_and, and_false, c17, c98, rd_k hR, rd_1 hR, h1, a1, a2, a3, a4, a5, b3, e1, e2, e3, e4, e5, eq_true f3, ff]
  · simp only [w57_0, w57_1, w57_3, w57_6, w57_8, w57_9, w57_10, w57_12, w57_15, w57_17, w57_18, w57_19, w57_21, w57_24, w57_25, w57_27, w57_30, w57_31, w57_32, w57_33, w57_35, w57_38, w57_39, w57_41, w57_44, w57_45, w57_46, w57_47, w57_49, w57_52, w57_53, w57_54, w57_55, w57_57, w57_60, w57_61, w57_62, w57_63, w57_65, w57_68, w57_70, w57_71, w57_72, w57_74, w57_77, w57_79, w57_80, w57_81, w57_84, w57_87, w57_89, w57_92, w57_94, ↓reduceIte, true_and, and_true, vok_int, vok_b0, vok_b1, vok_bb, r_backI, r_backV, bb_eq0, Nat.reduceAdd, Nat.reduceMul, Nat.reduceEqDiff, not_true_eq_false, not_false_eq_true, if_true, if_false, false_and, and_false, c17, c98, a1, a2, a3, b3, e1, e2, e3, f3]
/-- where the code is that a reader writes -/
def it_rc (Rd C : Nat) : Prop := (Rd = 9 ∧ C = 22) ∨ (Rd = 11 ∧ C = 13)
theorem rc_k (h : it_rc Rd C) : it_isk 1 C = true := by
  rcases h with ⟨-, rfl⟩ | ⟨-, rfl⟩
  · exact isk_22
  · exact isk_13
theorem rc_n (h : it_rc Rd C) (hx : it_rx Rd n T qq mi) : n ≤ if C = 13 then 40 else 120 := by
  rcases h with ⟨rfl, rfl⟩ | ⟨rfl, rfl⟩
  · rcases hx.1 with h | h <;> simp <;> omega
  · rcases hx.1 with h | h <;> simp <;> omega
theorem rc_a (h : it_rc Rd C) : Rd + 2 ≤ C ∧ 13 ≤ C := by
  rcases h with ⟨rfl, rfl⟩ | ⟨rfl, rfl⟩ <;> exact ⟨by decide, by decide⟩
/-- what a reading leads to -/
def it_PQ (L : Nat) (xs : Nat → Int32) (rw : Nat → Nat) (o : Nat → Int64) (g z : Nat) (Q : im_O → im_M → Prop) (Rd C s : Nat) (mi : Nat → Nat → Int32) (r : PR) : Prop :=
  ∀ mi', it_rf Rd C s mi mi' → mi' Rd 5 = ii r.1 → (r.2 = none → Q (.inl (some (.int 0))) (it_mem L xs mi' rw o g z)) ∧ ∀ c, r.2 = some c → it_cd C s c.1 mi' → Q (.inl (some (.int 1))) (it_mem L xs mi' rw o g z)
theorem c56D {a p s lo m : Nat} {K : Int32} {v4 : Value} {mi0 : Nat → Nat → Int32} (hRC : it_rc Rd C) (hx : it_rx Rd n T qq mi) (hp : p + 2 ≤ n) (h5 : mi Rd 5 = ii (p + 1)) (hs : mi C 2 = ii s) (hsp : s ≤ p) (ha : a < 128) (hlo : (a = 115 ∧ lo = 65 ∧ m = 6) ∨ (a ≠ 115 ∧ lo = 48 ∧ m = 10)) (hf : it_rf Rd C s mi0 mi)
    (hQ : it_PQ L xs rw o g z Q Rd C s mi0 (pD T p K lo (lo + m - 1))) : iw (d + 1) 56 65 [.ref Rd, .ref C, .int (ii a), .int K, v4] [] (it_mem L xs mi rw o g z) Q := by
  have hR := rx_r hx
  obtain ⟨hRC2, hC13⟩ := rc_a hRC
  have hCk := rc_k hRC
  have e1 : ii (p + 1) + 1 = ii (p + 2) := ii_add (b := 1)
  have e2 : ii (p + 2) + 1 = ii (p + 3) := ii_add (b := 1)
  have hf1 : it_rf Rd C s mi (it_up mi Rd 5 (ii (p + 2))) := rf_at hRC2
  have hx1 := rx_fr hx hC13 hf1
  have h51 : it_up mi Rd 5 (ii (p + 2)) Rd 5 = ii (p + 2) := it_up_same _ _ _ _
  have hT := hx.2.2.2.2.2 (p + 2)
  have a5 : ii a = 115 ↔ a = 115 := by rw [lit_115, ii_inj (by omega) (by decide)]
  have hup : it_up (it_up mi Rd 5 (ii (p + 2))) Rd 5 (ii (p + 3)) = it_up mi Rd 5 (ii (p + 3)) := by
    funext x y
    simp only [it_up_app]
    split <;> rfl
  have hs3 : it_up mi Rd 5 (ii (p + 3)) C 2 = ii s := by rw [it_up_f _ _ _ (by omega)]; exact hs
  have hnl := rc_n hRC hx
  have hsl : s < if C = 13 then 40 else 120 := by split at hnl <;> (rename_i h; simp only [h, if_true, if_false]; omega)
  have hf3 : it_rf Rd C s mi0 (it_up mi Rd 5 (ii (p + 3))) := rf_trans (Nat.le_refl _) hf (rf_at hRC2)
  by_cases hd : lo ≤ T (p + 2) ∧ T (p + 2) ≤ lo + m - 1
  · have hpD : pD T p K lo (lo + m - 1) = (p + 3, some (cvF K (ii (T (p + 2) - lo)))) := if_pos hd
    rw [hpD] at hQ
    have hfr : it_rf Rd C s mi0 (cup C s K (ii (T (p + 2) - lo)) (it_up mi Rd 5 (ii (p + 3)))) := by
      rcases cup_rf (Rd := Rd) (mi := it_up mi Rd 5 (ii (p + 3))) (C := C) (s := s) (k := K) (v := ii (T (p + 2) - lo)) with h | h
      · exact rf_trans (Nat.le_refl _) hf3 h
      · omega
    have hfin := (hQ (cup C s K (ii (T (p + 2) - lo)) (it_up mi Rd 5 (ii (p + 3)))) hfr (by
      unfold cup
      rw [it_up_f _ _ _ (by omega), it_up_f _ _ _ (by omega), it_up_f _ _ _ (by omega), it_up_same])).2 _ rfl (by
      have := cd_cup (k := K) (v := ii (T (p + 2) - lo)) (cd_nil hs3)
      exact this)
    rcases hlo with ⟨h1, h2, h3⟩ | ⟨h1, h2, h3⟩
    · subst h2; subst h3
      have e6 : ii (T (p + 2)) - 65 = ii (T (p + 2) - 65) := by rw [lit_65, ii_sub hd.1]
      simp only [w56_65, w56_66, w56_67, w56_70, w56_71, w56_72, w56_75, w56_76, w56_78, w56_81, w56_82, w56_85, w56_87, w56_88, w56_91, w56_92, w56_95, w56_97, w56_98, w56_100, w56_102, w56_103, w56_105, w56_108, w56_110, w56_113, w56_115, w56_118, w56_121, w56_122, w56_123, w56_124, w56_125, w56_128, w56_129, w56_130, w56_133, w56_134, w56_135, w56_137, w56_140, w56_141, ↓reduceIte, true_and, and_true, vok_int, vok_b0, vok_b1, vok_bb, r_backI, r_backV, bb_eq0, Nat.reduceAdd, Nat.reduceMul, Nat.reduceEqDiff, not_true_eq_false, not_false_eq_true, if_true, if_false, false_and, and_false, c17, c98, rd_k hR, rd_5 hR, h5, e1, e2, h51, hup, a5, eq_true h1, c51 hx1 hp h51, e6, bel (x := 6) (b := 6) rfl (by decide) (show T (p + 2) - 65 < 6 by omega), hCk, c58 hCk hC13 hs3 hsl]
      exact hfin
    · subst h2; subst h3
      have e6 : ii (T (p + 2)) - 48 = ii (T (p + 2) - 48) := by rw [lit_48, ii_sub hd.1]
      simp only [w56_65, w56_66, w56_67, w56_70, w56_71, w56_72, w56_75, w56_76, w56_78, w56_81, w56_82, w56_85, w56_87, w56_88, w56_91, w56_92, w56_95, w56_97, w56_98, w56_100, w56_102, w56_103, w56_105, w56_108, w56_110, w56_113, w56_115, w56_118, w56_121, w56_122, w56_123, w56_124, w56_125, w56_128, w56_129, w56_130, w56_133, w56_134, w56_135, w56_137, w56_140, w56_141, ↓reduceIte, true_and, and_true, vok_int, vok_b0, vok_b1, vok_bb, r_backI, r_backV, bb_eq0, Nat.reduceAdd, Nat.reduceMul, Nat.reduceEqDiff, not_true_eq_false, not_false_eq_true, if_true, if_false, false_and, and_false, c17, c98, rd_k hR, rd_5 hR, h5, e1, e2, h51, hup, a5, h1, c51 hx1 hp h51, e6, bel (x := 10) (b := 10) rfl (by decide) (show T (p + 2) - 48 < 10 by omega), hCk, c58 hCk hC13 hs3 hsl]
      exact hfin
  · have hpD : pD T p K lo (lo + m - 1) = (p + 2, none) := if_neg hd
    rw [hpD] at hQ
    have hfin := (hQ (it_up mi Rd 5 (ii (p + 2))) (rf_trans (Nat.le_refl _) hf hf1) h51).1 rfl
    rcases hlo with ⟨h1, h2, h3⟩ | ⟨h1, h2, h3⟩
    · subst h2; subst h3
      have e6 : ¬ (0 ≤ ii (T (p + 2)) - 65 ∧ ii (T (p + 2)) - 65 < 6) := by
        rw [lit_65, lit_6, dgt hT (by decide) (by decide)]
        omega
      simp only [w56_65, w56_66, w56_67, w56_70, w56_71, w56_72, w56_75, w56_76, w56_78, w56_81, w56_82, w56_85, w56_87, w56_88, w56_91, w56_92, w56_95, w56_97, w56_98, w56_100, w56_102, w56_103, w56_105, w56_108, w56_110, w56_113, w56_115, w56_118, w56_121, w56_122, ↓reduceIte, true_and, and_true, vok_int, vok_b0, vok_b1, vok_bb, r_backI, r_backV, bb_eq0, Nat.reduceAdd, Nat.reduceMul, Nat.reduceEqDiff, not_true_eq_false, not_false_eq_true, if_true, if_false, false_and, and_false, c17, c98, rd_k hR, rd_5 hR, h5, e1, h51, a5, eq_true h1, c51 hx1 hp h51, eq_false e6]
      exact hfin
    · subst h2; subst h3
      have e6 : ¬ (0 ≤ ii (T (p + 2)) - 48 ∧ ii (T (p + 2)) - 48 < 10) := by
        rw [lit_48, lit_10, dgt hT (by decide) (by decide)]
        omega
      simp only [w56_65, w56_66, w56_67, w56_70, w56_71, w56_72, w56_75, w56_76, w56_78, w56_81, w56_82, w56_85, w56_87, w56_88, w56_91, w56_92, w56_95, w56_97, w56_98, w56_100, w56_102, w56_103, w56_105, w56_108, w56_110, w56_113, w56_115, w56_118, w56_121, w56_122, ↓reduceIte, true_and, and_true, vok_int, vok_b0, vok_b1, vok_bb, r_backI, r_backV, bb_eq0, Nat.reduceAdd, Nat.reduceMul, Nat.reduceEqDiff, not_true_eq_false, not_false_eq_true, if_true, if_false, false_and, and_false, c17, c98, rd_k hR, rd_5 hR, h5, e1, h51, a5, h1, c51 hx1 hp h51, eq_false e6]
      exact hfin
theorem c56 {p s : Nat} {v2 v3 v4 : Value} (hRC : it_rc Rd C) (hx : it_rx Rd n T qq mi) (hp : p ≤ n) (h5 : mi Rd 5 = ii p) (hs : mi C 2 = ii s) (hsp : s ≤ p) (hQ : it_PQ L xs rw o g z Q Rd C s mi (pF qq T p)) : iw (d + 1) 56 0 [.ref Rd, .ref C, v2, v3, v4] [] (it_mem L xs mi rw o g z) Q := by
  have hR := rx_r hx
  obtain ⟨hRC2, hC13⟩ := rc_a hRC
  have hCk := rc_k hRC
  have hz := hx.2.2.2.2.1
  have e1 : ii p + 1 = ii (p + 1) := ii_add (b := 1)
  have hT := hx.2.2.2.2.2 p
  have hT1 := hx.2.2.2.2.2 (p + 1)
  have hk : (if Rd = 9 then 1 else 2) = 1 ∨ (if Rd = 9 then 1 else 2) = 2 := by split <;> simp
  have ch0 : 0 ≤ ii (T p) := (ii_le (a := 0) (by decide) (by omega)).mpr (Nat.zero_le _)
  have ch1 : ii (T p) < 128 := (ii_lt (b := 128) (by omega) (by decide)).mpr hT
  -- is it a name?
  have hname : 0 ≤ it_ix (if Rd = 9 then 1 else 2) (ii (T p)) ↔ (T p = 112 ∨ T p = 110 ∨ T p = 117 ∨ (qq = false ∧ (T p = 114 ∨ T p = 111)) ∨ (qq = true ∧ T p = 115)) := by
    rcases hx.1 with ⟨h1, h2, -⟩ | ⟨h1, h2, -⟩
    · rw [if_pos h1, h2, ix_1 hT]
      constructor
      · intro h; simp; omega
      · intro h; simp at h; omega
    · rw [if_neg (by omega), h2, ix_2 hT]
      constructor
      · intro h; simp; omega
      · intro h; simp at h; omega
  by_cases hnm : 0 ≤ it_ix (if Rd = 9 then 1 else 2) (ii (T p))
  · have hnm2 := hname.mp hnm
    have hpn : p < n := Nat.lt_of_not_le (fun q => by rw [hz p q] at hnm2; omega)
    have hf1 : it_rf Rd C s mi (it_up mi Rd 5 (ii (p + 1))) := rf_at hRC2
    have hx1 := rx_fr hx hC13 hf1
    have h51 : it_up mi Rd 5 (ii (p + 1)) Rd 5 = ii (p + 1) := it_up_same _ _ _ _
    have hs1 : it_up mi Rd 5 (ii (p + 1)) C 2 = ii s := by rw [it_up_f _ _ _ (by omega)]; exact hs
    have hnl := rc_n hRC hx
    have hsl : s < if C = 13 then 40 else 120 := by split at hnl <;> (rename_i h; simp only [h, if_true, if_false]; omega)
    have hb : iw (d + 1) 56 0 [.ref Rd, .ref C, v2, v3, v4] [] (it_mem L xs mi rw o g z) Q ↔ iw (d + 1) 56 38 [.ref Rd, .ref C, .int (ii (T p)), .int (fk qq (T p) (T (p + 1))), v4] [] (it_mem L xs (it_up mi Rd 5 (ii (p + 1))) rw o g z) Q := by
      simp only [w56_0, w56_1, w56_4, w56_5, w56_6, w56_9, w56_13, w56_16, w56_17, w56_18, w56_19, w56_20, w56_23, w56_24, w56_25, w56_28, w56_29, w56_30, w56_31, w56_34, w56_37, w56_10 hk ch0 ch1, ↓reduceIte, true_and, and_true, vok_int, vok_b0, vok_b1, vok_bb, r_backI, r_backV, bb_eq0, Nat.reduceAdd, Nat.reduceMul, Nat.reduceEqDiff, not_true_eq_false, not_false_eq_true, if_true, if_false, false_and, and_false, c17, c98, rd_k hR, rd_2 hR, rd_5 hR, h5, c51 hx hp h5, eq_true hnm, e1, c51 hx1 (show p + 1 ≤ n by omega) h51, c57 hx1 hT hT1]
    rw [hb]
    have a1 : ii (T p) = 110 ↔ T p = 110 := by rw [lit_110, ii_inj (by omega) (by decide)]
    have a2 : ii (T p) = 111 ↔ T p = 111 := by rw [lit_111, ii_inj (by omega) (by decide)]
    -- n and o
    have hno : ∀ K : Int32, ¬ K = -1 → fk qq (T p) (T (p + 1)) = K → (T p = 110 ∨ T p = 111) → pF qq T p = (p + 1, some (cvF K 0)) → iw (d + 1) 56 38 [.ref Rd, .ref C, .int (ii (T p)), .int (fk qq (T p) (T (p + 1))), v4] [] (it_mem L xs (it_up mi Rd 5 (ii (p + 1))) rw o g z) Q := by
      intro K hK hfk hor hpF
      rw [hpF] at hQ
      have hfr : it_rf Rd C s mi (cup C s K 0 (it_up mi Rd 5 (ii (p + 1)))) := by
        rcases cup_rf (Rd := Rd) (mi := it_up mi Rd 5 (ii (p + 1))) (C := C) (s := s) (k := K) (v := 0) with h | h
        · exact rf_trans (Nat.le_refl _) hf1 h
        · omega
      have hfin := (hQ (cup C s K 0 (it_up mi Rd 5 (ii (p + 1)))) hfr (by
        unfold cup
        rw [it_up_f _ _ _ (by omega), it_up_f _ _ _ (by omega), it_up_f _ _ _ (by omega), it_up_same])).2 _ rfl (by
        have := cd_cup (k := K) (v := 0) (cd_nil hs1)
        exact this)
      rw [hfk]
      rcases hor with h | h
      · have a1 : ii (T p) = 110 := a1.mpr h
        simp only [w56_38, w56_39, w56_40, w56_43, w56_44, w56_45, w56_46, w56_48, w56_51, w56_52, w56_54, w56_57, w56_58, w56_59, w56_60, w56_63, w56_64, ↓reduceIte, true_and, and_true, vok_int, vok_b0, vok_b1, vok_bb, r_backI, r_backV, bb_eq0, Nat.reduceAdd, Nat.reduceMul, Nat.reduceEqDiff, not_true_eq_false, not_false_eq_true, if_true, if_false, false_and, and_false, c17, c98, hK, eq_true a1, hCk, c58 hCk hC13 hs1 hsl]
        exact hfin
      · have n1 : ¬ ii (T p) = 110 := fun q => by have := a1.mp q; omega
        have a2 : ii (T p) = 111 := a2.mpr h
        simp only [w56_38, w56_39, w56_40, w56_43, w56_44, w56_45, w56_46, w56_48, w56_51, w56_52, w56_54, w56_57, w56_58, w56_59, w56_60, w56_63, w56_64, ↓reduceIte, true_and, and_true, vok_int, vok_b0, vok_b1, vok_bb, r_backI, r_backV, bb_eq0, Nat.reduceAdd, Nat.reduceMul, Nat.reduceEqDiff, not_true_eq_false, not_false_eq_true, if_true, if_false, false_and, and_false, c17, c98, hK, n1, eq_true a2, hCk, c58 hCk hC13 hs1 hsl]
        exact hfin
    by_cases c1 : T p = 110
    · exact hno 6 (by decide) (by unfold fk; rw [if_pos c1]) (Or.inl c1) (by unfold pF; rw [if_pos c1])
    by_cases c2 : T p = 111
    · have hqq : qq = false := by
        rcases hnm2 with h | h | h | h | h
        · omega
        · omega
        · omega
        · exact h.1
        · omega
      exact hno 9 (by decide) (by unfold fk; rw [if_neg c1, if_pos c2]) (Or.inr c2) (by unfold pF; rw [if_neg c1, if_pos ⟨c2, hqq⟩])
    have n1 : ¬ ii (T p) = 110 := fun q => c1 (a1.mp q)
    have n2 : ¬ ii (T p) = 111 := fun q => c2 (a2.mp q)
    -- a sign that can't stand
    have hill : fk qq (T p) (T (p + 1)) = -1 → pF qq T p = (p + 1, none) → iw (d + 1) 56 38 [.ref Rd, .ref C, .int (ii (T p)), .int (fk qq (T p) (T (p + 1))), v4] [] (it_mem L xs (it_up mi Rd 5 (ii (p + 1))) rw o g z) Q := by
      intro hfk hpF
      rw [hpF] at hQ
      have hfin := (hQ _ hf1 h51).1 rfl
      rw [hfk]
      simp only [w56_38, w56_39, w56_40, w56_43, w56_44, ↓reduceIte, true_and, and_true, vok_int, vok_b0, vok_b1, vok_bb, r_backI, r_backV, bb_eq0, Nat.reduceAdd, Nat.reduceMul, Nat.reduceEqDiff, not_true_eq_false, not_false_eq_true, if_true, if_false, false_and, and_false, c17, c98]
      exact hfin
    have hgo : ∀ (K : Int32) (lo m : Nat), ¬ K = -1 → fk qq (T p) (T (p + 1)) = K → T (p + 1) ≠ 0 → ((T p = 115 ∧ lo = 65 ∧ m = 6) ∨ (T p ≠ 115 ∧ lo = 48 ∧ m = 10)) → pF qq T p = pD T p K lo (lo + m - 1) → iw (d + 1) 56 38 [.ref Rd, .ref C, .int (ii (T p)), .int (fk qq (T p) (T (p + 1))), v4] [] (it_mem L xs (it_up mi Rd 5 (ii (p + 1))) rw o g z) Q := by
      intro K lo m hK hfk h0 hlo hpF
      rw [hpF] at hQ
      have hp2 : p + 1 < n := Nat.lt_of_not_le (fun q => h0 (hz _ q))
      rw [hfk]
      simp only [w56_38, w56_39, w56_40, w56_43, w56_44, w56_45, w56_46, w56_48, w56_51, w56_52, w56_54, ↓reduceIte, true_and, and_true, vok_int, vok_b0, vok_b1, vok_bb, r_backI, r_backV, bb_eq0, Nat.reduceAdd, Nat.reduceMul, Nat.reduceEqDiff, not_true_eq_false, not_false_eq_true, if_true, if_false, false_and, and_false, c17, c98, hK, n1, n2]
      exact c56D hRC hx1 (by omega) h51 hs1 hsp hT hlo hf1 hQ
    by_cases c3 : T p = 112
    · have c5 : T p ≠ 115 := by omega
      by_cases s1 : T (p + 1) = 60
      · exact hgo 3 48 10 (by decide) (by unfold fk; rw [if_neg c1, if_neg c2, if_pos ⟨c3, s1⟩]) (by omega) (Or.inr ⟨c5, rfl, rfl⟩) (by unfold pF; rw [if_neg c1, if_neg (fun h => c2 h.1), if_pos c3, if_pos s1])
      by_cases s2 : T (p + 1) = 61
      · exact hgo 4 48 10 (by decide) (by unfold fk; rw [if_neg c1, if_neg c2, if_neg (fun h => s1 h.2), if_neg (fun h => by omega), if_neg (fun h => h s2), if_pos c3]) (by omega) (Or.inr ⟨c5, rfl, rfl⟩) (by unfold pF; rw [if_neg c1, if_neg (fun h => c2 h.1), if_pos c3, if_neg s1, if_pos s2])
      by_cases s3 : T (p + 1) = 62
      · exact hgo 5 48 10 (by decide) (by unfold fk; rw [if_neg c1, if_neg c2, if_neg (fun h => s1 h.2), if_pos ⟨c3, s3⟩]) (by omega) (Or.inr ⟨c5, rfl, rfl⟩) (by unfold pF; rw [if_neg c1, if_neg (fun h => c2 h.1), if_pos c3, if_neg s1, if_neg s2, if_pos s3])
      · exact hill (by unfold fk; rw [if_neg c1, if_neg c2, if_neg (fun h => s1 h.2), if_neg (fun h => s3 h.2), if_pos s2]) (by unfold pF; rw [if_neg c1, if_neg (fun h => c2 h.1), if_pos c3, if_neg s1, if_neg s2, if_neg s3])
    by_cases c4 : T p = 117
    · have c5 : T p ≠ 115 := by omega
      by_cases s2 : T (p + 1) = 61
      · refine hgo (if qq = true then 11 else 7) 48 10 (by split <;> decide) ?_ (by omega) (Or.inr ⟨c5, rfl, rfl⟩) (by unfold pF; rw [if_neg c1, if_neg (fun h => c2 h.1), if_neg c3, if_pos c4, if_pos s2])
        unfold fk
        rw [if_neg c1, if_neg c2, if_neg (fun h => c3 h.1), if_neg (fun h => c3 h.1), if_neg (fun h => h s2), if_neg c3, if_neg (by omega), if_neg (by omega)]
      · exact hill (by unfold fk; rw [if_neg c1, if_neg c2, if_neg (fun h => c3 h.1), if_neg (fun h => c3 h.1), if_pos s2]) (by unfold pF; rw [if_neg c1, if_neg (fun h => c2 h.1), if_neg c3, if_pos c4, if_neg s2])
    by_cases c6 : T p = 114
    · have c5 : T p ≠ 115 := by omega
      have hqq : qq = false := by
        rcases hnm2 with h | h | h | h | h
        · omega
        · omega
        · omega
        · exact h.1
        · omega
      by_cases s2 : T (p + 1) = 61
      · exact hgo 8 48 10 (by decide) (by unfold fk; rw [if_neg c1, if_neg c2, if_neg (fun h => c3 h.1), if_neg (fun h => c3 h.1), if_neg (fun h => h s2), if_neg c3, if_pos c6]) (by omega) (Or.inr ⟨c5, rfl, rfl⟩) (by unfold pF; rw [if_neg c1, if_neg (fun h => c2 h.1), if_neg c3, if_neg c4, if_pos ⟨c6, hqq⟩, if_pos s2])
      · exact hill (by unfold fk; rw [if_neg c1, if_neg c2, if_neg (fun h => c3 h.1), if_neg (fun h => c3 h.1), if_pos s2]) (by unfold pF; rw [if_neg c1, if_neg (fun h => c2 h.1), if_neg c3, if_neg c4, if_pos ⟨c6, hqq⟩, if_neg s2])
    have c7 : T p = 115 ∧ qq = true := by
      rcases hnm2 with h | h | h | h | h
      · omega
      · omega
      · omega
      · omega
      · exact ⟨h.2, h.1⟩
    by_cases s2 : T (p + 1) = 61
    · exact hgo 10 65 6 (by decide) (by unfold fk; rw [if_neg c1, if_neg c2, if_neg (fun h => c3 h.1), if_neg (fun h => c3 h.1), if_neg (fun h => h s2), if_neg c3, if_neg c6, if_pos c7.1]) (by omega) (Or.inl ⟨c7.1, rfl, rfl⟩) (by unfold pF; rw [if_neg c1, if_neg (fun h => c2 h.1), if_neg c3, if_neg c4, if_neg (fun h => c6 h.1), if_pos c7, if_pos s2])
    · exact hill (by unfold fk; rw [if_neg c1, if_neg c2, if_neg (fun h => c3 h.1), if_neg (fun h => c3 h.1), if_pos s2]) (by unfold pF; rw [if_neg c1, if_neg (fun h => c2 h.1), if_neg c3, if_neg c4, if_neg (fun h => c6 h.1), if_pos c7, if_neg s2])
  · have hpF : pF qq T p = (p, none) := by
      have hn2 := fun q => hnm (hname.mpr q)
      unfold pF
      rw [if_neg (fun h => hn2 (Or.inr (Or.inl h))), if_neg (fun h => hn2 (Or.inr (Or.inr (Or.inr (Or.inl ⟨h.2, Or.inr h.1⟩))))), if_neg (fun h => hn2 (Or.inl h)), if_neg (fun h => hn2 (Or.inr (Or.inr (Or.inl h)))), if_neg (fun h => hn2 (Or.inr (Or.inr (Or.inr (Or.inl ⟨h.2, Or.inl h.1⟩))))), if_neg (fun h => hn2 (Or.inr (Or.inr (Or.inr (Or.inr ⟨h.2, h.1⟩)))))]
    rw [hpF] at hQ
    have hfin := (hQ mi rf_refl h5).1 rfl
    simp only [w56_0, w56_1, w56_4, w56_5, w56_6, w56_9, w56_13, w56_16, w56_17, w56_10 hk ch0 ch1, ↓reduceIte, true_and, and_true, vok_int, vok_b0, vok_b1, vok_bb, r_backI, r_backV, bb_eq0, Nat.reduceAdd, Nat.reduceMul, Nat.reduceEqDiff, not_true_eq_false, not_false_eq_true, if_true, if_false, false_and, and_false, c17, c98, rd_k hR, rd_2 hR, h5, c51 hx hp h5, eq_false hnm]
    exact hfin
end
