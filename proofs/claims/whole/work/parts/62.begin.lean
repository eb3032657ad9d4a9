/-! From the law's first instruction to its loop. -/
def it_top : im_O → im_M → Prop := fun r M => r = .inl (some (.int 1)) ∧ im_tot M ≤ 601032 ∧ M.1.2.2 ≤ 7293034
theorem it_st_eq : ∃ A1 A2, it_c1 = some (.inl none, A1) ∧ (A1.1.1 = 99 ∧ A1.1.2.1 = 0) ∧ im_run 100000 29 81 0 [.ref 99] [] (it_stp A1) = some (.inl none, A2) ∧ it_ck (im_new A2 33 1 1 (fun _ => .long 0)) = true := by
  have h := it_st_ok
  unfold it_st at h
  cases h1 : it_c1 with
  | none => rw [h1] at h; cases h
  | some q =>
    obtain ⟨o1, A1⟩ := q
    rw [h1] at h
    cases o1 with
    | inr e => cases h
    | inl v =>
      cases v with
      | some v => cases h
      | none =>
        simp only at h
        by_cases h99 : A1.1.1 = 99 ∧ A1.1.2.1 = 0
        · rw [if_pos h99] at h
          cases h2 : im_run 100000 29 81 0 [.ref 99] [] (it_stp A1) with
          | none => rw [h2] at h; cases h
          | some q =>
            obtain ⟨o2, A2⟩ := q
            rw [h2] at h
            cases o2 with
            | inr e => cases h
            | inl v =>
              cases v with
              | some v => cases h
              | none => exact ⟨A1, A2, rfl, h99, h2, h⟩
        · rw [if_neg h99] at h
          cases h
theorem it_ck_le {L : Nat} {xs : Nat → Int32} {A B : im_M} (h : it_ck A = true) (hle : im_le A B) (h0 : B.2.1 0 = (39, L) ∧ B.2.2 0 = fun j => .int (xs j)) (h8 : ∀ k, k < 8 → k ≠ 0 → B.2.1 k = (0, 0)) : im_le (it_mem L xs mi0 rw0 (fun _ => 0) 0 3090) B := by
  unfold it_ck at h
  rw [Bool.and_eq_true] at h
  obtain ⟨h1, h2⟩ := h
  have h1 := of_decide_eq_true h1
  refine ⟨by rw [← hle.1, h1]; rfl, fun k hk hc => ?_⟩
  have hk' : k < 135 := hk
  by_cases e : k = 0
  · subst e
    exact ⟨h0.1, fun j _ => by rw [h0.2]; rfl⟩
  · by_cases e8 : k < 8
    · exfalso
      rcases hc with hc | hc
      · omega
      · have : ((it_mem L xs mi0 rw0 (fun _ => 0) 0 3090).2.1 k).1 = 0 := by
          show (it_sh L k).1 = 0
          unfold it_sh
          rw [if_neg e, if_pos e8]
        omega
    · have h3 := List.all_eq_true.mp h2 (k - 8) (List.mem_range.mpr (by omega))
      rw [show k - 8 + 8 = k by omega, Bool.and_eq_true] at h3
      have h4 := of_decide_eq_true h3.1
      have hks : it_sh L k = it_sh 0 k := by unfold it_sh; rw [if_neg e, if_neg e]
      obtain ⟨b1, b2⟩ := hle.2 k (by rw [h1]; exact hk') (Or.inl (by omega))
      refine ⟨?_, fun j hj => ?_⟩
      · rw [b1, h4]; exact hks.symm
      · have hj' : im_inr (it_sh L k) j := hj
        rw [hks] at hj'
        have hjn : j < it_nn k := by
          unfold im_inr at hj'
          rw [it_sh_eq] at hj'
          unfold it_nn
          split at hj'
          · rename_i hh
            rw [if_pos hh]; exact hj'
          · rename_i hh
            rw [if_neg hh]; exact hj'
        have h5 := of_decide_eq_true (List.all_eq_true.mp h3.2 j (List.mem_range.mpr hjn))
        rw [b2 j (by rw [h4]; exact hj'), h5]
        show it_cv (fun _ => 0) mi0 rw0 (fun _ => 0) k j = it_cv xs mi0 rw0 (fun _ => 0) k j
        unfold it_cv
        rw [if_neg e, if_neg e]
theorem iw_le {d y pc : Nat} {ls st : List Value} {A B : im_M} {Q Q' : im_O → im_M → Prop} (h : iw d y pc ls st A Q) (hle : im_le A B) (hQ : ∀ o A' B', im_le A' B' → Q o A' → Q' o B') : iw d y pc ls st B Q' := by
  obtain ⟨n, o, A', h1, h2⟩ := h
  obtain ⟨B', b1, b2⟩ := im_run_ref n d y pc ls st A B o A' hle h1
  exact ⟨n, o, B', b1, hQ o A' B' b2 h2⟩
theorem top_le : ∀ o A' B', im_le A' B' → it_top o A' → it_top o B' := by
  intro o A' B' hle h
  refine ⟨h.1, ?_, ?_⟩
  · rw [hle.tot]; exact h.2.1
  · rw [← hle.1]; exact h.2.2
theorem it_begin {L : Nat} {xs : Nat → Int32} (h : iw 30 0 23 [.ref 0, .ref 8, .ref 99, .ref 134, .int (ii 0), .retAddr 0, .retAddr 0] [] (it_mem L xs mi0 rw0 (fun _ => 0) 0 3090) it_top) : iw 30 0 0 ([.ref 0] ++ List.replicate 6 (.retAddr 0)) [] (it_M0 L xs) it_top := by
  obtain ⟨A1, A2, c1, c99, c2, ck⟩ := it_st_eq
  have hle0 : im_le it_Mc (it_M0 L xs) := by
    refine ⟨rfl, fun k hk hc => ?_⟩
    exfalso
    have hk' : k < 8 := hk
    rcases hc with hc | hc
    · omega
    · have : (it_Mc.2.1 k).1 = 0 := rfl
      omega
  obtain ⟨B1, r1, l1⟩ := im_run_ref _ _ _ _ _ _ _ (im_new (it_M0 L xs) 11 0 9 (fun j => defaultValue (it_ty 11 j))) _ _ hle0.new c1
  have f1 := im_run_fr _ _ _ _ _ _ _ _ _ r1
  obtain ⟨B2, r2, l2⟩ := im_run_ref _ _ _ _ _ _ _ (it_stp B1) _ _ l1.new c2
  have f2 := im_run_fr _ _ _ _ _ _ _ _ _ r2
  have l3 : im_le (im_new A2 33 1 1 (fun _ => .long 0)) (im_new B2 33 1 1 (fun _ => .long 0)) := l2.new
  have f3 : im_fr (it_M0 L xs) (im_new B2 33 1 1 (fun _ => .long 0)) := (((im_fr.new.trans f1).trans im_fr.new).trans f2).trans im_fr.new
  obtain ⟨_, f4⟩ := f3 (Nat.le_refl 8)
  have hfin := iw_le h (it_ck_le (L := L) (xs := xs) ck l3 ⟨(f4 0 (by decide)).1, (f4 0 (by decide)).2⟩ (fun k hk hk0 => by rw [(f4 k hk).1]; show (if k = 0 then (39, L) else (0, 0)) = (0, 0); rw [if_neg hk0])) top_le
  have n1 : B1.1.1 = 99 := by rw [← l1.1]; exact c99.1
  have g1 : B1.1.2.1 = 0 := by rw [← l1.1]; exact c99.2
  have hA2 : (A2.1.1 + 1, A2.1.2.1, A2.1.2.2 + 1) = (135, 0, 3090) := by
    unfold it_ck at ck
    rw [Bool.and_eq_true] at ck
    exact of_decide_eq_true ck.1
  have n2 : B2.1.1 = 134 := by
    rw [← l2.1]
    have := congrArg Prod.fst hA2
    simp only at this
    omega
  have g2 : B2.1.2.1 = 0 := by
    rw [← l2.1]
    have := congrArg (fun q => q.2.1) hA2
    simpa using this
  show iw 30 0 0 [.ref 0, .retAddr 0, .retAddr 0, .retAddr 0, .retAddr 0, .retAddr 0, .retAddr 0] [] (it_M0 L xs) it_top
  have e1 : ∀ ls, im_ns 0 (.new 8) 3 0 ls [] (it_M0 L xs) = some ((3, ls, [.ref 8]), im_new (it_M0 L xs) 11 0 9 (fun j => defaultValue (it_ty 11 j))) := by
    intro ls
    show im_wr 0 ls 3 (im_nw 0 8 3 [] (it_M0 L xs)) = _
    unfold im_nw
    rw [if_pos ⟨rfl, rfl⟩, show it_nwc 0 8 = some 11 from by decide +kernel]
    rfl
  rw [r_eq (show im_at 0 0 (.new 8) 3 from ⟨by decide +kernel, by decide +kernel⟩) rfl (e1 _)]
  simp only
  rw [w0_3]
  rw [iw_call (z := 1) (as := [.ref 8]) (rest := [.ref 8]) (show im_at 0 4 (.invokespecial 38) 3 from ⟨by decide +kernel, by decide +kernel⟩) (by unfold im_ret; cases it_met 0 <;> rfl) (by unfold im_prim; rw [if_pos rfl]; simp only; rw [show it_obi 0 38 = false from by decide +kernel]; rfl) (by
    unfold im_call
    rw [if_pos rfl]
    simp only
    rw [show it_cal 0 38 = some (2, 1, 0, none) from by decide +kernel]
    rfl) ⟨by decide +kernel, by
    show ((([Value.ref 8] : List Value).all im_c1) && decide (8 ≤ 8 ∧ 8 < 9 ∧ it_mcl 1 = some ((im_new (it_M0 L xs) 11 0 9 (fun j => defaultValue (it_ty 11 j))).2.1 8).1)) = true
    have e9 : ((im_new (it_M0 L xs) 11 0 9 (fun j => defaultValue (it_ty 11 j))).2.1 8) = (11, 0) := by
      show va_up (it_M0 L xs).2.1 8 (11, 0) 8 = _
      rw [va_up_self]
    rw [e9]
    decide +kernel⟩]
  refine ⟨100000, .inl none, B1, r1, ?_⟩
  show iw 30 0 7 [.ref 0, .retAddr 0, .retAddr 0, .retAddr 0, .retAddr 0, .retAddr 0, .retAddr 0] [.ref 8] B1 it_top
  rw [w0_7]
  have e2 : ∀ ls, im_ns 0 (.new 39) 3 8 ls [] B1 = some ((11, ls, [.ref 99]), it_stp B1) := by
    intro ls
    show im_wr 8 ls 3 (im_nw 0 39 3 [] B1) = _
    unfold im_nw
    rw [if_pos ⟨rfl, g1⟩, show it_nwc 0 39 = some 12 from by decide +kernel]
    simp only
    rw [n1]
    rfl
  rw [r_eq (show im_at 0 8 (.new 39) 3 from ⟨by decide +kernel, by decide +kernel⟩) rfl (e2 _)]
  simp only
  rw [w0_11]
  rw [iw_call (z := 81) (as := [.ref 99]) (rest := [.ref 99]) (show im_at 0 12 (.invokespecial 41) 3 from ⟨by decide +kernel, by decide +kernel⟩) (by unfold im_ret; cases it_met 0 <;> rfl) (by unfold im_prim; rw [if_pos rfl]; simp only; rw [show it_obi 0 41 = false from by decide +kernel]; rfl) (by
    unfold im_call
    rw [if_pos rfl]
    simp only
    rw [show it_cal 0 41 = some (2, 81, 0, none) from by decide +kernel]
    rfl) ⟨by decide +kernel, by
    show ((([Value.ref 99] : List Value).all im_c1) && decide (8 ≤ 99 ∧ 99 < (it_stp B1).1.1 ∧ it_mcl 81 = some ((it_stp B1).2.1 99).1)) = true
    have e9 : ((it_stp B1).2.1 99) = (12, 0) := by
      show va_up B1.2.1 B1.1.1 (12, 0) 99 = _
      rw [n1, va_up_self]
    have e10 : (it_stp B1).1.1 = 100 := by
      show B1.1.1 + 1 = 100
      rw [n1]
    rw [e9, e10]
    decide +kernel⟩]
  refine ⟨100000, .inl none, B2, r2, ?_⟩
  show iw 30 0 15 [.ref 0, .ref 8, .retAddr 0, .retAddr 0, .retAddr 0, .retAddr 0, .retAddr 0] [.ref 99] B2 it_top
  rw [w0_15, w0_16]
  have e3 : ∀ ls, im_ns 0 (.newarray .long) 2 17 ls [.int 1] B2 = some ((19, ls, [.ref 134]), im_new B2 33 1 1 (fun _ => .long 0)) := by
    intro ls
    show im_wr 17 ls 2 (im_na .long 2 [.int 1] B2) = _
    unfold im_na
    rw [if_pos ⟨rfl, g2⟩, show it_nak .long = some 33 from by decide +kernel]
    simp only
    rw [if_pos (by decide), n2]
    rfl
  rw [r_eq (show im_at 0 17 (.newarray .long) 2 from ⟨by decide +kernel, by decide +kernel⟩) rfl (e3 _)]
  simp only
  rw [w0_19, w0_20, w0_21]
  exact hfin
