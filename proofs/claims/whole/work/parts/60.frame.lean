/-! The places below 8 stay as they are. -/
def im_fr (A B : im_M) : Prop := 8 ≤ A.1.1 → (8 ≤ B.1.1 ∧ ∀ k, k < 8 → B.2.1 k = A.2.1 k ∧ B.2.2 k = A.2.2 k)
section FRAME
variable {A B C A' : im_M} {k : Nat}
theorem im_fr.refl (A : im_M) : im_fr A A := fun h => ⟨h, fun _ _ => ⟨rfl, rfl⟩⟩
theorem im_fr.trans (h1 : im_fr A B) (h2 : im_fr B C) : im_fr A C := by
  intro h
  obtain ⟨a1, a2⟩ := h1 h
  obtain ⟨b1, b2⟩ := h2 a1
  exact ⟨b1, fun k hk => ⟨(b2 k hk).1.trans (a2 k hk).1, (b2 k hk).2.trans (a2 k hk).2⟩⟩
theorem im_fr.set {j : Nat} {v : Value} (h8 : 8 ≤ k) : im_fr A (im_set A k j v) := by
  intro h
  refine ⟨h, fun i hi => ⟨rfl, ?_⟩⟩
  show va_up A.2.2 k (va_up (A.2.2 k) j v) i = A.2.2 i
  rw [va_up_ne _ _ (by omega)]
theorem im_fr.new {kd len sl : Nat} {f : Nat → Value} : im_fr A (im_new A kd len sl f) := by
  intro h
  refine ⟨by show 8 ≤ A.1.1 + 1; omega, fun i hi => ⟨?_, ?_⟩⟩
  · show va_up A.2.1 A.1.1 (kd, len) i = A.2.1 i
    rw [va_up_ne _ _ (by omega)]
  · show va_up A.2.2 A.1.1 f i = A.2.2 i
    rw [va_up_ne _ _ (by omega)]
theorem im_fr.dead {n sl : Nat} : im_fr A (im_dead A n sl) := fun h => ⟨h, fun _ _ => ⟨rfl, rfl⟩⟩
theorem im_as_fr {ty : FieldType} {len : Nat} {j : Int32} {v : Value} (h : im_as it_aty ty len j k v A = some A') : im_fr A A' := by
  unfold im_as at h
  split at h
  · rename_i hc
    cases h
    exact im_fr.set hc.2.1
  · cases h
theorem im_rd_fr {pc L : Nat} {ls : List Value} {o : Option (List Value)} {r : im_S} (h : im_rd pc ls A L o = some (r, A')) : im_fr A A' := by
  cases o with
  | none => cases h
  | some st => cases h; exact im_fr.refl _
theorem im_wr_fr {pc L : Nat} {ls : List Value} {o : Option (List Value × im_M)} {r : im_S} (ho : ∀ st N, o = some (st, N) → im_fr A N) (h : im_wr pc ls L o = some (r, A')) : im_fr A A' := by
  cases o with
  | none => cases h
  | some q =>
    obtain ⟨st, N⟩ := q
    cases h
    exact ho st _ rfl
theorem im_ns_fr {y len pc : Nat} {i : Instr} {ls st : List Value} {r : im_S} (h : im_ns y i len pc ls st A = some (r, A')) : im_fr A A' := by
  have other : (match im_p i len pc ls st with | some r => some (r, A) | none => none) = some (r, A') → im_fr A A' := by
    intro h1
    cases hp : im_p i len pc ls st with
    | none => rw [hp] at h1; cases h1
    | some r' => rw [hp] at h1; cases h1; exact im_fr.refl _
  have ai : ∀ ty st N, im_ai ty len st A = some N → im_fr A N.2 := by
    intro ty st N ho
    unfold im_ai at ho
    split at ho
    · split at ho
      · rename_i M2 hM2
        cases ho
        exact im_as_fr hM2
      · cases ho
    · cases ho
  cases i with
  | getfield idx => exact im_rd_fr h
  | putfield idx =>
    refine im_wr_fr (fun st' N ho => ?_) h
    unfold im_pf at ho
    split at ho
    · split at ho
      · split at ho
        · split at ho
          · rename_i hc
            cases ho
            exact im_fr.set hc.1
          · cases ho
        · cases ho
      · cases ho
    · cases ho
  | new idx =>
    refine im_wr_fr (fun st' N ho => ?_) h
    unfold im_nw at ho
    split at ho
    · split at ho
      · cases ho; exact im_fr.new
      · cases ho
    · cases ho
  | newarray a =>
    refine im_wr_fr (fun st' N ho => ?_) h
    unfold im_na at ho
    split at ho
    · split at ho
      · split at ho
        · split at ho
          · cases ho; exact im_fr.new
          · cases ho
        · cases ho
      · cases ho
    · cases ho
  | anewarray idx =>
    refine im_wr_fr (fun st' N ho => ?_) h
    unfold im_aw at ho
    split at ho
    · split at ho
      · split at ho
        · split at ho
          · cases ho; exact im_fr.new
          · cases ho
        · cases ho
      · cases ho
    · cases ho
  | multianewarray idx dim =>
    refine im_wr_fr (fun st' N ho => ?_) h
    unfold im_mw at ho
    split at ho
    · split at ho
      · split at ho
        · cases ho; exact ((im_fr.new.trans im_fr.new).trans im_fr.new).trans im_fr.new
        · cases ho
      · cases ho
    · cases ho
  | arraylength => exact im_rd_fr h
  | iaload => exact im_rd_fr h
  | caload => exact im_rd_fr h
  | baload => exact im_rd_fr h
  | laload => exact im_rd_fr h
  | aaload => exact im_rd_fr h
  | iastore => exact im_wr_fr (fun st' N ho => ai _ _ _ ho) h
  | castore => exact im_wr_fr (fun st' N ho => ai _ _ _ ho) h
  | bastore => exact im_wr_fr (fun st' N ho => ai _ _ _ ho) h
  | lastore =>
    refine im_wr_fr (fun st' N ho => ?_) h
    unfold im_al64 at ho
    split at ho
    · split at ho
      · rename_i M2 hM2
        cases ho
        exact im_as_fr hM2
      · cases ho
    · cases ho
  | aastore =>
    refine im_wr_fr (fun st' N ho => ?_) h
    unfold im_aa at ho
    split at ho
    · split at ho
      · split at ho
        · split at ho
          · rename_i M2 hM2
            cases ho
            exact im_as_fr hM2
          · cases ho
        · cases ho
      · cases ho
    · cases ho
  | ldc idx =>
    have h' : (if len = 2 then (match it_str y idx with | some k => some (((pc + 2, ls, .ref k :: st) : im_S), A) | none => none) else none) = some (r, A') := h
    split at h'
    · split at h'
      · cases h'; exact im_fr.refl _
      · cases h'
    · cases h'
  | _ => exact other h
theorem im_run_fr : ∀ (n d y pc : Nat) (ls st : List Value) (A : im_M) (o : im_O) (A' : im_M), im_run n d y pc ls st A = some (o, A') → im_fr A A' := by
  intro n
  induction n with
  | zero => intro d y pc ls st A o A' h; cases h
  | succ n ih =>
    intro d y pc ls st A o A' h
    rw [im_run] at h
    unfold im_F at h
    cases hdec : im_dec y pc with
    | none => simp only [hdec] at h; cases h
    | some q =>
      obtain ⟨i, len⟩ := q
      simp only [hdec] at h
      cases hret : im_ret y i len st with
      | some v => simp only [hret] at h; cases h; exact im_fr.refl _
      | none =>
        simp only [hret] at h
        cases hthr : it_thr y pc with
        | some ec =>
          simp only [hthr] at h
          split at h
          · cases h
            exact im_fr.dead
          · cases h
        | none =>
          simp only [hthr] at h
          cases hpr : im_prim y i len st A with
          | some st' => simp only [hpr] at h; exact ih _ _ _ _ _ _ _ _ h
          | none =>
            simp only [hpr] at h
            cases hca : im_call y i len st with
            | none =>
              simp only [hca] at h
              cases hns : im_ns y i len pc ls st A with
              | none => simp only [hns] at h; cases h
              | some q =>
                obtain ⟨r, A1⟩ := q
                simp only [hns] at h
                exact (im_ns_fr hns).trans (ih _ _ _ _ _ _ _ _ h)
            | some q =>
              obtain ⟨z, as, rest⟩ := q
              simp only [hca] at h
              cases d with
              | zero => cases h
              | succ d =>
                simp only at h
                split at h
                · cases hf : im_run n d z 0 (as ++ List.replicate (im_max z - as.length) (.retAddr 0)) [] A with
                  | none => simp only [hf] at h; cases h
                  | some w =>
                    obtain ⟨o1, A1⟩ := w
                    have f1 := ih _ _ _ _ _ _ _ _ hf
                    simp only [hf] at h
                    cases o1 with
                    | inl v => exact f1.trans (ih _ _ _ _ _ _ _ _ h)
                    | inr q =>
                      simp only at h
                      cases hh : im_hand y pc q.1 with
                      | some hp => simp only [hh] at h; exact f1.trans (ih _ _ _ _ _ _ _ _ h)
                      | none =>
                        simp only [hh] at h
                        split at h
                        · cases h
                          exact f1
                        · cases h
                · cases h
end FRAME
