/-! A memory that says less: what runs with it runs with every one that says more, and ends alike. -/
def im_inr (sh : Nat × Nat) (j : Nat) : Prop := if sh.1 < 30 then j < it_nf sh.1 else j < sh.2
def im_le (A B : im_M) : Prop := A.1 = B.1 ∧ ∀ k, k < A.1.1 → (8 ≤ k ∨ 30 ≤ (A.2.1 k).1) → B.2.1 k = A.2.1 k ∧ ∀ j, im_inr (A.2.1 k) j → B.2.2 k j = A.2.2 k j
section REFINE
variable {A B A' : im_M} {k : Nat}
theorem im_le.at (h : im_le A B) (hk : k < A.1.1) (hc : 8 ≤ k ∨ 30 ≤ (A.2.1 k).1) : B.2.1 k = A.2.1 k ∧ ∀ j, im_inr (A.2.1 k) j → B.2.2 k j = A.2.2 k j := h.2 k hk hc
theorem im_le.n (h : im_le A B) : B.1.1 = A.1.1 := by rw [h.1]
theorem im_le.refl (A : im_M) : im_le A A := ⟨rfl, fun _ _ _ => ⟨rfl, fun _ _ => rfl⟩⟩
theorem im_le.set (h : im_le A B) {j : Nat} {v : Value} : im_le (im_set A k j v) (im_set B k j v) := by
  refine ⟨h.1, fun i hi hc => ?_⟩
  obtain ⟨h1, h2⟩ := h.2 i hi hc
  refine ⟨h1, fun q hq => ?_⟩
  show va_up B.2.2 k (va_up (B.2.2 k) j v) i q = va_up A.2.2 k (va_up (A.2.2 k) j v) i q
  by_cases e : i = k
  · subst e
    rw [va_up_self, va_up_self]
    by_cases e2 : q = j
    · subst e2; rw [va_up_self, va_up_self]
    · rw [va_up_ne _ _ e2, va_up_ne _ _ e2]; exact h2 q hq
  · rw [va_up_ne _ _ e, va_up_ne _ _ e]; exact h2 q hq
theorem im_le.new (h : im_le A B) {kd len sl : Nat} {f : Nat → Value} : im_le (im_new A kd len sl f) (im_new B kd len sl f) := by
  have hn := h.1
  refine ⟨by simp only [im_new]; rw [hn], fun i hi hc => ?_⟩
  have hnn := h.n
  simp only [im_new] at hi hc ⊢
  rw [hnn]
  by_cases e : i = A.1.1
  · subst e
    rw [va_up_self, va_up_self, va_up_self, va_up_self]
    exact ⟨rfl, fun _ _ => rfl⟩
  · rw [va_up_ne _ _ e, va_up_ne _ _ e, va_up_ne _ _ e, va_up_ne _ _ e] at *
    exact h.2 i (by omega) hc
theorem im_le.dead (h : im_le A B) {n sl : Nat} : im_le (im_dead A n sl) (im_dead B n sl) := ⟨by simp only [im_dead]; rw [h.1], h.2⟩
theorem im_le.tot (h : im_le A B) : im_tot B = im_tot A := by unfold im_tot; rw [h.1]
theorem im_al_ref {ty : FieldType} {len pc : Nat} {st st' : List Value} (hle : im_le A B) (h : im_al it_aty ty len pc st A = some st') : im_al it_aty ty len pc st B = some st' := by
  unfold im_al at h ⊢
  split at h
  · rename_i hl
    rw [if_pos hl]
    split at h
    · rename_i j k r
      split at h
      · rename_i hc
        obtain ⟨h1, h2, h3, h4⟩ := hc
        obtain ⟨g1, g2⟩ := hle.at h1 (Or.inr h2)
        try simp only
        rw [if_pos (by rw [g1, hle.n]; exact ⟨h1, h2, h3, h4⟩), g2 _ (by unfold im_inr; rw [if_neg (Nat.not_lt.mpr h2)]; exact Nat.not_le.mp fun q => h4 (Or.inr q))]
        exact h
      · cases h
    · cases h
  · cases h
theorem im_as_ref {ty : FieldType} {len : Nat} {j : Int32} {v : Value} (hle : im_le A B) (h : im_as it_aty ty len j k v A = some A') : ∃ B', im_as it_aty ty len j k v B = some B' ∧ im_le A' B' := by
  unfold im_as at h ⊢
  split at h
  · rename_i hc
    obtain ⟨h0, h1, h2, h3, h4, h5⟩ := hc
    cases h
    obtain ⟨g1, g2⟩ := hle.at h2 (Or.inl h1)
    refine ⟨_, by rw [if_pos (by rw [g1, hle.n]; exact ⟨h0, h1, h2, h3, h4, h5⟩)], hle.set⟩
  · cases h
theorem im_rd_ref {pc L : Nat} {ls : List Value} {o o' : Option (List Value)} {r : im_S} (hle : im_le A B) (ho : ∀ st, o = some st → o' = some st) (h : im_rd pc ls A L o = some (r, A')) : ∃ B', im_rd pc ls B L o' = some (r, B') ∧ im_le A' B' := by
  cases o with
  | none => cases h
  | some st =>
    cases h
    exact ⟨B, by rw [ho st rfl]; rfl, hle⟩
theorem im_wr_ref {pc L : Nat} {ls : List Value} {o o' : Option (List Value × im_M)} {r : im_S} (ho : ∀ st N, o = some (st, N) → ∃ N', o' = some (st, N') ∧ im_le N N') (h : im_wr pc ls L o = some (r, A')) : ∃ B', im_wr pc ls L o' = some (r, B') ∧ im_le A' B' := by
  cases o with
  | none => cases h
  | some q =>
    obtain ⟨st, N⟩ := q
    cases h
    obtain ⟨N', h1, h2⟩ := ho st _ rfl
    exact ⟨N', by rw [h1]; rfl, h2⟩
theorem im_ns_ref {y len pc : Nat} {me : it_Me} {i : Instr} {ls st : List Value} {r : im_S} (hme : it_met y = some me) (hle : im_le A B) (h : im_ns y i len pc ls st A = some (r, A')) : ∃ B', im_ns y i len pc ls st B = some (r, B') ∧ im_le A' B' := by
  have other : (match im_p i len pc ls st with | some r => some (r, A) | none => none) = some (r, A') → ∃ B', (match im_p i len pc ls st with | some r => some (r, B) | none => none) = some (r, B') ∧ im_le A' B' := by
    intro h1
    cases hp : im_p i len pc ls st with
    | none => rw [hp] at h1; cases h1
    | some r' => rw [hp] at h1; cases h1; exact ⟨B, rfl, hle⟩
  have ai : ∀ ty st N, im_ai ty len st A = some N → ∃ N', im_ai ty len st B = some (N.1, N') ∧ im_le N.2 N' := by
    intro ty st N ho
    unfold im_ai at ho ⊢
    split at ho
    · split at ho
      · rename_i M2 hM2
        cases ho
        obtain ⟨B', h1, h2⟩ := im_as_ref hle hM2
        exact ⟨B', by (try simp only); rw [h1], h2⟩
      · cases ho
    · cases ho
  cases i with
  | getfield idx =>
    refine im_rd_ref hle (fun st' ho => ?_) h
    unfold im_gf at ho ⊢
    split at ho
    · rename_i hl
      rw [if_pos hl]
      split at ho
      · rename_i q hq
        try simp only
        split at ho
        · rename_i a r'
          split at ho
          · rename_i hc
            obtain ⟨h1, h2, h3⟩ := hc
            obtain ⟨C, T, N, g1, g2, g3, g4, g5⟩ := it_fld_ok hq hme
            obtain ⟨-, -, g6⟩ := it_cl_ok g1
            obtain ⟨e1, e2⟩ := hle.at h2 (Or.inl h1)
            try simp only
            rw [if_pos (by rw [e1, hle.n]; exact ⟨h1, h2, h3⟩), e2 _ (by unfold im_inr; rw [h3, if_pos g2, g6]; exact g3)]
            exact ho
          · cases ho
        · cases ho
      · cases ho
    · cases ho
  | putfield idx =>
    refine im_wr_ref (fun st' N ho => ?_) h
    unfold im_pf at ho ⊢
    split at ho
    · rename_i hl
      rw [if_pos hl]
      split at ho
      · rename_i q hq
        try simp only
        split at ho
        · rename_i v a r'
          split at ho
          · rename_i hc
            obtain ⟨h1, h2, h3, h4⟩ := hc
            obtain ⟨e1, e2⟩ := hle.at h2 (Or.inl h1)
            cases ho
            exact ⟨_, by (try simp only); rw [if_pos (by rw [e1, hle.n]; exact ⟨h1, h2, h3, h4⟩)], hle.set⟩
          · cases ho
        · cases ho
      · cases ho
    · cases ho
  | new idx =>
    refine im_wr_ref (fun st' N ho => ?_) h
    unfold im_nw at ho ⊢
    split at ho
    · rename_i hl
      rw [if_pos (by rw [← hle.1]; exact hl)]
      split at ho
      · cases ho
        exact ⟨_, by (try simp only); rw [hle.n], hle.new⟩
      · cases ho
    · cases ho
  | newarray a =>
    refine im_wr_ref (fun st' N ho => ?_) h
    unfold im_na at ho ⊢
    split at ho
    · rename_i hl
      rw [if_pos (by rw [← hle.1]; exact hl)]
      split at ho
      · try simp only
        split at ho
        · split at ho
          · rename_i hn
            cases ho
            exact ⟨_, by (try simp only); rw [if_pos hn, hle.n], hle.new⟩
          · cases ho
        · cases ho
      · cases ho
    · cases ho
  | anewarray idx =>
    refine im_wr_ref (fun st' N ho => ?_) h
    unfold im_aw at ho ⊢
    split at ho
    · rename_i hl
      rw [if_pos (by rw [← hle.1]; exact hl)]
      split at ho
      · try simp only
        split at ho
        · split at ho
          · rename_i hn
            cases ho
            exact ⟨_, by (try simp only); rw [if_pos hn, hle.n], hle.new⟩
          · cases ho
        · cases ho
      · cases ho
    · cases ho
  | multianewarray idx dim =>
    refine im_wr_ref (fun st' N ho => ?_) h
    unfold im_mw at ho ⊢
    split at ho
    · rename_i hl
      rw [if_pos (by rw [← hle.1]; exact hl)]
      split at ho
      · split at ho
        · rename_i hn
          cases ho
          exact ⟨_, by (try simp only); rw [if_pos hn, hle.n], hle.new.new.new.new⟩
        · cases ho
      · cases ho
    · cases ho
  | arraylength =>
    refine im_rd_ref hle (fun st' ho => ?_) h
    unfold im_len at ho ⊢
    split at ho
    · rename_i hl
      rw [if_pos hl]
      split at ho
      · split at ho
        · rename_i hc
          obtain ⟨h1, h2, h3⟩ := hc
          obtain ⟨e1, e2⟩ := hle.at h1 (Or.inr h2)
          try simp only
          rw [e1, hle.n, if_pos ⟨h1, h2, h3⟩]
          exact ho
        · cases ho
      · cases ho
    · cases ho
  | iaload => exact im_rd_ref hle (fun st' ho => im_al_ref hle ho) h
  | caload => exact im_rd_ref hle (fun st' ho => im_al_ref hle ho) h
  | baload => exact im_rd_ref hle (fun st' ho => im_al_ref hle ho) h
  | laload => exact im_rd_ref hle (fun st' ho => im_al_ref hle ho) h
  | aaload =>
    refine im_rd_ref hle (fun st' ho => ?_) h
    unfold im_al2 at ho ⊢
    split at ho
    · rename_i j k r'
      try simp only
      split at ho
      · rename_i ty hty
        split at ho
        · rename_i hrf
          have hk : k < A.1.1 ∧ 30 ≤ (A.2.1 k).1 := by
            unfold im_al at ho
            split at ho
            · simp only at ho
              split at ho
              · rename_i hc
                exact ⟨hc.1, hc.2.1⟩
              · cases ho
            · cases ho
          have e1 : im_ar B k = some ty := by
            unfold im_ar at hty ⊢
            rw [(hle.at hk.1 (Or.inr hk.2)).1]
            exact hty
          rw [e1]
          try simp only
          rw [if_pos hrf]
          exact im_al_ref hle ho
        · cases ho
      · cases ho
    · cases ho
  | iastore => exact im_wr_ref (fun st' N ho => ai _ _ _ ho) h
  | castore => exact im_wr_ref (fun st' N ho => ai _ _ _ ho) h
  | bastore => exact im_wr_ref (fun st' N ho => ai _ _ _ ho) h
  | lastore =>
    refine im_wr_ref (fun st' N ho => ?_) h
    unfold im_al64 at ho ⊢
    split at ho
    · split at ho
      · rename_i M2 hM2
        cases ho
        obtain ⟨B', h1, h2⟩ := im_as_ref hle hM2
        exact ⟨B', by (try simp only); rw [h1], h2⟩
      · cases ho
    · cases ho
  | aastore =>
    refine im_wr_ref (fun st' N ho => ?_) h
    unfold im_aa at ho ⊢
    split at ho
    · rename_i v j k r'
      try simp only
      split at ho
      · rename_i ty hty
        split at ho
        · rename_i hc
          obtain ⟨h1, h2, h3⟩ := hc
          split at ho
          · rename_i M2 hM2
            cases ho
            have hk : 8 ≤ k ∧ k < A.1.1 := by
              unfold im_as at hM2
              split at hM2
              · rename_i hh
                exact ⟨hh.2.1, hh.2.2.1⟩
              · cases hM2
            obtain ⟨e1, -⟩ := hle.at hk.2 (Or.inl hk.1)
            obtain ⟨e2, -⟩ := hle.at h2 (Or.inl h1)
            obtain ⟨B', b1, b2⟩ := im_as_ref hle hM2
            rw [e1, hty]
            try simp only
            rw [if_pos (by rw [e2, hle.n]; exact ⟨h1, h2, h3⟩), b1]
            exact ⟨B', rfl, b2⟩
          · cases ho
        · cases ho
      · cases ho
    · cases ho
  | ldc idx =>
    have h' : (if len = 2 then (match it_str y idx with | some k => some (((pc + 2, ls, .ref k :: st) : im_S), A) | none => none) else none) = some (r, A') := h
    show ∃ B', (if len = 2 then (match it_str y idx with | some k => some (((pc + 2, ls, .ref k :: st) : im_S), B) | none => none) else none) = some (r, B') ∧ im_le A' B'
    split at h'
    · rename_i hl
      rw [if_pos hl]
      split at h'
      · cases h'; exact ⟨B, rfl, hle⟩
      · cases h'
    · cases h'
  | _ => exact other h
theorem im_recv_ref {i : Instr} {z : Nat} {as : List Value} (hle : im_le A B) (h : im_recv i z as A = true) : im_recv i z as B = true := by
  unfold im_recv at h ⊢
  split at h
  · exact h
  · rw [Bool.and_eq_true] at h ⊢
    refine ⟨h.1, ?_⟩
    have h2 := h.2
    split at h2
    · have h3 := of_decide_eq_true h2
      try simp only
      rw [(hle.at h3.2.1 (Or.inl h3.1)).1, hle.n]
      exact h2
    · cases h2
theorem im_run_ref : ∀ (n d y pc : Nat) (ls st : List Value) (A B : im_M) (o : im_O) (A' : im_M), im_le A B → im_run n d y pc ls st A = some (o, A') → ∃ B', im_run n d y pc ls st B = some (o, B') ∧ im_le A' B' := by
  intro n
  induction n with
  | zero => intro d y pc ls st A B o A' _ h; cases h
  | succ n ih =>
    intro d y pc ls st A B o A' hle h
    rw [im_run] at h ⊢
    unfold im_F at h ⊢
    cases hdec : im_dec y pc with
    | none => simp only [hdec] at h; cases h
    | some q =>
      obtain ⟨i, len⟩ := q
      have hme : ∃ me, it_met y = some me := by
        unfold im_dec at hdec
        cases hm : it_met y with
        | none => rw [hm] at hdec; cases hdec
        | some me => exact ⟨me, rfl⟩
      obtain ⟨me, hme⟩ := hme
      simp only [hdec] at h ⊢
      cases hret : im_ret y i len st with
      | some v => simp only [hret] at h ⊢; cases h; exact ⟨B, rfl, hle⟩
      | none =>
        simp only [hret] at h ⊢
        cases hthr : it_thr y pc with
        | some ec =>
          simp only [hthr] at h ⊢
          split at h
          · rename_i hs
            rw [if_pos hs]
            cases h
            exact ⟨im_dead B 1 6, by rw [hle.tot], hle.dead⟩
          · cases h
        | none =>
          simp only [hthr] at h ⊢
          have hpe : im_prim y i len st B = im_prim y i len st A := rfl
          rw [hpe]
          cases hpr : im_prim y i len st A with
          | some st' => simp only [hpr] at h ⊢; exact ih _ _ _ _ _ _ _ _ _ hle h
          | none =>
            simp only [hpr] at h ⊢
            cases hca : im_call y i len st with
            | none =>
              simp only [hca] at h ⊢
              cases hns : im_ns y i len pc ls st A with
              | none => simp only [hns] at h; cases h
              | some q =>
                obtain ⟨r, A1⟩ := q
                obtain ⟨B1, b1, b2⟩ := im_ns_ref hme hle hns
                simp only [hns] at h
                simp only [b1]
                exact ih _ _ _ _ _ _ _ _ _ b2 h
            | some q =>
              obtain ⟨z, as, rest⟩ := q
              simp only [hca] at h ⊢
              cases d with
              | zero => cases h
              | succ d =>
                simp only at h ⊢
                split at h
                · rename_i hc
                  rw [if_pos ⟨hc.1, im_recv_ref hle hc.2⟩]
                  cases hf : im_run n d z 0 (as ++ List.replicate (im_max z - as.length) (.retAddr 0)) [] A with
                  | none => simp only [hf] at h; cases h
                  | some w =>
                    obtain ⟨o1, A1⟩ := w
                    obtain ⟨B1, b1, b2⟩ := ih _ _ _ _ _ _ _ _ _ hle hf
                    simp only [hf] at h
                    rw [b1]
                    cases o1 with
                    | inl v => exact ih _ _ _ _ _ _ _ _ _ b2 h
                    | inr q =>
                      simp only at h ⊢
                      cases hh : im_hand y pc q.1 with
                      | some hp => simp only [hh] at h ⊢; exact ih _ _ _ _ _ _ _ _ _ b2 h
                      | none =>
                        simp only [hh] at h ⊢
                        split at h
                        · rename_i hno
                          rw [if_pos hno]
                          cases h
                          exact ⟨B1, rfl, b2⟩
                        · cases h
                · cases h
end REFINE
