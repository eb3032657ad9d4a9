/-! What the machine comes to: iw d y pc ls st M Q: with steps enough it ends, and Q holds of how it ends. -/
theorem im_F_mono {f g : Nat → Nat → Nat → List Value → List Value → im_M → Option (im_O × im_M)} (hfg : ∀ d y pc ls st M r, f d y pc ls st M = some r → g d y pc ls st M = some r) {d y pc : Nat} {ls st : List Value} {M : im_M} {r : im_O × im_M} (h : im_F f d y pc ls st M = some r) : im_F g d y pc ls st M = some r := by
  unfold im_F at h ⊢
  cases hdec : im_dec y pc with
  | none => simp only [hdec] at h; cases h
  | some q =>
    obtain ⟨i, len⟩ := q
    simp only [hdec] at h ⊢
    cases hret : im_ret y i len st with
    | some v => simp only [hret] at h ⊢; exact h
    | none =>
      simp only [hret] at h ⊢
      cases hthr : it_thr y pc with
      | some ec => simp only [hthr] at h ⊢; exact h
      | none =>
        simp only [hthr] at h ⊢
        cases hpr : im_prim y i len st M with
        | some st' => simp only [hpr] at h ⊢; exact hfg _ _ _ _ _ _ _ h
        | none =>
          simp only [hpr] at h ⊢
          cases hca : im_call y i len st with
          | none =>
            simp only [hca] at h ⊢
            cases hns : im_ns y i len pc ls st M with
            | none => simp only [hns] at h; cases h
            | some q => simp only [hns] at h ⊢; exact hfg _ _ _ _ _ _ _ h
          | some q =>
            obtain ⟨z, as, rest⟩ := q
            simp only [hca] at h ⊢
            cases d with
            | zero => cases h
            | succ d =>
              simp only at h ⊢
              split at h
              · rename_i hc
                rw [if_pos hc]
                cases hf : f d z 0 (as ++ List.replicate (im_max z - as.length) (.retAddr 0)) [] M with
                | none => simp only [hf] at h; cases h
                | some w =>
                  rw [hfg _ _ _ _ _ _ _ hf]
                  obtain ⟨o1, M1⟩ := w
                  simp only [hf] at h
                  cases o1 with
                  | inl v => exact hfg _ _ _ _ _ _ _ h
                  | inr q =>
                    simp only at h ⊢
                    cases hh : im_hand y pc q.1 with
                    | some hp => simp only [hh] at h ⊢; exact hfg _ _ _ _ _ _ _ h
                    | none => simp only [hh] at h ⊢; exact h
              · cases h
theorem im_run_succ : ∀ (n d y pc : Nat) (ls st : List Value) (M : im_M) (r : im_O × im_M), im_run n d y pc ls st M = some r → im_run (n + 1) d y pc ls st M = some r := by
  intro n
  induction n with
  | zero => intro d y pc ls st M r h; cases h
  | succ n ih => intro d y pc ls st M r h; exact im_F_mono (f := im_run n) (g := im_run (n + 1)) ih h
theorem im_run_le {n k d y pc : Nat} {ls st : List Value} {M : im_M} {r : im_O × im_M} (hk : n ≤ k) (h : im_run n d y pc ls st M = some r) : im_run k d y pc ls st M = some r := by
  induction hk with
  | refl => exact h
  | step _ ih => exact im_run_succ _ _ _ _ _ _ _ _ ih
def iw (d y pc : Nat) (ls st : List Value) (M : im_M) (Q : im_O → im_M → Prop) : Prop := ∃ n o M', im_run n d y pc ls st M = some (o, M') ∧ Q o M'
section WP
variable {d y pc : Nat} {ls st : List Value} {M : im_M} {Q Q' : im_O → im_M → Prop}
theorem iw.mono (h : iw d y pc ls st M Q) (hQ : ∀ o M', Q o M' → Q' o M') : iw d y pc ls st M Q' := by
  obtain ⟨n, o, M', h1, h2⟩ := h
  exact ⟨n, o, M', h1, hQ o M' h2⟩
/-- instructions that neither call nor end -/
def im_pl : Instr → Bool
  | .ireturn => false | .areturn => false | .return_ => false
  | .invokevirtual _ => false | .invokespecial _ => false | .invokestatic _ => false
  | _ => true
/-- the instruction at a place, as printed: no throw begins there -/
def im_at (y pc : Nat) (i : Instr) (len : Nat) : Prop := im_dec y pc = some (i, len) ∧ it_thr y pc = none
theorem im_ret_no {i : Instr} {len : Nat} (h : im_pl i = true) : im_ret y i len st = none := by
  unfold im_ret
  cases it_met y with
  | none => rfl
  | some me => cases i <;> first | rfl | cases h
theorem im_prim_no {i : Instr} {len : Nat} (h : im_pl i = true) : im_prim y i len st M = none := by
  unfold im_prim
  split
  · cases i <;> first | rfl | cases h
  · rfl
theorem im_call_no {i : Instr} {len : Nat} (h : im_pl i = true) : im_call y i len st = none := by
  unfold im_call
  split
  · cases i <;> first | rfl | cases h
  · rfl
/-- what an instruction does: none, or a state that is then looked at -/
def iw_then (d y : Nat) (Q : im_O → im_M → Prop) : Option (im_S × im_M) → Prop
  | some q => iw d y q.1.1 q.1.2.1 q.1.2.2 q.2 Q
  | none => False
theorem iw_step {i : Instr} {len : Nat} (hat : im_at y pc i len) (hp : im_pl i = true) : iw d y pc ls st M Q ↔ iw_then d y Q (im_ns y i len pc ls st M) := by
  have key : ∀ n, im_run (n + 1) d y pc ls st M = (match im_ns y i len pc ls st M with | some (r, M1) => im_run n d y r.1 r.2.1 r.2.2 M1 | none => none) := by
    intro n
    show im_F (im_run n) d y pc ls st M = _
    unfold im_F
    simp only [hat.1, im_ret_no hp, hat.2, im_prim_no hp, im_call_no hp]
    rfl
  constructor
  · rintro ⟨n, o, M', h1, h2⟩
    cases n with
    | zero => cases h1
    | succ n =>
      rw [key] at h1
      cases hns : im_ns y i len pc ls st M with
      | none => rw [hns] at h1; cases h1
      | some q => rw [hns] at h1; exact ⟨n, o, M', h1, h2⟩
  · intro h
    cases hns : im_ns y i len pc ls st M with
    | none => rw [hns] at h; exact h.elim
    | some q =>
      rw [hns] at h
      obtain ⟨n, o, M', h1, h2⟩ := h
      exact ⟨n + 1, o, M', by rw [key, hns]; exact h1, h2⟩
theorem iw_ret {i : Instr} {len : Nat} {v : Option Value} (hdec : im_dec y pc = some (i, len)) (hr : im_ret y i len st = some v) : iw d y pc ls st M Q ↔ Q (.inl v) M := by
  have key : ∀ n, im_run (n + 1) d y pc ls st M = some (.inl v, M) := by
    intro n
    show im_F (im_run n) d y pc ls st M = _
    unfold im_F
    simp only [hdec, hr]
  constructor
  · rintro ⟨n, o, M', h1, h2⟩
    cases n with
    | zero => cases h1
    | succ n => rw [key] at h1; cases h1; exact h2
  · intro h
    exact ⟨1, _, _, key 0, h⟩
theorem iw_thr {i : Instr} {len ec : Nat} (hdec : im_dec y pc = some (i, len)) (hr : im_ret y i len st = none) (ht : it_thr y pc = some ec) (hs : (st.map Value.category).sum ≤ 8) : iw d y pc ls st M Q ↔ Q (.inr (ec, im_tot M)) (im_dead M 1 6) := by
  have key : ∀ n, im_run (n + 1) d y pc ls st M = some (.inr (ec, im_tot M), im_dead M 1 6) := by
    intro n
    show im_F (im_run n) d y pc ls st M = _
    unfold im_F
    simp only [hdec, hr, ht, hs, if_true]
  constructor
  · rintro ⟨n, o, M', h1, h2⟩
    cases n with
    | zero => cases h1
    | succ n => rw [key] at h1; cases h1; exact h2
  · intro h
    exact ⟨1, _, _, key 0, h⟩
theorem iw_prim {i : Instr} {len : Nat} {st' : List Value} (hat : im_at y pc i len) (hr : im_ret y i len st = none) (hp : im_prim y i len st M = some st') : iw d y pc ls st M Q ↔ iw d y (pc + 3) ls st' M Q := by
  have key : ∀ n, im_run (n + 1) d y pc ls st M = im_run n d y (pc + 3) ls st' M := by
    intro n
    show im_F (im_run n) d y pc ls st M = _
    unfold im_F
    simp only [hat.1, hr, hat.2, hp]
  constructor
  · rintro ⟨n, o, M', h1, h2⟩
    cases n with
    | zero => cases h1
    | succ n => rw [key] at h1; exact ⟨n, o, M', h1, h2⟩
  · rintro ⟨n, o, M', h1, h2⟩
    exact ⟨n + 1, o, M', by rw [key]; exact h1, h2⟩
/-- behind a call -/
def iw_back (d y pc : Nat) (ls rest : List Value) (Q : im_O → im_M → Prop) : im_O → im_M → Prop
  | .inl v, M1 => iw d y (pc + 3) ls (v.toList ++ rest) M1 Q
  | .inr q, M1 => match im_hand y pc q.1 with
    | some h => iw d y h ls [.ref q.2] M1 Q
    | none => im_nohand y = true ∧ Q (.inr q) M1
theorem iw_call {i : Instr} {len z : Nat} {as rest : List Value} (hat : im_at y pc i len) (hr : im_ret y i len st = none) (hp : im_prim y i len st M = none) (hc : im_call y i len st = some (z, as, rest)) (hck : as.length ≤ im_max z ∧ im_recv i z as M = true) :
    iw (d + 1) y pc ls st M Q ↔ iw d z 0 (as ++ List.replicate (im_max z - as.length) (.retAddr 0)) [] M (iw_back (d + 1) y pc ls rest Q) := by
  have key : ∀ n, im_run (n + 1) (d + 1) y pc ls st M = (match im_run n d z 0 (as ++ List.replicate (im_max z - as.length) (.retAddr 0)) [] M with
                | some (.inl v, M1) => im_run n (d + 1) y (pc + 3) ls (v.toList ++ rest) M1
                | some (.inr q, M1) => (match im_hand y pc q.1 with
                  | some h => im_run n (d + 1) y h ls [.ref q.2] M1
                  | none => if im_nohand y = true then some (.inr q, M1) else none)
                | none => none) := by
    intro n
    show im_F (im_run n) (d + 1) y pc ls st M = _
    unfold im_F
    simp only [hat.1, hr, hat.2, hp, hc]
    rw [if_pos hck]
    rfl
  constructor
  · rintro ⟨n, o, M', h1, h2⟩
    cases n with
    | zero => cases h1
    | succ n =>
      rw [key] at h1
      cases hz : im_run n d z 0 (as ++ List.replicate (im_max z - as.length) (.retAddr 0)) [] M with
      | none => rw [hz] at h1; cases h1
      | some w =>
        obtain ⟨o1, M1⟩ := w
        rw [hz] at h1
        refine ⟨n, o1, M1, hz, ?_⟩
        cases o1 with
        | inl v => exact ⟨n, o, M', h1, h2⟩
        | inr q =>
          simp only at h1
          show (match im_hand y pc q.1 with | some h => iw (d + 1) y h ls [.ref q.2] M1 Q | none => im_nohand y = true ∧ Q (.inr q) M1)
          cases hh : im_hand y pc q.1 with
          | some hp => rw [hh] at h1; exact ⟨n, o, M', h1, h2⟩
          | none =>
            rw [hh] at h1
            simp only at h1
            split at h1
            · rename_i hno
              cases h1
              exact ⟨hno, h2⟩
            · cases h1
  · rintro ⟨n, o1, M1, hz, hb⟩
    cases o1 with
    | inl v =>
      obtain ⟨k, o, M', h1, h2⟩ := hb
      refine ⟨max n k + 1, o, M', ?_, h2⟩
      rw [key, im_run_le (Nat.le_max_left n k) hz]
      exact im_run_le (Nat.le_max_right n k) h1
    | inr q =>
      have hb' : (match im_hand y pc q.1 with | some h => iw (d + 1) y h ls [.ref q.2] M1 Q | none => im_nohand y = true ∧ Q (.inr q) M1) := hb
      cases hh : im_hand y pc q.1 with
      | some hp =>
        rw [hh] at hb'
        obtain ⟨k, o, M', h1, h2⟩ := hb'
        refine ⟨max n k + 1, o, M', ?_, h2⟩
        rw [key, im_run_le (Nat.le_max_left n k) hz]
        simp only [hh]
        exact im_run_le (Nat.le_max_right n k) h1
      | none =>
        rw [hh] at hb'
        refine ⟨n + 1, .inr q, M1, ?_, hb'.2⟩
        rw [key, hz]
        simp only [hh, hb'.1, if_true]
end WP
