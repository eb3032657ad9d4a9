/-! Rows that touch the memory. -/
section ROWS2
variable {d y pc : Nat} {ls st : List Value} {Q : im_O → im_M → Prop} {L : Nat} {xs : Nat → Int32} {mi : Nat → Nat → Int32} {rw : Nat → Nat} {o : Nat → Int64} {g z : Nat}
theorem r_and {A B C : Prop} (h : A → (C ↔ B)) (hn : ¬ A → (C ↔ False)) : C ↔ A ∧ B := by
  by_cases ha : A
  · rw [h ha]; exact ⟨fun hb => ⟨ha, hb⟩, fun hb => hb.2⟩
  · rw [hn ha]; exact ⟨fun hf => hf.elim, fun hb => ha hb.1⟩
theorem it_sh_isk {ci a : Nat} : (8 ≤ a ∧ a < (it_mem L xs mi rw o g z).1.1 ∧ ((it_mem L xs mi rw o g z).2.1 a).1 = ci) ↔ it_isk ci a = true := by
  show (8 ≤ a ∧ a < 135 ∧ (it_sh L a).1 = ci) ↔ _
  rw [it_sh_eq]
  unfold it_isk
  rw [decide_eq_true_eq]
theorem r_getf {idx ci k a : Nat} {host : Option String} (h : im_at y pc (.getfield idx) 3) (hf : it_fld y idx = some (ci, k, host)) : iw d y pc ls (.ref a :: st) (it_mem L xs mi rw o g z) Q ↔ it_isk ci a = true ∧ iw d y (pc + 3) ls (it_cv xs mi rw o a k :: st) (it_mem L xs mi rw o g z) Q := by
  refine r_and (fun ha => r_eq (r := (pc + 3, ls, it_cv xs mi rw o a k :: st)) h rfl ?_) (fun ha => r_no h rfl ?_)
  · show im_rd pc ls _ 3 (im_gf y idx 3 (.ref a :: st) (it_mem L xs mi rw o g z)) = _
    unfold im_gf
    rw [if_pos rfl, hf]
    simp only
    rw [if_pos (it_sh_isk.mpr ha)]
    rfl
  · show im_rd pc ls _ 3 (im_gf y idx 3 (.ref a :: st) (it_mem L xs mi rw o g z)) = _
    unfold im_gf
    rw [if_pos rfl, hf]
    simp only
    rw [if_neg (fun q => ha (it_sh_isk.mp q))]
    rfl
def it_vok (ty : FieldType) (x : Int32) : Prop := narrow ty (.int x) = .int x ∧ fits ty (.int x) = true
theorem r_putf {idx ci k a : Nat} {x : Int32} {host : Option String} (h : im_at y pc (.putfield idx) 3) (hf : it_fld y idx = some (ci, k, host)) (hp : it_pok y idx = true) (hc : ci < 30) (hr : ∀ a, it_isk ci a = true → it_ref a k = none) : iw d y pc ls (.int x :: .ref a :: st) (it_mem L xs mi rw o g z) Q ↔ (it_isk ci a = true ∧ it_vok (it_ty ci k) x) ∧ iw d y (pc + 3) ls st (it_mem L xs (it_up mi a k x) rw o g z) Q := by
  refine r_and (fun ha => r_eq (r := (pc + 3, ls, st)) h rfl ?_) (fun ha => r_no h rfl ?_)
  · show im_wr pc ls 3 (im_pf y idx 3 (.int x :: .ref a :: st) (it_mem L xs mi rw o g z)) = _
    obtain ⟨ha, hv⟩ := ha
    obtain ⟨n0, n1, n2⟩ := it_obj ha hc
    have h9 := it_sh_isk (L := L) (xs := xs) (mi := mi) (rw := rw) (o := o) (g := g) (z := z) |>.mpr ha
    unfold im_pf
    rw [if_pos ⟨rfl, hp⟩, hf]
    simp only
    rw [if_pos ⟨h9.1, h9.2.1, h9.2.2, hv.1, hv.2⟩, it_mem_set n0 n1 n2 (hr a ha)]
    rfl
  · show im_wr pc ls 3 (im_pf y idx 3 (.int x :: .ref a :: st) (it_mem L xs mi rw o g z)) = _
    unfold im_pf
    rw [if_pos ⟨rfl, hp⟩, hf]
    simp only
    rw [if_neg (fun q => ha ⟨it_sh_isk.mp ⟨q.1, q.2.1, q.2.2.1⟩, q.2.2.2.1, q.2.2.2.2⟩)]
    rfl
/-- within an array -/
def it_inb (L a : Nat) (j : Int32) : Prop := ¬ (j < 0 ∨ it_ln L a ≤ j.toNatClampNeg)
theorem it_al_eq {ty : FieldType} {a : Nat} {j : Int32} : (a < (it_mem L xs mi rw o g z).1.1 ∧ 30 ≤ ((it_mem L xs mi rw o g z).2.1 a).1 ∧ it_aty ((it_mem L xs mi rw o g z).2.1 a).1 = some ty ∧ ¬ (j < 0 ∨ ((it_mem L xs mi rw o g z).2.1 a).2 ≤ j.toNatClampNeg)) ↔ (it_isa ty a = true ∧ it_inb L a j) := by
  show (a < 135 ∧ 30 ≤ (it_sh L a).1 ∧ it_aty (it_sh L a).1 = some ty ∧ ¬ (j < 0 ∨ (it_sh L a).2 ≤ j.toNatClampNeg)) ↔ _
  rw [it_sh_eq]
  unfold it_isa it_inb
  rw [decide_eq_true_eq]
  simp only [and_assoc]
theorem r_al {i : Instr} {ty : FieldType} {a : Nat} {j : Int32} (h : im_at y pc i 1) (hp : im_pl i = true) (hi : ∀ st M, im_ns y i 1 pc ls st M = im_rd pc ls M 1 (im_al it_aty ty 1 pc st M)) : iw d y pc ls (.int j :: .ref a :: st) (it_mem L xs mi rw o g z) Q ↔ (it_isa ty a = true ∧ it_inb L a j) ∧ iw d y (pc + 1) ls (it_cv xs mi rw o a j.toNatClampNeg :: st) (it_mem L xs mi rw o g z) Q := by
  refine r_and (fun ha => r_eq (r := (pc + 1, ls, it_cv xs mi rw o a j.toNatClampNeg :: st)) h hp ?_) (fun ha => r_no h hp ?_)
  · rw [hi]
    unfold im_al
    rw [if_pos rfl]
    simp only
    rw [if_pos (it_al_eq.mpr ha)]
    rfl
  · rw [hi]
    unfold im_al
    rw [if_pos rfl]
    simp only
    rw [if_neg (fun q => ha (it_al_eq.mp q))]
    rfl
theorem r_iaload {a : Nat} {j : Int32} (h : im_at y pc .iaload 1) : iw d y pc ls (.int j :: .ref a :: st) (it_mem L xs mi rw o g z) Q ↔ (it_isa .int a = true ∧ it_inb L a j) ∧ iw d y (pc + 1) ls (it_cv xs mi rw o a j.toNatClampNeg :: st) (it_mem L xs mi rw o g z) Q := r_al h rfl (fun _ _ => rfl)
theorem r_caload {a : Nat} {j : Int32} (h : im_at y pc .caload 1) : iw d y pc ls (.int j :: .ref a :: st) (it_mem L xs mi rw o g z) Q ↔ (it_isa .char a = true ∧ it_inb L a j) ∧ iw d y (pc + 1) ls (it_cv xs mi rw o a j.toNatClampNeg :: st) (it_mem L xs mi rw o g z) Q := r_al h rfl (fun _ _ => rfl)
theorem r_baload {a : Nat} {j : Int32} (h : im_at y pc .baload 1) : iw d y pc ls (.int j :: .ref a :: st) (it_mem L xs mi rw o g z) Q ↔ (it_isa .boolean a = true ∧ it_inb L a j) ∧ iw d y (pc + 1) ls (it_cv xs mi rw o a j.toNatClampNeg :: st) (it_mem L xs mi rw o g z) Q := r_al h rfl (fun _ _ => rfl)
theorem r_laload {a : Nat} {j : Int32} (h : im_at y pc .laload 1) : iw d y pc ls (.int j :: .ref a :: st) (it_mem L xs mi rw o g z) Q ↔ (it_isa .long a = true ∧ it_inb L a j) ∧ iw d y (pc + 1) ls (it_cv xs mi rw o a j.toNatClampNeg :: st) (it_mem L xs mi rw o g z) Q := r_al h rfl (fun _ _ => rfl)
theorem r_as {i : Instr} {ty : FieldType} {a : Nat} {j x x' : Int32} (ht : ty = .int ∨ ty = .char ∨ ty = .boolean) (hx : narrow ty (.int x) = .int x') (h : im_at y pc i 1) (hp : im_pl i = true) (hi : ∀ st M, im_ns y i 1 pc ls st M = im_wr pc ls 1 (im_ai ty 1 st M)) :
    iw d y pc ls (.int x :: .int j :: .ref a :: st) (it_mem L xs mi rw o g z) Q ↔ (8 ≤ a ∧ it_isa ty a = true ∧ it_inb L a j) ∧ iw d y (pc + 1) ls st (it_mem L xs (it_up mi a j.toNatClampNeg x') rw o g z) Q := by
  refine r_and (fun ha => r_eq (r := (pc + 1, ls, st)) h hp ?_) (fun ha => r_no h hp ?_)
  · obtain ⟨h8, ha1, ha2⟩ := ha
    obtain ⟨n1, n2, n3⟩ := it_prim ha1 ht
    have hq := it_al_eq (L := L) (xs := xs) (mi := mi) (rw := rw) (o := o) (g := g) (z := z) |>.mpr ⟨ha1, ha2⟩
    rw [hi]
    unfold im_ai im_as
    simp only
    rw [if_pos ⟨trivial, h8, hq.1, hq.2.1, hq.2.2.1, hq.2.2.2⟩, hx, it_mem_set (by omega) n2 n3 (n1 _)]
    rfl
  · rw [hi]
    unfold im_ai im_as
    simp only
    rw [if_neg (fun q => ha ⟨q.2.1, it_al_eq.mp ⟨q.2.2.1, q.2.2.2.1, q.2.2.2.2.1, q.2.2.2.2.2⟩⟩)]
    rfl
theorem r_iastore {a : Nat} {j x : Int32} (h : im_at y pc .iastore 1) : iw d y pc ls (.int x :: .int j :: .ref a :: st) (it_mem L xs mi rw o g z) Q ↔ (8 ≤ a ∧ it_isa .int a = true ∧ it_inb L a j) ∧ iw d y (pc + 1) ls st (it_mem L xs (it_up mi a j.toNatClampNeg x) rw o g z) Q := r_as (Or.inl rfl) rfl h rfl (fun _ _ => rfl)
theorem r_castore {a : Nat} {j x : Int32} (h : im_at y pc .castore 1) : iw d y pc ls (.int x :: .int j :: .ref a :: st) (it_mem L xs mi rw o g z) Q ↔ (8 ≤ a ∧ it_isa .char a = true ∧ it_inb L a j) ∧ iw d y (pc + 1) ls st (it_mem L xs (it_up mi a j.toNatClampNeg (vp_nar .char x)) rw o g z) Q := r_as (Or.inr (Or.inl rfl)) rfl h rfl (fun _ _ => rfl)
theorem r_bastore {a : Nat} {j x : Int32} (h : im_at y pc .bastore 1) : iw d y pc ls (.int x :: .int j :: .ref a :: st) (it_mem L xs mi rw o g z) Q ↔ (8 ≤ a ∧ it_isa .boolean a = true ∧ it_inb L a j) ∧ iw d y (pc + 1) ls st (it_mem L xs (it_up mi a j.toNatClampNeg (vp_nar .boolean x)) rw o g z) Q := r_as (Or.inr (Or.inr rfl)) rfl h rfl (fun _ _ => rfl)
theorem r_lastore {j : Int32} {v : Int64} (h : im_at y pc .lastore 1) : iw d y pc ls (.long v :: .int j :: .ref 134 :: st) (it_mem L xs mi rw o g z) Q ↔ it_inb L 134 j ∧ iw d y (pc + 1) ls st (it_mem L xs mi rw (va_up o j.toNatClampNeg v) g z) Q := by
  have hisa : it_isa .long 134 = true := by decide +kernel
  refine r_and (fun ha => r_eq (r := (pc + 1, ls, st)) h rfl ?_) (fun ha => r_no h rfl ?_)
  · have hq := it_al_eq (L := L) (xs := xs) (mi := mi) (rw := rw) (o := o) (g := g) (z := z) |>.mpr ⟨hisa, ha⟩
    show im_wr pc ls 1 (im_al64 1 (.long v :: .int j :: .ref 134 :: st) (it_mem L xs mi rw o g z)) = _
    unfold im_al64 im_as
    simp only
    rw [if_pos ⟨trivial, by decide, hq.1, hq.2.1, hq.2.2.1, hq.2.2.2⟩, it_mem_out]
    rfl
  · show im_wr pc ls 1 (im_al64 1 (.long v :: .int j :: .ref 134 :: st) (it_mem L xs mi rw o g z)) = _
    unfold im_al64 im_as
    simp only
    rw [if_neg (fun q => ha (it_al_eq.mp ⟨q.2.2.1, q.2.2.2.1, q.2.2.2.2.1, q.2.2.2.2.2⟩).2)]
    rfl
/-- arrays of references -/
def it_isr (a : Nat) : Bool := decide (a < 135 ∧ 30 ≤ it_kd a ∧ (∃ ty, it_aty (it_kd a) = some ty ∧ ty.isReference = true))
theorem r_alen {a : Nat} (h : im_at y pc .arraylength 1) : iw d y pc ls (.ref a :: st) (it_mem L xs mi rw o g z) Q ↔ (a < 135 ∧ 30 ≤ it_kd a ∧ (it_aty (it_kd a)).isSome = true) ∧ iw d y (pc + 1) ls (.int (it_ln L a).toInt32 :: st) (it_mem L xs mi rw o g z) Q := by
  have e : (a < (it_mem L xs mi rw o g z).1.1 ∧ 30 ≤ ((it_mem L xs mi rw o g z).2.1 a).1 ∧ (it_aty ((it_mem L xs mi rw o g z).2.1 a).1).isSome = true) ↔ (a < 135 ∧ 30 ≤ it_kd a ∧ (it_aty (it_kd a)).isSome = true) := by
    show (a < 135 ∧ 30 ≤ (it_sh L a).1 ∧ (it_aty (it_sh L a).1).isSome = true) ↔ _
    rw [it_sh_eq]
  refine r_and (fun ha => r_eq (r := (pc + 1, ls, .int (it_ln L a).toInt32 :: st)) h rfl ?_) (fun ha => r_no h rfl ?_)
  · show im_rd pc ls _ 1 (im_len 1 (.ref a :: st) (it_mem L xs mi rw o g z)) = _
    unfold im_len
    rw [if_pos rfl]
    simp only
    rw [if_pos (e.mpr ha)]
    show im_rd pc ls _ 1 (some (.int (it_sh L a).2.toInt32 :: st)) = _
    rw [it_sh_eq]
    rfl
  · show im_rd pc ls _ 1 (im_len 1 (.ref a :: st) (it_mem L xs mi rw o g z)) = _
    unfold im_len
    rw [if_pos rfl]
    simp only
    rw [if_neg (fun q => ha (e.mp q))]
    rfl
theorem r_aaload {a : Nat} {ty : FieldType} {j : Int32} (h : im_at y pc .aaload 1) (hty : it_aty (it_kd a) = some ty) (hrf : ty.isReference = true) : iw d y pc ls (.int j :: .ref a :: st) (it_mem L xs mi rw o g z) Q ↔ (it_isa ty a = true ∧ it_inb L a j) ∧ iw d y (pc + 1) ls (it_cv xs mi rw o a j.toNatClampNeg :: st) (it_mem L xs mi rw o g z) Q := by
  have har : im_ar (it_mem L xs mi rw o g z) a = some ty := by
    show it_aty (it_sh L a).1 = some ty
    rw [it_sh_eq]
    exact hty
  have e2 : ∀ st', im_al2 1 pc (.int j :: .ref a :: st') (it_mem L xs mi rw o g z) = im_al it_aty ty 1 pc (.int j :: .ref a :: st') (it_mem L xs mi rw o g z) := by
    intro st'
    unfold im_al2
    simp only [har]
    rw [if_pos hrf]
  refine r_and (fun ha => r_eq (r := (pc + 1, ls, it_cv xs mi rw o a j.toNatClampNeg :: st)) h rfl ?_) (fun ha => r_no h rfl ?_)
  · show im_rd pc ls _ 1 (im_al2 1 pc (.int j :: .ref a :: st) (it_mem L xs mi rw o g z)) = _
    rw [e2]
    unfold im_al
    rw [if_pos rfl]
    simp only
    rw [if_pos (it_al_eq.mpr ha)]
    rfl
  · show im_rd pc ls _ 1 (im_al2 1 pc (.int j :: .ref a :: st) (it_mem L xs mi rw o g z)) = _
    rw [e2]
    unfold im_al
    rw [if_pos rfl]
    simp only
    rw [if_neg (fun q => ha (it_al_eq.mp q))]
    rfl
theorem r_aastore {v : Nat} {j : Int32} (h : im_at y pc .aastore 1) : iw d y pc ls (.ref v :: .int j :: .ref 78 :: st) (it_mem L xs mi rw o g z) Q ↔ (it_isk 8 v = true ∧ it_inb L 78 j) ∧ iw d y (pc + 1) ls st (it_mem L xs mi (va_up rw j.toNatClampNeg v) o g z) Q := by
  have hkd : ((it_mem L xs mi rw o g z).2.1 78).1 = 34 := by
    show (it_sh L 78).1 = 34
    rw [it_sh_eq]
    show it_kd 78 = 34
    decide +kernel
  have hat : it_aty ((it_mem L xs mi rw o g z).2.1 78).1 = some (.object "IssueFold$Message") := by rw [hkd]; rfl
  have hac : it_acp ((it_mem L xs mi rw o g z).2.1 78).1 = some 8 := by rw [hkd]; rfl
  have hisa : it_isa (.object "IssueFold$Message") 78 = true := by decide +kernel
  have hv : (8 ≤ v ∧ v < (it_mem L xs mi rw o g z).1.1 ∧ it_acp ((it_mem L xs mi rw o g z).2.1 78).1 = some ((it_mem L xs mi rw o g z).2.1 v).1) ↔ it_isk 8 v = true := by
    rw [hac, ← it_sh_isk (L := L) (xs := xs) (mi := mi) (rw := rw) (o := o) (g := g) (z := z)]
    simp only [Option.some.injEq]
    exact ⟨fun q => ⟨q.1, q.2.1, q.2.2.symm⟩, fun q => ⟨q.1, q.2.1, q.2.2.symm⟩⟩
  refine r_and (fun ha => r_eq (r := (pc + 1, ls, st)) h rfl ?_) (fun ha => r_no h rfl ?_)
  · have hq := it_al_eq (L := L) (xs := xs) (mi := mi) (rw := rw) (o := o) (g := g) (z := z) |>.mpr ⟨hisa, ha.2⟩
    show im_wr pc ls 1 (im_aa 1 (.ref v :: .int j :: .ref 78 :: st) (it_mem L xs mi rw o g z)) = _
    unfold im_aa
    simp only [hat]
    rw [if_pos (hv.mpr ha.1)]
    unfold im_as
    rw [if_pos ⟨rfl, by decide, hq.1, hq.2.1, hq.2.2.1, hq.2.2.2⟩, it_mem_row]
    rfl
  · show im_wr pc ls 1 (im_aa 1 (.ref v :: .int j :: .ref 78 :: st) (it_mem L xs mi rw o g z)) = _
    unfold im_aa
    simp only [hat]
    by_cases h1 : it_isk 8 v = true
    · rw [if_pos (hv.mpr h1)]
      unfold im_as
      rw [if_neg (fun q => ha ⟨h1, (it_al_eq.mp ⟨q.2.2.1, q.2.2.2.1, q.2.2.2.2.1, q.2.2.2.2.2⟩).2⟩)]
      rfl
    · rw [if_neg (fun q => h1 (hv.mp q))]
      rfl
/-- what a method with answers of a kind gives back -/
theorem r_ireturn {x : Int32} {me : it_Me} {ty : FieldType} (h : im_at y pc .ireturn 1) (hm : it_met y = some me) (ht : me.2.2.2.1 = some ty) (hrf : ty.isReference = false) : iw d y pc ls [.int x] (it_mem L xs mi rw o g z) Q ↔ it_vok ty x ∧ Q (.inl (some (.int x))) (it_mem L xs mi rw o g z) := by
  refine r_and (fun hv => iw_ret h.1 ?_) (fun hv => ?_)
  · unfold im_ret
    rw [hm]
    simp only [if_true, ht]
    rw [if_pos ⟨hv.1, hrf, hv.2⟩]
  · have hn : im_ret y .ireturn 1 [.int x] = none := by
      unfold im_ret
      rw [hm]
      simp only [if_true, ht]
      rw [if_neg (fun q => hv ⟨q.1, q.2.2⟩)]
    refine ⟨fun h9 => ?_, fun h9 => h9.elim⟩
    obtain ⟨n, o1, M', h1, h2⟩ := h9
    cases n with
    | zero => cases h1
    | succ n =>
      have h3 : im_F (im_run n) d y pc ls [.int x] (it_mem L xs mi rw o g z) = some (o1, M') := h1
      unfold im_F at h3
      simp only [h.1, hn, h.2] at h3
      exact absurd h3 (by
        have e1 : im_prim y .ireturn 1 [.int x] (it_mem L xs mi rw o g z) = none := by unfold im_prim; rfl
        have e2 : im_call y .ireturn 1 [.int x] = none := by unfold im_call; rfl
        have e3 : im_ns y .ireturn 1 pc ls [.int x] (it_mem L xs mi rw o g z) = none := rfl
        simp [e1, e2, e3])
theorem vok_int (x : Int32) : it_vok .int x := ⟨rfl, rfl⟩
theorem vok_b0 : it_vok .boolean 0 := ⟨rfl, rfl⟩
theorem vok_b1 : it_vok .boolean 1 := ⟨rfl, rfl⟩
theorem vok_bi (c : Prop) [Decidable c] : it_vok .boolean (if c then 1 else 0) := by
  split
  · exact vok_b1
  · exact vok_b0
theorem vok_c0 : it_vok .char 0 := ⟨by decide +kernel, by decide +kernel⟩
theorem it_hr {ci k : Nat} (h : (List.range 135).all (fun a => !it_isk ci a || (it_ref a k).isNone) = true) : ∀ a, it_isk ci a = true → it_ref a k = none := by
  intro a ha
  have hlt : a < 135 := (of_decide_eq_true ha).2.1
  have h1 := List.all_eq_true.mp h a (List.mem_range.mpr hlt)
  rw [ha] at h1
  simpa using h1
theorem r_areturn {k : Nat} {me : it_Me} {ty : FieldType} (h : im_at y pc .areturn 1) (hm : it_met y = some me) (ht : me.2.2.2.1 = some ty) (hrf : ty.isReference = true) : iw d y pc ls [.ref k] (it_mem L xs mi rw o g z) Q ↔ Q (.inl (some (.ref k))) (it_mem L xs mi rw o g z) := by
  refine iw_ret h.1 ?_
  unfold im_ret
  rw [hm]
  simp only [if_true, ht]
  rw [if_pos hrf]
theorem r_return {me : it_Me} (h : im_at y pc .return_ 1) (hm : it_met y = some me) (ht : me.2.2.2.1 = none) : iw d y pc ls [] (it_mem L xs mi rw o g z) Q ↔ Q (.inl none) (it_mem L xs mi rw o g z) := by
  refine iw_ret h.1 ?_
  unfold im_ret
  rw [hm]
  simp only [if_true, ht]
theorem r_throw {idx ec : Nat} (h : im_dec y pc = some (.new idx, 3)) (ht : it_thr y pc = some ec) : iw d y pc ls [] (it_mem L xs mi rw o g z) Q ↔ Q (.inr (ec, 135 + g)) (it_mem L xs mi rw o (g + 1) (z + 6)) := by
  refine iw_thr h ?_ ht (by simp)
  unfold im_ret
  cases it_met y <;> rfl
theorem r_mmax {idx : Nat} {a b : Int32} {M : im_M} (h : im_at y pc (.invokestatic idx) 3) (hx : it_mxx y idx = true) (hs : (st.map Value.category).sum ≤ 8) : iw d y pc ls (.int b :: .int a :: st) M Q ↔ iw d y (pc + 3) ls (.int (if a < b then b else a) :: st) M Q := by
  refine iw_prim h ?_ ?_
  · unfold im_ret
    cases it_met y <;> rfl
  · unfold im_prim
    rw [if_pos rfl]
    simp only
    rw [if_pos hx, if_pos hs]
theorem it_ixo_cal {y idx : Nat} (h : it_ixo y idx = true) : it_cal y idx = none := by
  unfold it_ixo at h
  have e : (it_ow y, idx) = (2, 94) := by
    have h2 := List.contains_iff_mem.mp h
    have h3 : (it_ow y, idx) ∈ [((2, 94) : Nat × Nat)] := h2
    exact List.mem_singleton.mp h3
  unfold it_cal
  rw [e]
  decide +kernel
theorem r_ixof {idx k : Nat} {c : Int32} {M : im_M} (h : im_at y pc (.invokevirtual idx) 3) (hx : it_ixo y idx = true) (hk : k = 1 ∨ k = 2) (h0 : 0 ≤ c) (h1 : c < 128) (hs : (st.map Value.category).sum ≤ 8) : iw d y pc ls (.int c :: .ref k :: st) M Q ↔ iw d y (pc + 3) ls (.int (it_ix k c) :: st) M Q := by
  refine iw_prim h ?_ ?_
  · unfold im_ret
    cases it_met y <;> rfl
  · unfold im_prim
    rw [if_pos rfl]
    simp only
    rw [if_pos hx, if_pos ⟨hk, h0, h1, hs⟩]
theorem r_callS {idx z9 na : Nat} {host : Option String} {as rest : List Value} {M : im_M} (h : im_at y pc (.invokestatic idx) 3) (hx : it_mxx y idx = false) (hc : it_cal y idx = some (1, z9, na, host)) (hn : na ≤ st.length) (hs : ((st.drop na).map Value.category).sum ≤ 8) (ha : (st.take na).reverse = as) (hr : st.drop na = rest) (hm : as.length ≤ im_max z9) (h1 : as.all im_c1 = true) :
    iw (d + 1) y pc ls st M Q ↔ iw d z9 0 (as ++ List.replicate (im_max z9 - as.length) (.retAddr 0)) [] M (iw_back (d + 1) y pc ls rest Q) := by
  subst ha; subst hr
  refine iw_call h ?_ ?_ ?_ ⟨hm, h1⟩
  · unfold im_ret
    cases it_met y <;> rfl
  · unfold im_prim
    rw [if_pos rfl]
    simp only
    rw [hx]
    rfl
  · unfold im_call
    rw [if_pos rfl]
    simp only
    rw [hc]
    simp only
    rw [if_pos ⟨trivial, hn, hs⟩]
theorem r_callV {idx z9 na ci k : Nat} {host : Option String} {as rest : List Value} (h : im_at y pc (.invokevirtual idx) 3) (hc : it_cal y idx = some (0, z9, na, host)) (hn : na < st.length) (hs : ((st.drop (na + 1)).map Value.category).sum ≤ 8) (ha : (st.take (na + 1)).reverse = .ref k :: as) (hr : st.drop (na + 1) = rest) (hm : as.length + 1 ≤ im_max z9) (h1 : as.all im_c1 = true) (hcl : it_mcl z9 = some ci) (hk : it_isk ci k = true) :
    iw (d + 1) y pc ls st (it_mem L xs mi rw o g z) Q ↔ iw d z9 0 (.ref k :: as ++ List.replicate (im_max z9 - (as.length + 1)) (.retAddr 0)) [] (it_mem L xs mi rw o g z) (iw_back (d + 1) y pc ls rest Q) := by
  subst hr
  have hrc : im_recv (.invokevirtual idx) z9 (.ref k :: as) (it_mem L xs mi rw o g z) = true := by
    show ((Value.ref k :: as).all im_c1 && decide (8 ≤ k ∧ k < (it_mem L xs mi rw o g z).1.1 ∧ it_mcl z9 = some ((it_mem L xs mi rw o g z).2.1 k).1)) = true
    rw [Bool.and_eq_true]
    refine ⟨by rw [List.all_cons, h1]; rfl, decide_eq_true ?_⟩
    have h9 := it_sh_isk (L := L) (xs := xs) (mi := mi) (rw := rw) (o := o) (g := g) (z := z) |>.mpr hk
    exact ⟨h9.1, h9.2.1, by rw [h9.2.2]; exact hcl⟩
  refine iw_call (as := .ref k :: as) h ?_ ?_ ?_ ⟨hm, hrc⟩
  · unfold im_ret
    cases it_met y <;> rfl
  · unfold im_prim
    rw [if_pos rfl]
    simp only
    rw [if_neg (fun h9 => by rw [it_ixo_cal h9] at hc; cases hc)]
  · unfold im_call
    rw [if_pos rfl]
    simp only
    rw [hc]
    simp only
    rw [if_pos ⟨trivial, hn, hs⟩, ha]
theorem r_backI {ls rest : List Value} {M : im_M} {v : Value} : iw_back d y pc ls rest Q (.inl (some v)) M ↔ iw d y (pc + 3) ls (v :: rest) M Q := Iff.rfl
theorem r_backV {ls rest : List Value} {M : im_M} : iw_back d y pc ls rest Q (.inl none) M ↔ iw d y (pc + 3) ls rest M Q := Iff.rfl
theorem r_backT {ls rest : List Value} {M : im_M} {ec k hp : Nat} (h : im_hand y pc ec = some hp) : iw_back d y pc ls rest Q (.inr (ec, k)) M ↔ iw d y hp ls [.ref k] M Q := by
  show (match im_hand y pc ec with | some h => iw d y h ls [.ref k] M Q | none => im_nohand y = true ∧ Q (.inr (ec, k)) M) ↔ _
  rw [h]
end ROWS2
