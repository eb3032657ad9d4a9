section
/-! An abstract machine, first part: instructions that touch the locals and the operand stack alone. A value of the abstract
machine is a Value whose '.ref k' names a place (a number), not an address; in the locals '.retAddr 0' stands for 'not set'. -/
/-- where a jump goes -/
def im_j (pc : Nat) (off : Int) : Option Nat := if 0 ≤ (pc : Int) + off then some ((pc : Int) + off).toNat else none
abbrev im_S : Type := Nat × List Value × List Value
def im_cst (L len pc : Nat) (v : Int32) (ls st : List Value) : Option im_S := if len = L then some (pc + L, ls, .int v :: st) else none
def im_ldI (L len pc k : Nat) (ls st : List Value) : Option im_S := if len = L then (match ls[k]? with | some (.int x) => some (pc + L, ls, .int x :: st) | _ => none) else none
def im_ldA (L len pc k : Nat) (ls st : List Value) : Option im_S := if len = L then (match ls[k]? with | some (.ref x) => some (pc + L, ls, .ref x :: st) | _ => none) else none
def im_stI (L len pc k : Nat) (ls st : List Value) : Option im_S := if len = L then (match st with | .int x :: r => (if k < ls.length then some (pc + L, ls.set k (.int x), r) else none) | _ => none) else none
def im_stA (L len pc k : Nat) (ls st : List Value) : Option im_S := if len = L then (match st with | .ref x :: r => (if k < ls.length then some (pc + L, ls.set k (.ref x), r) else none) | _ => none) else none
def im_inc (len pc k : Nat) (n : Int) (ls st : List Value) : Option im_S := if len = 3 then (match ls[k]? with | some (.int x) => some (pc + 3, ls.set k (.int (x + Int32.ofInt n)), st) | _ => none) else none
def im_b2 (f : Int32 → Int32 → Int32) (len pc : Nat) (ls st : List Value) : Option im_S := if len = 1 then (match st with | .int y :: .int x :: r => some (pc + 1, ls, .int (f x y) :: r) | _ => none) else none
def im_dv (f : Int32 → Int32 → Int32) (len pc : Nat) (ls st : List Value) : Option im_S := if len = 1 then (match st with | .int y :: .int x :: r => (if y = 0 then none else some (pc + 1, ls, .int (f x y) :: r)) | _ => none) else none
def im_u1 (f : Int32 → Value) (len pc : Nat) (ls st : List Value) : Option im_S := if len = 1 then (match st with | .int x :: r => some (pc + 1, ls, f x :: r) | _ => none) else none
def im_lc (len pc : Nat) (ls st : List Value) : Option im_S := if len = 1 then (match st with | .long y :: .long x :: r => some (pc + 1, ls, .int (lg_cmp x y) :: r) | _ => none) else none
def im_if (b : Int32 → Bool) (len pc : Nat) (off : Int) (ls st : List Value) : Option im_S := if len = 3 then (match st with | .int x :: r => (match im_j pc off with | some t => some (if b x then t else pc + 3, ls, r) | none => none) | _ => none) else none
def im_ic (b : Int32 → Int32 → Bool) (len pc : Nat) (off : Int) (ls st : List Value) : Option im_S := if len = 3 then (match st with | .int y :: .int x :: r => (match im_j pc off with | some t => some (if b x y then t else pc + 3, ls, r) | none => none) | _ => none) else none
def im_go (len pc : Nat) (off : Int) (ls st : List Value) : Option im_S := if len = 3 then (match im_j pc off with | some t => some (t, ls, st) | none => none) else none
def im_c1 (v : Value) : Bool := v.category == 1
def im_dup (len pc : Nat) (ls st : List Value) : Option im_S := if len = 1 then (match st with | v :: r => (if im_c1 v then some (pc + 1, ls, v :: v :: r) else none) | _ => none) else none
def im_pop (len pc : Nat) (ls st : List Value) : Option im_S := if len = 1 then (match st with | v :: r => (if im_c1 v then some (pc + 1, ls, r) else none) | _ => none) else none
def im_dup2 (len pc : Nat) (ls st : List Value) : Option im_S := if len = 1 then (match st with | v :: w :: r => (if im_c1 v && im_c1 w then some (pc + 1, ls, v :: w :: v :: w :: r) else none) | _ => none) else none
def im_dupx1 (len pc : Nat) (ls st : List Value) : Option im_S := if len = 1 then (match st with | v :: w :: r => (if im_c1 v && im_c1 w then some (pc + 1, ls, v :: w :: v :: r) else none) | _ => none) else none
def im_ts (pc : Nat) (dflt lo hi : Int) (offs : Array Int) (ls st : List Value) : Option im_S := match st with
  | .int x :: r =>
    if x.toInt < lo ∨ hi < x.toInt then (match im_j pc dflt with | some t => some (t, ls, r) | none => none)
    else (match offs[(x.toInt - lo).toNat]? with | some off => (match im_j pc off with | some t => some (t, ls, r) | none => none) | none => none)
  | _ => none
def im_p (i : Instr) (len pc : Nat) (ls st : List Value) : Option im_S := match i with
  | .iconst n => im_cst 1 len pc (Int32.ofInt n) ls st
  | .bipush n => im_cst 2 len pc (Int8.ofInt n).toInt32 ls st
  | .sipush n => im_cst 3 len pc (Int16.ofInt n).toInt32 ls st
  | .iload_n k => im_ldI 1 len pc k ls st
  | .iload k => im_ldI 2 len pc k ls st
  | .aload_n k => im_ldA 1 len pc k ls st
  | .aload k => im_ldA 2 len pc k ls st
  | .istore_n k => im_stI 1 len pc k ls st
  | .istore k => im_stI 2 len pc k ls st
  | .astore_n k => im_stA 1 len pc k ls st
  | .astore k => im_stA 2 len pc k ls st
  | .iinc k n => im_inc len pc k n ls st
  | .iadd => im_b2 (fun x y => x + y) len pc ls st
  | .isub => im_b2 (fun x y => x - y) len pc ls st
  | .imul => im_b2 (fun x y => x * y) len pc ls st
  | .iand => im_b2 (fun x y => x &&& y) len pc ls st
  | .ior => im_b2 (fun x y => x ||| y) len pc ls st
  | .ixor => im_b2 (fun x y => x ^^^ y) len pc ls st
  | .ishl => im_b2 (fun x y => x <<< (y &&& 31)) len pc ls st
  | .ishr => im_b2 (fun x y => x >>> (y &&& 31)) len pc ls st
  | .idiv => im_dv (fun x y => x / y) len pc ls st
  | .irem => im_dv (fun x y => x - x / y * y) len pc ls st
  | .i2c => im_u1 (fun x => .int (x.toUInt32 % 65536).toInt32) len pc ls st
  | .i2l => im_u1 (fun x => .long x.toInt64) len pc ls st
  | .lcmp => im_lc len pc ls st
  | .dup => im_dup len pc ls st
  | .pop => im_pop len pc ls st
  | .dup2 => im_dup2 len pc ls st
  | .dup_x1 => im_dupx1 len pc ls st
  | .ifCond .eq off => im_if (fun x => x = 0) len pc off ls st
  | .ifCond .ne off => im_if (fun x => ¬ x = 0) len pc off ls st
  | .ifCond .lt off => im_if (fun x => x < 0) len pc off ls st
  | .ifCond .ge off => im_if (fun x => 0 ≤ x) len pc off ls st
  | .ifCond .gt off => im_if (fun x => 0 < x) len pc off ls st
  | .ifCond .le off => im_if (fun x => x ≤ 0) len pc off ls st
  | .if_icmp .eq off => im_ic (fun x y => x = y) len pc off ls st
  | .if_icmp .ne off => im_ic (fun x y => ¬ x = y) len pc off ls st
  | .if_icmp .lt off => im_ic (fun x y => x < y) len pc off ls st
  | .if_icmp .ge off => im_ic (fun x y => y ≤ x) len pc off ls st
  | .if_icmp .gt off => im_ic (fun x y => y < x) len pc off ls st
  | .if_icmp .le off => im_ic (fun x y => x ≤ y) len pc off ls st
  | .goto off => im_go len pc off ls st
  | .tableswitch dflt lo hi offs => im_ts pc dflt lo hi offs ls st
  | _ => none
/-- from places to addresses -/
def im_v (ad : Nat → Nat) : Value → Value
  | .ref k => .ref (ad k)
  | v => v
theorem im_v_cat (ad : Nat → Nat) (v : Value) : (im_v ad v).category = v.category := by cases v <;> rfl
/-- the locals of the frame are those of the abstract machine -/
def im_ll (ad : Nat → Nat) (ls : List Value) : List (Nat × Value) := (List.range ls.length).filterMap fun i => match ls[i]? with
  | some v => if v = .retAddr 0 then none else some (i, im_v ad v)
  | none => none
theorem im_ll_mem {ad : Nat → Nat} {ls : List Value} {q : Nat × Value} : q ∈ im_ll ad ls ↔ ∃ v, ls[q.1]? = some v ∧ v ≠ .retAddr 0 ∧ q.2 = im_v ad v := by
  obtain ⟨i, w⟩ := q
  unfold im_ll
  rw [List.mem_filterMap]
  constructor
  · rintro ⟨j, -, hj⟩
    cases hv : ls[j]? with
    | none => rw [hv] at hj; cases hj
    | some v =>
      rw [hv] at hj
      by_cases hr : v = .retAddr 0
      · simp [hr] at hj
      · simp only [hr, if_false, Option.some.injEq, Prod.mk.injEq] at hj
        obtain ⟨rfl, rfl⟩ := hj
        exact ⟨v, hv, hr, rfl⟩
  · rintro ⟨v, hv, hr, rfl⟩
    refine ⟨i, List.mem_range.mpr (List.getElem?_eq_some_iff.mp hv).1, ?_⟩
    simp only at hv
    rw [hv]
    simp [hr]
def im_L (ad : Nat → Nat) (nL : Nat) (ls : List Value) (lr : Array Slot) : Prop := ls.length = nL ∧ (∀ v ∈ ls, v.category = 1) ∧ lv_has lr nL (im_ll ad ls)
theorem im_L.get {ad : Nat → Nat} {nL : Nat} {ls : List Value} {lr : Array Slot} (h : im_L ad nL ls lr) {k : Nat} {v : Value} (hv : ls[k]? = some v) (hr : v ≠ .retAddr 0) : lr[k]? = some (.val (im_v ad v)) :=
  h.2.2.2.2 (k, im_v ad v) (im_ll_mem.mpr ⟨v, hv, hr, rfl⟩)
theorem im_L.size {ad : Nat → Nat} {nL : Nat} {ls : List Value} {lr : Array Slot} (h : im_L ad nL ls lr) : lr.size = nL := h.2.2.1
/-- behind a store -/
theorem im_L.put {ad : Nat → Nat} {nL : Nat} {ls : List Value} {lr lr' : Array Slot} (h : im_L ad nL ls lr) {k : Nat} {v : Value} (hk : k < ls.length) (hc : v.category = 1)
    (h' : lv_has lr' nL ((k, im_v ad v) :: (im_ll ad ls).filter (fun q => !(q.1 == k) && !(q.1 + 1 == k && q.2.category == 2)))) : im_L ad nL (ls.set k v) lr' := by
  refine ⟨by rw [List.length_set]; exact h.1, fun w hw => ?_, h'.1, h'.2.1, fun q hq => ?_⟩
  · rcases List.mem_or_eq_of_mem_set hw with hw | hw
    · exact h.2.1 w hw
    · rw [hw]; exact hc
  · obtain ⟨w, hw, hr, hq2⟩ := im_ll_mem.mp hq
    refine h'.2.2 q ?_
    by_cases hj : q.1 = k
    · rw [hj, List.getElem?_set_self hk] at hw
      cases hw
      refine List.mem_cons.mpr (Or.inl ?_)
      rw [← hj, ← hq2]
    · rw [List.getElem?_set_ne (fun e => hj e.symm)] at hw
      refine List.mem_cons.mpr (Or.inr (List.mem_filter.mpr ⟨im_ll_mem.mpr ⟨w, hw, hr, hq2⟩, ?_⟩))
      have hc2 : q.2.category = 1 := by rw [hq2, im_v_cat]; exact h.2.1 w (List.mem_of_getElem? hw)
      simp [hj, hc2]
theorem im_L.cat {ad : Nat → Nat} {nL : Nat} {ls : List Value} {lr : Array Slot} (h : im_L ad nL ls lr) {k : Nat} {v : Value} (hv : ls[k]? = some v) : v.category = 1 := h.2.1 v (List.mem_of_getElem? hv)
theorem im_j_spec {pc t : Nat} {off : Int} (h : im_j pc off = some t) : (pc : Int) + off = (t : Int) := by
  unfold im_j at h
  split at h
  · rename_i h0
    cases h
    omega
  · cases h
section PURE
variable {p : Program} {l : Launch} {e : Env} {R : Room} {s : State} {m : MethodId} {args : Array Value} {below : List Frame} {meth : Method} {c : Code} {H : Heap} {locs : List Loc} {cells slots : Nat} {Q : State → Prop}
variable {cc : ByteArray} {pc len nL : Nat} {ad : Nat → Nat} {ls st : List Value} {lr : Array Slot} {r : im_S}
theorem im_cst_ok {L : Nat} {v : Int32} {rest : List Value} (h : im_cst L len pc v ls st = some r) (hL : im_L ad nL ls lr)
    (row : len = L → W p l e R s m args below meth c H locs cells slots Q (F0 m (pc + L) lr (.int v :: st.map (im_v ad))) → W p l e R s m args below meth c H locs cells slots Q (F0 m pc lr (st.map (im_v ad))))
    (kk : ∀ lr', im_L ad nL r.2.1 lr' → W p l e R s m args below meth c H locs cells slots Q (F0 m r.1 lr' (r.2.2.map (im_v ad)))) : W p l e R s m args below meth c H locs cells slots Q (F0 m pc lr (st.map (im_v ad))) := by
  unfold im_cst at h
  split at h
  · rename_i hl
    cases h
    exact row hl (kk lr hL)
  · cases h
theorem im_ldI_ok {L k : Nat} (h : im_ldI L len pc k ls st = some r) (hL : im_L ad nL ls lr)
    (row : ∀ x, len = L → lr[k]? = some (.val (.int x)) → W p l e R s m args below meth c H locs cells slots Q (F0 m (pc + L) lr (.int x :: st.map (im_v ad))) → W p l e R s m args below meth c H locs cells slots Q (F0 m pc lr (st.map (im_v ad))))
    (kk : ∀ lr', im_L ad nL r.2.1 lr' → W p l e R s m args below meth c H locs cells slots Q (F0 m r.1 lr' (r.2.2.map (im_v ad)))) : W p l e R s m args below meth c H locs cells slots Q (F0 m pc lr (st.map (im_v ad))) := by
  unfold im_ldI at h
  split at h
  · rename_i hl
    split at h
    · rename_i x hx
      cases h
      exact row x hl (hL.get hx (by simp)) (kk lr hL)
    · cases h
  · cases h
theorem im_ldA_ok {L k : Nat} (h : im_ldA L len pc k ls st = some r) (hL : im_L ad nL ls lr)
    (row : ∀ x, len = L → lr[k]? = some (.val (.ref x)) → W p l e R s m args below meth c H locs cells slots Q (F0 m (pc + L) lr (.ref x :: st.map (im_v ad))) → W p l e R s m args below meth c H locs cells slots Q (F0 m pc lr (st.map (im_v ad))))
    (kk : ∀ lr', im_L ad nL r.2.1 lr' → W p l e R s m args below meth c H locs cells slots Q (F0 m r.1 lr' (r.2.2.map (im_v ad)))) : W p l e R s m args below meth c H locs cells slots Q (F0 m pc lr (st.map (im_v ad))) := by
  unfold im_ldA at h
  split at h
  · rename_i hl
    split at h
    · rename_i x hx
      cases h
      exact row (ad x) hl (hL.get hx (by simp)) (kk lr hL)
    · cases h
  · cases h
theorem im_stI_ok {L k : Nat} (h : im_stI L len pc k ls st = some r) (hL : im_L ad nL ls lr)
    (row : ∀ x rest, len = L → k < nL → (∀ lr', lv_has lr' nL ((k, .int x) :: (im_ll ad ls).filter (fun q => !(q.1 == k) && !(q.1 + 1 == k && q.2.category == 2))) → W p l e R s m args below meth c H locs cells slots Q (F0 m (pc + L) lr' rest)) → W p l e R s m args below meth c H locs cells slots Q (F0 m pc lr (.int x :: rest)))
    (kk : ∀ lr', im_L ad nL r.2.1 lr' → W p l e R s m args below meth c H locs cells slots Q (F0 m r.1 lr' (r.2.2.map (im_v ad)))) : W p l e R s m args below meth c H locs cells slots Q (F0 m pc lr (st.map (im_v ad))) := by
  unfold im_stI at h
  split at h
  · rename_i hl
    split at h
    · rename_i x rest
      split at h
      · rename_i hk
        cases h
        exact row x _ hl (by rw [← hL.1]; exact hk) fun lr' h' => kk lr' (hL.put hk rfl h')
      · cases h
    · cases h
  · cases h
theorem im_stA_ok {L k : Nat} (h : im_stA L len pc k ls st = some r) (hL : im_L ad nL ls lr)
    (row : ∀ x rest, len = L → k < nL → (∀ lr', lv_has lr' nL ((k, .ref x) :: (im_ll ad ls).filter (fun q => !(q.1 == k) && !(q.1 + 1 == k && q.2.category == 2))) → W p l e R s m args below meth c H locs cells slots Q (F0 m (pc + L) lr' rest)) → W p l e R s m args below meth c H locs cells slots Q (F0 m pc lr (.ref x :: rest)))
    (kk : ∀ lr', im_L ad nL r.2.1 lr' → W p l e R s m args below meth c H locs cells slots Q (F0 m r.1 lr' (r.2.2.map (im_v ad)))) : W p l e R s m args below meth c H locs cells slots Q (F0 m pc lr (st.map (im_v ad))) := by
  unfold im_stA at h
  split at h
  · rename_i hl
    split at h
    · rename_i x rest
      split at h
      · rename_i hk
        cases h
        exact row (ad x) _ hl (by rw [← hL.1]; exact hk) fun lr' h' => kk lr' (hL.put (v := .ref x) hk rfl h')
      · cases h
    · cases h
  · cases h
theorem im_b2_ok {f : Int32 → Int32 → Int32} (h : im_b2 f len pc ls st = some r) (hL : im_L ad nL ls lr)
    (row : ∀ x y rest, len = 1 → W p l e R s m args below meth c H locs cells slots Q (F0 m (pc + 1) lr (.int (f x y) :: rest)) → W p l e R s m args below meth c H locs cells slots Q (F0 m pc lr (.int y :: .int x :: rest)))
    (kk : ∀ lr', im_L ad nL r.2.1 lr' → W p l e R s m args below meth c H locs cells slots Q (F0 m r.1 lr' (r.2.2.map (im_v ad)))) : W p l e R s m args below meth c H locs cells slots Q (F0 m pc lr (st.map (im_v ad))) := by
  unfold im_b2 at h
  split at h
  · rename_i hl
    split at h
    · rename_i y x rest
      cases h
      exact row x y _ hl (kk lr hL)
    · cases h
  · cases h
theorem im_dv_ok {f : Int32 → Int32 → Int32} (h : im_dv f len pc ls st = some r) (hL : im_L ad nL ls lr)
    (row : ∀ x y rest, len = 1 → ¬ y = 0 → W p l e R s m args below meth c H locs cells slots Q (F0 m (pc + 1) lr (.int (f x y) :: rest)) → W p l e R s m args below meth c H locs cells slots Q (F0 m pc lr (.int y :: .int x :: rest)))
    (kk : ∀ lr', im_L ad nL r.2.1 lr' → W p l e R s m args below meth c H locs cells slots Q (F0 m r.1 lr' (r.2.2.map (im_v ad)))) : W p l e R s m args below meth c H locs cells slots Q (F0 m pc lr (st.map (im_v ad))) := by
  unfold im_dv at h
  split at h
  · rename_i hl
    split at h
    · rename_i y x rest
      split at h
      · cases h
      · rename_i hy
        cases h
        exact row x y _ hl hy (kk lr hL)
    · cases h
  · cases h
theorem im_u1_ok {f : Int32 → Value} (h : im_u1 f len pc ls st = some r) (hL : im_L ad nL ls lr) (hf : ∀ x, im_v ad (f x) = f x)
    (row : ∀ x rest, len = 1 → W p l e R s m args below meth c H locs cells slots Q (F0 m (pc + 1) lr (f x :: rest)) → W p l e R s m args below meth c H locs cells slots Q (F0 m pc lr (.int x :: rest)))
    (kk : ∀ lr', im_L ad nL r.2.1 lr' → W p l e R s m args below meth c H locs cells slots Q (F0 m r.1 lr' (r.2.2.map (im_v ad)))) : W p l e R s m args below meth c H locs cells slots Q (F0 m pc lr (st.map (im_v ad))) := by
  unfold im_u1 at h
  split at h
  · rename_i hl
    split at h
    · rename_i x rest
      cases h
      refine row x _ hl ?_
      have := kk lr hL
      simpa only [List.map_cons, hf] using this
    · cases h
  · cases h
theorem im_if_ok {b : Int32 → Bool} {off : Int} (h : im_if b len pc off ls st = some r) (hL : im_L ad nL ls lr)
    (row : ∀ (x : Int32) (t : Nat) (rest : List Value), len = 3 → (pc : Int) + off = (t : Int) → (b x = true → W p l e R s m args below meth c H locs cells slots Q (F0 m t lr rest)) → (¬ b x = true → W p l e R s m args below meth c H locs cells slots Q (F0 m (pc + 3) lr rest)) → W p l e R s m args below meth c H locs cells slots Q (F0 m pc lr (.int x :: rest)))
    (kk : ∀ lr', im_L ad nL r.2.1 lr' → W p l e R s m args below meth c H locs cells slots Q (F0 m r.1 lr' (r.2.2.map (im_v ad)))) : W p l e R s m args below meth c H locs cells slots Q (F0 m pc lr (st.map (im_v ad))) := by
  unfold im_if at h
  split at h
  · rename_i hl
    split at h
    · rename_i x rest
      split at h
      · rename_i t ht
        cases h
        have k1 := kk lr hL
        refine row x t _ hl (im_j_spec ht) (fun hb => ?_) (fun hb => ?_)
        · simpa only [hb, if_true] using k1
        · simpa only [hb, Bool.false_eq_true, if_false] using k1
      · cases h
    · cases h
  · cases h
theorem im_ic_ok {b : Int32 → Int32 → Bool} {off : Int} (h : im_ic b len pc off ls st = some r) (hL : im_L ad nL ls lr)
    (row : ∀ (x y : Int32) (t : Nat) (rest : List Value), len = 3 → (pc : Int) + off = (t : Int) → (b x y = true → W p l e R s m args below meth c H locs cells slots Q (F0 m t lr rest)) → (¬ b x y = true → W p l e R s m args below meth c H locs cells slots Q (F0 m (pc + 3) lr rest)) → W p l e R s m args below meth c H locs cells slots Q (F0 m pc lr (.int y :: .int x :: rest)))
    (kk : ∀ lr', im_L ad nL r.2.1 lr' → W p l e R s m args below meth c H locs cells slots Q (F0 m r.1 lr' (r.2.2.map (im_v ad)))) : W p l e R s m args below meth c H locs cells slots Q (F0 m pc lr (st.map (im_v ad))) := by
  unfold im_ic at h
  split at h
  · rename_i hl
    split at h
    · rename_i y x rest
      split at h
      · rename_i t ht
        cases h
        have k1 := kk lr hL
        refine row x y t _ hl (im_j_spec ht) (fun hb => ?_) (fun hb => ?_)
        · simpa only [hb, if_true] using k1
        · simpa only [hb, Bool.false_eq_true, if_false] using k1
      · cases h
    · cases h
  · cases h
theorem im_inc_ok {k : Nat} {n : Int} (hx : p.tables.exec = Jvm.exec) (hb : c.code = cc) (hdg : decode cc pc = .ok (.iinc k n, len)) (h : im_inc len pc k n ls st = some r) (hL : im_L ad nL ls lr)
    (kk : ∀ lr', im_L ad nL r.2.1 lr' → W p l e R s m args below meth c H locs cells slots Q (F0 m r.1 lr' (r.2.2.map (im_v ad)))) : W p l e R s m args below meth c H locs cells slots Q (F0 m pc lr (st.map (im_v ad))) := by
  unfold im_inc at h
  split at h
  · rename_i hl
    split at h
    · rename_i x hx2
      cases h
      have hk : k < ls.length := (List.getElem?_eq_some_iff.mp hx2).1
      obtain ⟨j, hj⟩ := List.getElem?_of_mem (im_ll_mem (ad := ad) (ls := ls) (q := (k, .int x)) |>.mpr ⟨.int x, hx2, by simp, rfl⟩)
      exact lv_iinc hx hb (by rw [hdg, hl]) hL.2.2 hj rfl (by rw [← hL.1]; exact hk) rfl fun lr' h' => kk lr' (hL.put (v := .int (x + Int32.ofInt n)) hk rfl h')
    · cases h
  · cases h
theorem im_lc_ok (hx : p.tables.exec = Jvm.exec) (hb : c.code = cc) (hdg : decode cc pc = .ok (.lcmp, len)) (h : im_lc len pc ls st = some r) (hL : im_L ad nL ls lr)
    (kk : ∀ lr', im_L ad nL r.2.1 lr' → W p l e R s m args below meth c H locs cells slots Q (F0 m r.1 lr' (r.2.2.map (im_v ad)))) : W p l e R s m args below meth c H locs cells slots Q (F0 m pc lr (st.map (im_v ad))) := by
  unfold im_lc at h
  split at h
  · rename_i hl
    split at h
    · rename_i y x rest
      cases h
      exact W.lcmp hx hb (by rw [hdg, hl]) (kk lr hL)
    · cases h
  · cases h
theorem im_c1_cat {v : Value} (h : im_c1 v = true) : (im_v ad v).category = 1 := by rw [im_v_cat]; simpa [im_c1] using h
theorem im_dup_ok (hx : p.tables.exec = Jvm.exec) (hb : c.code = cc) (hdg : decode cc pc = .ok (.dup, len)) (h : im_dup len pc ls st = some r) (hL : im_L ad nL ls lr)
    (kk : ∀ lr', im_L ad nL r.2.1 lr' → W p l e R s m args below meth c H locs cells slots Q (F0 m r.1 lr' (r.2.2.map (im_v ad)))) : W p l e R s m args below meth c H locs cells slots Q (F0 m pc lr (st.map (im_v ad))) := by
  unfold im_dup at h
  split at h
  · rename_i hl
    split at h
    · rename_i v rest
      split at h
      · rename_i hc
        cases h
        exact lv_dup hx hb (by rw [hdg, hl]) (im_c1_cat hc) (kk lr hL)
      · cases h
    · cases h
  · cases h
theorem im_pop_ok (hx : p.tables.exec = Jvm.exec) (hb : c.code = cc) (hdg : decode cc pc = .ok (.pop, len)) (h : im_pop len pc ls st = some r) (hL : im_L ad nL ls lr)
    (kk : ∀ lr', im_L ad nL r.2.1 lr' → W p l e R s m args below meth c H locs cells slots Q (F0 m r.1 lr' (r.2.2.map (im_v ad)))) : W p l e R s m args below meth c H locs cells slots Q (F0 m pc lr (st.map (im_v ad))) := by
  unfold im_pop at h
  split at h
  · rename_i hl
    split at h
    · rename_i v rest
      split at h
      · rename_i hc
        cases h
        exact lv_pop hx hb (by rw [hdg, hl]) (im_c1_cat hc) (kk lr hL)
      · cases h
    · cases h
  · cases h
theorem im_dup2_ok (hx : p.tables.exec = Jvm.exec) (hb : c.code = cc) (hdg : decode cc pc = .ok (.dup2, len)) (h : im_dup2 len pc ls st = some r) (hL : im_L ad nL ls lr)
    (kk : ∀ lr', im_L ad nL r.2.1 lr' → W p l e R s m args below meth c H locs cells slots Q (F0 m r.1 lr' (r.2.2.map (im_v ad)))) : W p l e R s m args below meth c H locs cells slots Q (F0 m pc lr (st.map (im_v ad))) := by
  unfold im_dup2 at h
  split at h
  · rename_i hl
    split at h
    · rename_i v w rest
      split at h
      · rename_i hc
        cases h
        rw [Bool.and_eq_true] at hc
        exact lv_dup2_11 hx hb (by rw [hdg, hl]) (im_c1_cat hc.1) (im_c1_cat hc.2) (kk lr hL)
      · cases h
    · cases h
  · cases h
theorem im_dupx1_ok (hx : p.tables.exec = Jvm.exec) (hb : c.code = cc) (hdg : decode cc pc = .ok (.dup_x1, len)) (h : im_dupx1 len pc ls st = some r) (hL : im_L ad nL ls lr)
    (kk : ∀ lr', im_L ad nL r.2.1 lr' → W p l e R s m args below meth c H locs cells slots Q (F0 m r.1 lr' (r.2.2.map (im_v ad)))) : W p l e R s m args below meth c H locs cells slots Q (F0 m pc lr (st.map (im_v ad))) := by
  unfold im_dupx1 at h
  split at h
  · rename_i hl
    split at h
    · rename_i v w rest
      split at h
      · rename_i hc
        cases h
        rw [Bool.and_eq_true] at hc
        exact lv_dup_x1 hx hb (by rw [hdg, hl]) (im_c1_cat hc.1) (im_c1_cat hc.2) (kk lr hL)
      · cases h
    · cases h
  · cases h
theorem im_go_ok {off : Int} (hx : p.tables.exec = Jvm.exec) (hb : c.code = cc) (hdg : decode cc pc = .ok (.goto off, len)) (h : im_go len pc off ls st = some r) (hL : im_L ad nL ls lr)
    (kk : ∀ lr', im_L ad nL r.2.1 lr' → W p l e R s m args below meth c H locs cells slots Q (F0 m r.1 lr' (r.2.2.map (im_v ad)))) : W p l e R s m args below meth c H locs cells slots Q (F0 m pc lr (st.map (im_v ad))) := by
  unfold im_go at h
  split at h
  · rename_i hl
    split at h
    · rename_i t ht
      cases h
      exact lv_goto hx hb (by rw [hdg, hl]) (im_j_spec ht) (kk lr hL)
    · cases h
  · cases h
theorem im_ts_ok {dflt lo hi : Int} {offs : Array Int} (hx : p.tables.exec = Jvm.exec) (hb : c.code = cc) (hdg : decode cc pc = .ok (.tableswitch dflt lo hi offs, len)) (h : im_ts pc dflt lo hi offs ls st = some r) (hL : im_L ad nL ls lr)
    (kk : ∀ lr', im_L ad nL r.2.1 lr' → W p l e R s m args below meth c H locs cells slots Q (F0 m r.1 lr' (r.2.2.map (im_v ad)))) : W p l e R s m args below meth c H locs cells slots Q (F0 m pc lr (st.map (im_v ad))) := by
  unfold im_ts at h
  split at h
  · rename_i x rest
    split at h
    · rename_i hout
      split at h
      · rename_i t ht
        cases h
        exact lv_tableOut hx hb hdg hout (im_j_spec ht) (kk lr hL)
      · cases h
    · rename_i hin
      split at h
      · rename_i off ho
        split at h
        · rename_i t ht
          cases h
          exact lv_tableIn hx hb hdg (fun q => hin (Or.inl q)) (fun q => hin (Or.inr q)) ho (im_j_spec ht) (kk lr hL)
        · cases h
      · cases h
  · cases h
theorem im_p_ok (i : Instr) (hx : p.tables.exec = Jvm.exec) (hb : c.code = cc) (hdg : decode cc pc = .ok (i, len)) (h : im_p i len pc ls st = some r) (hL : im_L ad nL ls lr)
    (kk : ∀ lr', im_L ad nL r.2.1 lr' → W p l e R s m args below meth c H locs cells slots Q (F0 m r.1 lr' (r.2.2.map (im_v ad)))) : W p l e R s m args below meth c H locs cells slots Q (F0 m pc lr (st.map (im_v ad))) := by
  cases i with
  | iconst n => exact im_cst_ok (rest := []) h hL (fun hl k => lv_iconst hx hb (by rw [hdg, hl]) rfl k) kk
  | bipush n => exact im_cst_ok (rest := []) h hL (fun hl k => lv_bipush hx hb (by rw [hdg, hl]) rfl k) kk
  | sipush n => exact im_cst_ok (rest := []) h hL (fun hl k => lv_sipush hx hb (by rw [hdg, hl]) rfl k) kk
  | iload_n k => exact im_ldI_ok h hL (fun x hl hg k => lv_iload_n hx hb (by rw [hdg, hl]) rfl hg k) kk
  | iload k => exact im_ldI_ok h hL (fun x hl hg k => lv_iload hx hb (by rw [hdg, hl]) hg k) kk
  | aload_n k => exact im_ldA_ok h hL (fun x hl hg k => lv_aload_n hx hb (by rw [hdg, hl]) rfl hg k) kk
  | aload k => exact im_ldA_ok h hL (fun x hl hg k => lv_aload hx hb (by rw [hdg, hl]) hg k) kk
  | istore_n k => exact im_stI_ok h hL (fun x rest hl hk k => lv_istore_n hx hb (by rw [hdg, hl]) rfl hL.2.2 hk rfl k) kk
  | istore k => exact im_stI_ok h hL (fun x rest hl hk k => lv_istore hx hb (by rw [hdg, hl]) hL.2.2 hk rfl k) kk
  | astore_n k => exact im_stA_ok h hL (fun x rest hl hk k => lv_astore_n hx hb (by rw [hdg, hl]) rfl hL.2.2 hk rfl k) kk
  | astore k => exact im_stA_ok h hL (fun x rest hl hk k => lv_astore hx hb (by rw [hdg, hl]) hL.2.2 hk rfl k) kk
  | iinc k n => exact im_inc_ok hx hb hdg h hL kk
  | iadd => exact im_b2_ok h hL (fun x y rest hl k => lv_iadd hx hb (by rw [hdg, hl]) k) kk
  | isub => exact im_b2_ok h hL (fun x y rest hl k => lv_isub hx hb (by rw [hdg, hl]) k) kk
  | imul => exact im_b2_ok h hL (fun x y rest hl k => lv_imul hx hb (by rw [hdg, hl]) k) kk
  | iand => exact im_b2_ok h hL (fun x y rest hl k => lv_iand hx hb (by rw [hdg, hl]) k) kk
  | ior => exact im_b2_ok h hL (fun x y rest hl k => lv_ior hx hb (by rw [hdg, hl]) k) kk
  | ixor => exact im_b2_ok h hL (fun x y rest hl k => lv_ixor hx hb (by rw [hdg, hl]) k) kk
  | ishl => exact im_b2_ok h hL (fun x y rest hl k => lv_ishl hx hb (by rw [hdg, hl]) k) kk
  | ishr => exact im_b2_ok h hL (fun x y rest hl k => lv_ishr hx hb (by rw [hdg, hl]) k) kk
  | idiv => exact im_dv_ok h hL (fun x y rest hl hy k => lv_idiv hx hb (by rw [hdg, hl]) hy k) kk
  | irem => exact im_dv_ok h hL (fun x y rest hl hy k => lv_irem hx hb (by rw [hdg, hl]) hy k) kk
  | i2c => exact im_u1_ok h hL (fun x => rfl) (fun x rest hl k => lv_i2c hx hb (by rw [hdg, hl]) rfl k) kk
  | i2l => exact im_u1_ok h hL (fun x => rfl) (fun x rest hl k => lv_i2l hx hb (by rw [hdg, hl]) rfl k) kk
  | lcmp => exact im_lc_ok hx hb hdg h hL kk
  | dup => exact im_dup_ok hx hb hdg h hL kk
  | pop => exact im_pop_ok hx hb hdg h hL kk
  | dup2 => exact im_dup2_ok hx hb hdg h hL kk
  | dup_x1 => exact im_dupx1_ok hx hb hdg h hL kk
  | ifCond cond off =>
    cases cond with
    | eq => exact im_if_ok h hL (fun x t rest hl ht k1 k2 => lv_if_eq hx hb (by rw [hdg, hl]) ht (fun q => k1 (decide_eq_true q)) (fun q => k2 (by simpa using q))) kk
    | ne => exact im_if_ok h hL (fun x t rest hl ht k1 k2 => lv_if_ne hx hb (by rw [hdg, hl]) ht (fun q => k1 (decide_eq_true q)) (fun q => k2 (by simpa using q))) kk
    | lt => exact im_if_ok h hL (fun x t rest hl ht k1 k2 => lv_if_lt hx hb (by rw [hdg, hl]) ht (fun q => k1 (decide_eq_true q)) (fun q => k2 (by simpa using q))) kk
    | ge => exact im_if_ok h hL (fun x t rest hl ht k1 k2 => lv_if_ge hx hb (by rw [hdg, hl]) ht (fun q => k1 (decide_eq_true q)) (fun q => k2 (by simpa using q))) kk
    | gt => exact im_if_ok h hL (fun x t rest hl ht k1 k2 => lv_if_gt hx hb (by rw [hdg, hl]) ht (fun q => k1 (decide_eq_true q)) (fun q => k2 (by simpa using q))) kk
    | le => exact im_if_ok h hL (fun x t rest hl ht k1 k2 => lv_if_le hx hb (by rw [hdg, hl]) ht (fun q => k1 (decide_eq_true q)) (fun q => k2 (by simpa using q))) kk
  | if_icmp cond off =>
    cases cond with
    | eq => exact im_ic_ok h hL (fun x y t rest hl ht k1 k2 => lv_icmp_eq hx hb (by rw [hdg, hl]) ht (fun q => k1 (decide_eq_true q)) (fun q => k2 (by simpa using q))) kk
    | ne => exact im_ic_ok h hL (fun x y t rest hl ht k1 k2 => lv_icmp_ne hx hb (by rw [hdg, hl]) ht (fun q => k1 (decide_eq_true q)) (fun q => k2 (by simpa using q))) kk
    | lt => exact im_ic_ok h hL (fun x y t rest hl ht k1 k2 => lv_icmp_lt hx hb (by rw [hdg, hl]) ht (fun q => k1 (decide_eq_true q)) (fun q => k2 (by simpa using q))) kk
    | ge => exact im_ic_ok h hL (fun x y t rest hl ht k1 k2 => lv_icmp_ge hx hb (by rw [hdg, hl]) ht (fun q => k1 (decide_eq_true q)) (fun q => k2 (by simpa using q))) kk
    | gt => exact im_ic_ok h hL (fun x y t rest hl ht k1 k2 => lv_icmp_gt hx hb (by rw [hdg, hl]) ht (fun q => k1 (decide_eq_true q)) (fun q => k2 (by simpa using q))) kk
    | le => exact im_ic_ok h hL (fun x y t rest hl ht k1 k2 => lv_icmp_le hx hb (by rw [hdg, hl]) ht (fun q => k1 (decide_eq_true q)) (fun q => k2 (by simpa using q))) kk
  | goto off => exact im_go_ok hx hb hdg h hL kk
  | tableswitch dflt lo hi offs => exact im_ts_ok hx hb hdg h hL kk
  | _ => exact nomatch (show (none : Option im_S) = some r from h)
end PURE
end
