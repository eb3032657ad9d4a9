section
/-! An abstract machine, first part: instructions that touch the locals and the operand stack alone. A value of the abstract
machine is a Value whose '.ref k' names a place (a number), not an address; in the locals '.retAddr 0' stands for 'not set'. -/
/-- where a jump goes -/
def im_j (pc : Nat) (off : Int) : Option Nat := if 0 ≤ (pc : Int) + off then some ((pc : Int) + off).toNat else none
abbrev im_S : Type := Nat × List Value × List Value
def im_cst (L len pc : Nat) (v : Int32) (ls st : List Value) : Option im_S := if len = L then some (pc + L, ls, .int v :: st) else none
def im_ldI (L len pc k : Nat) (ls st : List Value) : Option im_S := if len = L then (match ls[k]? with | some (.int x) => some (pc + L, ls, .int x :: st) | _ => none) else none
def im_ldA (L len pc k : Nat) (ls st : List Value) : Option im_S := if len = L then (match ls[k]? with | some (.ref x) => some (pc + L, ls, .ref x :: st) | _ => none) else none
def im_stI (L len pc k : Nat) (ls st : List Value) : Option im_S := if len = L then (match st with | .int x :: r => (if k < ls.length then some (pc + L, ls.set k (.int x), r) else none) | _ => none) else none
def im_stA (L len pc k : Nat) (ls st : List Value) : Option im_S := if len = L then (match st with | .ref x :: r => (if k < ls.length then some (pc + L, ls.set k (.ref x), r) else none) | _ => none) else none
def im_inc (len pc k : Nat) (n : Int) (ls st : List Value) : Option im_S := if len = 3 then (match ls[k]? with | some (.int x) => some (pc + 3, ls.set k (.int (x + Int32.ofInt n)), st) | _ => none) else none
def im_b2 (f : Int32 → Int32 → Int32) (len pc : Nat) (ls st : List Value) : Option im_S := if len = 1 then (match st with | .int y :: .int x :: r => some (pc + 1, ls, .int (f x y) :: r) | _ => none) else none
def im_dv (f : Int32 → Int32 → Int32) (len pc : Nat) (ls st : List Value) : Option im_S := if len = 1 then (match st with | .int y :: .int x :: r => (if y = 0 then none else some (pc + 1, ls, .int (f x y) :: r)) | _ => none) else none
def im_u1 (f : Int32 → Value) (len pc : Nat) (ls st : List Value) : Option im_S := if len = 1 then (match st with | .int x :: r => some (pc + 1, ls, f x :: r) | _ => none) else none
def im_lc (len pc : Nat) (ls st : List Value) : Option im_S := if len = 1 then (match st with | .long y :: .long x :: r => some (pc + 1, ls, .int (lg_cmp x y) :: r) | _ => none) else none
def im_if (b : Int32 → Bool) (len pc : Nat) (off : Int) (ls st : List Value) : Option im_S := if len = 3 then (match st with | .int x :: r => (match im_j pc off with | some t => some (if b x then t else pc + 3, ls, r) | none => none) | _ => none) else none
def im_ic (b : Int32 → Int32 → Bool) (len pc : Nat) (off : Int) (ls st : List Value) : Option im_S := if len = 3 then (match st with | .int y :: .int x :: r => (match im_j pc off with | some t => some (if b x y then t else pc + 3, ls, r) | none => none) | _ => none) else none
def im_go (len pc : Nat) (off : Int) (ls st : List Value) : Option im_S := if len = 3 then (match im_j pc off with | some t => some (t, ls, st) | none => none) else none
def im_c1 (v : Value) : Bool := v.category == 1
def im_dup (len pc : Nat) (ls st : List Value) : Option im_S := if len = 1 then (match st with | v :: r => (if im_c1 v then some (pc + 1, ls, v :: v :: r) else none) | _ => none) else none
def im_pop (len pc : Nat) (ls st : List Value) : Option im_S := if len = 1 then (match st with | v :: r => (if im_c1 v then some (pc + 1, ls, r) else none) | _ => none) else none
def im_dup2 (len pc : Nat) (ls st : List Value) : Option im_S := if len = 1 then (match st with | v :: w :: r => (if im_c1 v && im_c1 w then some (pc + 1, ls, v :: w :: v :: w :: r) else none) | _ => none) else none
def im_dupx1 (len pc : Nat) (ls st : List Value) : Option im_S := if len = 1 then (match st with | v :: w :: r => (if im_c1 v && im_c1 w then some (pc + 1, ls, v :: w :: v :: r) else none) | _ => none) else none
def im_ts (pc : Nat) (dflt lo hi : Int) (offs : Array Int) (ls st : List Value) : Option im_S := match st with
  | .int x :: r =>
    if x.toInt < lo ∨ hi < x.toInt then (match im_j pc dflt with | some t => some (t, ls, r) | none => none)
    else (match offs[(x.toInt - lo).toNat]? with | some off => (match im_j pc off with | some t => some (t, ls, r) | none => none) | none => none)
  | _ => none
def im_p (i : Instr) (len pc : Nat) (ls st : List Value) : Option im_S := match i with
  | .iconst n => im_cst 1 len pc (Int32.ofInt n) ls st
  | .bipush n => im_cst 2 len pc (Int8.ofInt n).toInt32 ls st
  | .sipush n => im_cst 3 len pc (Int16.ofInt n).toInt32 ls st
  | .iload_n k => im_ldI 1 len pc k ls st
  | .iload k => im_ldI 2 len pc k ls st
  | .aload_n k => im_ldA 1 len pc k ls st
  | .aload k => im_ldA 2 len pc k ls st
  | .istore_n k => im_stI 1 len pc k ls st
  | .istore k => im_stI 2 len pc k ls st
  | .astore_n k => im_stA 1 len pc k ls st
  | .astore k => im_stA 2 len pc k ls st
  | .iinc k n => im_inc len pc k n ls st
  | .iadd => im_b2 (fun x y => x + y) len pc ls st
  | .isub => im_b2 (fun x y => x - y) len pc ls st
  | .imul => im_b2 (fun x y => x * y) len pc ls st
  | .iand => im_b2 (fun x y => x &&& y) len pc ls st
  | .ior => im_b2 (fun x y => x ||| y) len pc ls st
  | .ixor => im_b2 (fun x y => x ^^^ y) len pc ls st
  | .ishl => im_b2 (fun x y => x <<< (y &&& 31)) len pc ls st
  | .ishr => im_b2 (fun x y => x >>> (y &&& 31)) len pc ls st
  | .idiv => im_dv (fun x y => x / y) len pc ls st
  | .irem => im_dv (fun x y => x - x / y * y) len pc ls st
  | .i2c => im_u1 (fun x => .int (x.toUInt32 % 65536).toInt32) len pc ls st
  | .i2l => im_u1 (fun x => .long x.toInt64) len pc ls st
  | .lcmp => im_lc len pc ls st
  | .dup => im_dup len pc ls st
  | .pop => im_pop len pc ls st
  | .dup2 => im_dup2 len pc ls st
  | .dup_x1 => im_dupx1 len pc ls st
  | .ifCond .eq off => im_if (fun x => x = 0) len pc off ls st
  | .ifCond .ne off => im_if (fun x => ¬ x = 0) len pc off ls st
  | .ifCond .lt off => im_if (fun x => x < 0) len pc off ls st
  | .ifCond .ge off => im_if (fun x => 0 ≤ x) len pc off ls st
  | .ifCond .gt off => im_if (fun x => 0 < x) len pc off ls st
  | .ifCond .le off => im_if (fun x => x ≤ 0) len pc off ls st
  | .if_icmp .eq off => im_ic (fun x y => x = y) len pc off ls st
  | .if_icmp .ne off => im_ic (fun x y => ¬ x = y) len pc off ls st
  | .if_icmp .lt off => im_ic (fun x y => x < y) len pc off ls st
  | .if_icmp .ge off => im_ic (fun x y => y ≤ x) len pc off ls st
  | .if_icmp .gt off => im_ic (fun x y => y < x) len pc off ls st
  | .if_icmp .le off => im_ic (fun x y => x ≤ y) len pc off ls st
  | .goto off => im_go len pc off ls st
  | .tableswitch dflt lo hi offs => im_ts pc dflt lo hi offs ls st
  | _ => none
/-- from places to addresses -/
def im_v (ad : Nat → Nat) : Value → Value
  | .ref k => .ref (ad k)
  | v => v
theorem im_v_cat (ad : Nat → Nat) (v : Value) : (im_v ad v).category = v.category := by cases v <;> rfl
/-- the locals of the frame are those of the abstract machine -/
def im_ll (ad : Nat → Nat) (ls : List Value) : List (Nat × Value) := (List.range ls.length).filterMap fun i => match ls[i]? with
  | some v => if v = .retAddr 0 then none else some (i, im_v ad v)
  | none => none
theorem im_ll_mem {ad : Nat → Nat} {ls : List Value} {q : Nat × Value} : q ∈ im_ll ad ls ↔ ∃ v, ls[q.1]? = some v ∧ v ≠ .retAddr 0 ∧ q.2 = im_v ad v := by
  obtain ⟨i, w⟩ := q
  unfold im_ll
  rw [List.mem_filterMap]
  constructor
  · rintro ⟨j, -, hj⟩
    cases hv : ls[j]? with
    | none => rw [hv] at hj; cases hj
    | some v =>
      rw [hv] at hj
      by_cases hr : v = .retAddr 0
      · simp [hr] at hj
      · simp only [hr, if_false, Option.some.injEq, Prod.mk.injEq] at hj
        obtain ⟨rfl, rfl⟩ := hj
        exact ⟨v, hv, hr, rfl⟩
  · rintro ⟨v, hv, hr, rfl⟩
    refine ⟨i, List.mem_range.mpr (List.getElem?_eq_some_iff.mp hv).1, ?_⟩
    simp only at hv
    rw [hv]
    simp [hr]
def im_L (ad : Nat → Nat) (nL : Nat) (ls : List Value) (lr : Array Slot) : Prop := ls.length = nL ∧ (∀ v ∈ ls, v.category = 1) ∧ lv_has lr nL (im_ll ad ls)
theorem im_L.get {ad : Nat → Nat} {nL : Nat} {ls : List Value} {lr : Array Slot} (h : im_L ad nL ls lr) {k : Nat} {v : Value} (hv : ls[k]? = some v) (hr : v ≠ .retAddr 0) : lr[k]? = some (.val (im_v ad v)) :=
  h.2.2.2.2 (k, im_v ad v) (im_ll_mem.mpr ⟨v, hv, hr, rfl⟩)
theorem im_L.size {ad : Nat → Nat} {nL : Nat} {ls : List Value} {lr : Array Slot} (h : im_L ad nL ls lr) : lr.size = nL := h.2.2.1
/-- behind a store -/
theorem im_L.put {ad : Nat → Nat} {nL : Nat} {ls : List Value} {lr lr' : Array Slot} (h : im_L ad nL ls lr) {k : Nat} {v : Value} (hk : k < ls.length) (hc : v.category = 1)
    (h' : lv_has lr' nL ((k, im_v ad v) :: (im_ll ad ls).filter (fun q => !(q.1 == k) && !(q.1 + 1 == k && q.2.category == 2)))) : im_L ad nL (ls.set k v) lr' := by
  refine ⟨by rw [List.length_set]; exact h.1, fun w hw => ?_, h'.1, h'.2.1, fun q hq => ?_⟩
  · rcases List.mem_or_eq_of_mem_set hw with hw | hw
    · exact h.2.1 w hw
    · rw [hw]; exact hc
  · obtain ⟨w, hw, hr, hq2⟩ := im_ll_mem.mp hq
    refine h'.2.2 q ?_
    by_cases hj : q.1 = k
    · rw [hj, List.getElem?_set_self hk] at hw
      cases hw
      refine List.mem_cons.mpr (Or.inl ?_)
      rw [← hj, ← hq2]
    · rw [List.getElem?_set_ne (fun e => hj e.symm)] at hw
      refine List.mem_cons.mpr (Or.inr (List.mem_filter.mpr ⟨im_ll_mem.mpr ⟨w, hw, hr, hq2⟩, ?_⟩))
      have hc2 : q.2.category = 1 := by rw [hq2, im_v_cat]; exact h.2.1 w (List.mem_of_getElem? hw)
      simp [hj, hc2]
theorem im_L.cat {ad : Nat → Nat} {nL : Nat} {ls : List Value} {lr : Array Slot} (h : im_L ad nL ls lr) {k : Nat} {v : Value} (hv : ls[k]? = some v) : v.category = 1 := h.2.1 v (List.mem_of_getElem? hv)
theorem im_j_spec {pc t : Nat} {off : Int} (h : im_j pc off = some t) : (pc : Int) + off = (t : Int) := by
  unfold im_j at h
  split at h
  · rename_i h0
    cases h
    omega
  · cases h
section PURE
variable {p : Program} {l : Launch} {e : Env} {R : Room} {s : State} {m : MethodId} {args : Array Value} {below : List Frame} {meth : Method} {c : Code} {H : Heap} {locs : List Loc} {cells slots : Nat} {Q : State → Prop}
variable {cc : ByteArray} {pc len nL : Nat} {ad : Nat → Nat} {ls st : List Value} {lr : Array Slot} {r : im_S}
theorem im_cst_ok {L : Nat} {v : Int32} {rest : List Value} (h : im_cst L len pc v ls st = some r) (hL : im_L ad nL ls lr)
    (row : len = L → W p l e R s m args below meth c H locs cells slots Q (F0 m (pc + L) lr (.int v :: st.map (im_v ad))) → W p l e R s m args below meth c H locs cells slots Q (F0 m pc lr (st.map (im_v ad))))
    (kk : ∀ lr', im_L ad nL r.2.1 lr' → W p l e R s m args below meth c H locs cells slots Q (F0 m r.1 lr' (r.2.2.map (im_v ad)))) : W p l e R s m args below meth c H locs cells slots Q (F0 m pc lr (st.map (im_v ad))) := by
  unfold im_cst at h
  split at h
  · rename_i hl
    cases h
    exact row hl (kk lr hL)
  · cases h
theorem im_ldI_ok {L k : Nat} (h : im_ldI L len pc k ls st = some r) (hL : im_L ad nL ls lr)
    (row : ∀ x, len = L → lr[k]? = some (.val (.int x)) → W p l e R s m args below meth c H locs cells slots Q (F0 m (pc + L) lr (.int x :: st.map (im_v ad))) → W p l e R s m args below meth c H locs cells slots Q (F0 m pc lr (st.map (im_v ad))))
    (kk : ∀ lr', im_L ad nL r.2.1 lr' → W p l e R s m args below meth c H locs cells slots Q (F0 m r.1 lr' (r.2.2.map (im_v ad)))) : W p l e R s m args below meth c H locs cells slots Q (F0 m pc lr (st.map (im_v ad))) := by
  unfold im_ldI at h
  split at h
  · rename_i hl
    split at h
    · rename_i x hx
      cases h
      exact row x hl (hL.get hx (by simp)) (kk lr hL)
    · cases h
  · cases h
theorem im_ldA_ok {L k : Nat} (h : im_ldA L len pc k ls st = some r) (hL : im_L ad nL ls lr)
    (row : ∀ x, len = L → lr[k]? = some (.val (.ref x)) → W p l e R s m args below meth c H locs cells slots Q (F0 m (pc + L) lr (.ref x :: st.map (im_v ad))) → W p l e R s m args below meth c H locs cells slots Q (F0 m pc lr (st.map (im_v ad))))
    (kk : ∀ lr', im_L ad nL r.2.1 lr' → W p l e R s m args below meth c H locs cells slots Q (F0 m r.1 lr' (r.2.2.map (im_v ad)))) : W p l e R s m args below meth c H locs cells slots Q (F0 m pc lr (st.map (im_v ad))) := by
  unfold im_ldA at h
  split at h
  · rename_i hl
    split at h
    · rename_i x hx
      cases h
      exact row (ad x) hl (hL.get hx (by simp)) (kk lr hL)
    · cases h
  · cases h
theorem im_stI_ok {L k : Nat} (h : im_stI L len pc k ls st = some r) (hL : im_L ad nL ls lr)
    (row : ∀ x rest, len = L → k < nL → (∀ lr', lv_has lr' nL ((k, .int x) :: (im_ll ad ls).filter (fun q => !(q.1 == k) && !(q.1 + 1 == k && q.2.category == 2))) → W p l e R s m args below meth c H locs cells slots Q (F0 m (pc + L) lr' rest)) → W p l e R s m args below meth c H locs cells slots Q (F0 m pc lr (.int x :: rest)))
    (kk : ∀ lr', im_L ad nL r.2.1 lr' → W p l e R s m args below meth c H locs cells slots Q (F0 m r.1 lr' (r.2.2.map (im_v ad)))) : W p l e R s m args below meth c H locs cells slots Q (F0 m pc lr (st.map (im_v ad))) := by
  unfold im_stI at h
  split at h
  · rename_i hl
    split at h
    · rename_i x rest
      split at h
      · rename_i hk
        cases h
        exact row x _ hl (by rw [← hL.1]; exact hk) fun lr' h' => kk lr' (hL.put hk rfl h')
      · cases h
    · cases h
  · cases h
theorem im_stA_ok {L k : Nat} (h : im_stA L len pc k ls st = some r) (hL : im_L ad nL ls lr)
    (row : ∀ x rest, len = L → k < nL → (∀ lr', lv_has lr' nL ((k, .ref x) :: (im_ll ad ls).filter (fun q => !(q.1 == k) && !(q.1 + 1 == k && q.2.category == 2))) → W p l e R s m args below meth c H locs cells slots Q (F0 m (pc + L) lr' rest)) → W p l e R s m args below meth c H locs cells slots Q (F0 m pc lr (.ref x :: rest)))
    (kk : ∀ lr', im_L ad nL r.2.1 lr' → W p l e R s m args below meth c H locs cells slots Q (F0 m r.1 lr' (r.2.2.map (im_v ad)))) : W p l e R s m args below meth c H locs cells slots Q (F0 m pc lr (st.map (im_v ad))) := by
  unfold im_stA at h
  split at h
  · rename_i hl
    split at h
    · rename_i x rest
      split at h
      · rename_i hk
        cases h
        exact row (ad x) _ hl (by rw [← hL.1]; exact hk) fun lr' h' => kk lr' (hL.put (v := .ref x) hk rfl h')
      · cases h
    · cases h
  · cases h
theorem im_b2_ok {f : Int32 → Int32 → Int32} (h : im_b2 f len pc ls st = some r) (hL : im_L ad nL ls lr)
    (row : ∀ x y rest, len = 1 → W p l e R s m args below meth c H locs cells slots Q (F0 m (pc + 1) lr (.int (f x y) :: rest)) → W p l e R s m args below meth c H locs cells slots Q (F0 m pc lr (.int y :: .int x :: rest)))
    (kk : ∀ lr', im_L ad nL r.2.1 lr' → W p l e R s m args below meth c H locs cells slots Q (F0 m r.1 lr' (r.2.2.map (im_v ad)))) : W p l e R s m args below meth c H locs cells slots Q (F0 m pc lr (st.map (im_v ad))) := by
  unfold im_b2 at h
  split at h
  · rename_i hl
    split at h
    · rename_i y x rest
      cases h
      exact row x y _ hl (kk lr hL)
    · cases h
  · cases h
theorem im_dv_ok {f : Int32 → Int32 → Int32} (h : im_dv f len pc ls st = some r) (hL : im_L ad nL ls lr)
    (row : ∀ x y rest, len = 1 → ¬ y = 0 → W p l e R s m args below meth c H locs cells slots Q (F0 m (pc + 1) lr (.int (f x y) :: rest)) → W p l e R s m args below meth c H locs cells slots Q (F0 m pc lr (.int y :: .int x :: rest)))
    (kk : ∀ lr', im_L ad nL r.2.1 lr' → W p l e R s m args below meth c H locs cells slots Q (F0 m r.1 lr' (r.2.2.map (im_v ad)))) : W p l e R s m args below meth c H locs cells slots Q (F0 m pc lr (st.map (im_v ad))) := by
  unfold im_dv at h
  split at h
  · rename_i hl
    split at h
    · rename_i y x rest
      split at h
      · cases h
      · rename_i hy
        cases h
        exact row x y _ hl hy (kk lr hL)
    · cases h
  · cases h
theorem im_u1_ok {f : Int32 → Value} (h : im_u1 f len pc ls st = some r) (hL : im_L ad nL ls lr) (hf : ∀ x, im_v ad (f x) = f x)
    (row : ∀ x rest, len = 1 → W p l e R s m args below meth c H locs cells slots Q (F0 m (pc + 1) lr (f x :: rest)) → W p l e R s m args below meth c H locs cells slots Q (F0 m pc lr (.int x :: rest)))
    (kk : ∀ lr', im_L ad nL r.2.1 lr' → W p l e R s m args below meth c H locs cells slots Q (F0 m r.1 lr' (r.2.2.map (im_v ad)))) : W p l e R s m args below meth c H locs cells slots Q (F0 m pc lr (st.map (im_v ad))) := by
  unfold im_u1 at h
  split at h
  · rename_i hl
    split at h
    · rename_i x rest
      cases h
      refine row x _ hl ?_
      have := kk lr hL
      simpa only [List.map_cons, hf] using this
    · cases h
  · cases h
theorem im_if_ok {b : Int32 → Bool} {off : Int} (h : im_if b len pc off ls st = some r) (hL : im_L ad nL ls lr)
    (row : ∀ (x : Int32) (t : Nat) (rest : List Value), len = 3 → (pc : Int) + off = (t : Int) → (b x = true → W p l e R s m args below meth c H locs cells slots Q (F0 m t lr rest)) → (¬ b x = true → W p l e R s m args below meth c H locs cells slots Q (F0 m (pc + 3) lr rest)) → W p l e R s m args below meth c H locs cells slots Q (F0 m pc lr (.int x :: rest)))
    (kk : ∀ lr', im_L ad nL r.2.1 lr' → W p l e R s m args below meth c H locs cells slots Q (F0 m r.1 lr' (r.2.2.map (im_v ad)))) : W p l e R s m args below meth c H locs cells slots Q (F0 m pc lr (st.map (im_v ad))) := by
  unfold im_if at h
  split at h
  · rename_i hl
    split at h
    · rename_i x rest
      split at h
      · rename_i t ht
        cases h
        have k1 := kk lr hL
        refine row x t _ hl (im_j_spec ht) (fun hb => ?_) (fun hb => ?_)
        · simpa only [hb, if_true] using k1
        · simpa only [hb, Bool.false_eq_true, if_false] using k1
      · cases h
    · cases h
  · cases h
theorem im_ic_ok {b : Int32 → Int32 → Bool} {off : Int} (h : im_ic b len pc off ls st = some r) (hL : im_L ad nL ls lr)
    (row : ∀ (x y : Int32) (t : Nat) (rest : List Value), len = 3 → (pc : Int) + off = (t : Int) → (b x y = true → W p l e R s m args below meth c H locs cells slots Q (F0 m t lr rest)) → (¬ b x y = true → W p l e R s m args below meth c H locs cells slots Q (F0 m (pc + 3) lr rest)) → W p l e R s m args below meth c H locs cells slots Q (F0 m pc lr (.int y :: .int x :: rest)))
    (kk : ∀ lr', im_L ad nL r.2.1 lr' → W p l e R s m args below meth c H locs cells slots Q (F0 m r.1 lr' (r.2.2.map (im_v ad)))) : W p l e R s m args below meth c H locs cells slots Q (F0 m pc lr (st.map (im_v ad))) := by
  unfold im_ic at h
  split at h
  · rename_i hl
    split at h
    · rename_i y x rest
      split at h
      · rename_i t ht
        cases h
        have k1 := kk lr hL
        refine row x y t _ hl (im_j_spec ht) (fun hb => ?_) (fun hb => ?_)
        · simpa only [hb, if_true] using k1
        · simpa only [hb, Bool.false_eq_true, if_false] using k1
      · cases h
    · cases h
  · cases h
theorem im_inc_ok {k : Nat} {n : Int} (hx : p.tables.exec = Jvm.exec) (hb : c.code = cc) (hdg : decode cc pc = .ok (.iinc k n, len)) (h : im_inc len pc k n ls st = some r) (hL : im_L ad nL ls lr)
    (kk : ∀ lr', im_L ad nL r.2.1 lr' → W p l e R s m args below meth c H locs cells slots Q (F0 m r.1 lr' (r.2.2.map (im_v ad)))) : W p l e R s m args below meth c H locs cells slots Q (F0 m pc lr (st.map (im_v ad))) := by
  unfold im_inc at h
  split at h
  · rename_i hl
    split at h
    · rename_i x hx2
      cases h
      have hk : k < ls.length := (List.getElem?_eq_some_iff.mp hx2).1
      obtain ⟨j, hj⟩ := List.getElem?_of_mem (im_ll_mem (ad := ad) (ls := ls) (q := (k, .int x)) |>.mpr ⟨.int x, hx2, by simp, rfl⟩)
      exact lv_iinc hx hb (by rw [hdg, hl]) hL.2.2 hj rfl (by rw [← hL.1]; exact hk) rfl fun lr' h' => kk lr' (hL.put (v := .int (x + Int32.ofInt n)) hk rfl h')
    · cases h
  · cases h
theorem im_lc_ok (hx : p.tables.exec = Jvm.exec) (hb : c.code = cc) (hdg : decode cc pc = .ok (.lcmp, len)) (h : im_lc len pc ls st = some r) (hL : im_L ad nL ls lr)
    (kk : ∀ lr', im_L ad nL r.2.1 lr' → W p l e R s m args below meth c H locs cells slots Q (F0 m r.1 lr' (r.2.2.map (im_v ad)))) : W p l e R s m args below meth c H locs cells slots Q (F0 m pc lr (st.map (im_v ad))) := by
  unfold im_lc at h
  split at h
  · rename_i hl
    split at h
    · rename_i y x rest
      cases h
      exact W.lcmp hx hb (by rw [hdg, hl]) (kk lr hL)
    · cases h
  · cases h
theorem im_c1_cat {v : Value} (h : im_c1 v = true) : (im_v ad v).category = 1 := by rw [im_v_cat]; simpa [im_c1] using h
theorem im_dup_ok (hx : p.tables.exec = Jvm.exec) (hb : c.code = cc) (hdg : decode cc pc = .ok (.dup, len)) (h : im_dup len pc ls st = some r) (hL : im_L ad nL ls lr)
    (kk : ∀ lr', im_L ad nL r.2.1 lr' → W p l e R s m args below meth c H locs cells slots Q (F0 m r.1 lr' (r.2.2.map (im_v ad)))) : W p l e R s m args below meth c H locs cells slots Q (F0 m pc lr (st.map (im_v ad))) := by
  unfold im_dup at h
  split at h
  · rename_i hl
    split at h
    · rename_i v rest
      split at h
      · rename_i hc
        cases h
        exact lv_dup hx hb (by rw [hdg, hl]) (im_c1_cat hc) (kk lr hL)
      · cases h
    · cases h
  · cases h
theorem im_pop_ok (hx : p.tables.exec = Jvm.exec) (hb : c.code = cc) (hdg : decode cc pc = .ok (.pop, len)) (h : im_pop len pc ls st = some r) (hL : im_L ad nL ls lr)
    (kk : ∀ lr', im_L ad nL r.2.1 lr' → W p l e R s m args below meth c H locs cells slots Q (F0 m r.1 lr' (r.2.2.map (im_v ad)))) : W p l e R s m args below meth c H locs cells slots Q (F0 m pc lr (st.map (im_v ad))) := by
  unfold im_pop at h
  split at h
  · rename_i hl
    split at h
    · rename_i v rest
      split at h
      · rename_i hc
        cases h
        exact lv_pop hx hb (by rw [hdg, hl]) (im_c1_cat hc) (kk lr hL)
      · cases h
    · cases h
  · cases h
theorem im_dup2_ok (hx : p.tables.exec = Jvm.exec) (hb : c.code = cc) (hdg : decode cc pc = .ok (.dup2, len)) (h : im_dup2 len pc ls st = some r) (hL : im_L ad nL ls lr)
    (kk : ∀ lr', im_L ad nL r.2.1 lr' → W p l e R s m args below meth c H locs cells slots Q (F0 m r.1 lr' (r.2.2.map (im_v ad)))) : W p l e R s m args below meth c H locs cells slots Q (F0 m pc lr (st.map (im_v ad))) := by
  unfold im_dup2 at h
  split at h
  · rename_i hl
    split at h
    · rename_i v w rest
      split at h
      · rename_i hc
        cases h
        rw [Bool.and_eq_true] at hc
        exact lv_dup2_11 hx hb (by rw [hdg, hl]) (im_c1_cat hc.1) (im_c1_cat hc.2) (kk lr hL)
      · cases h
    · cases h
  · cases h
theorem im_dupx1_ok (hx : p.tables.exec = Jvm.exec) (hb : c.code = cc) (hdg : decode cc pc = .ok (.dup_x1, len)) (h : im_dupx1 len pc ls st = some r) (hL : im_L ad nL ls lr)
    (kk : ∀ lr', im_L ad nL r.2.1 lr' → W p l e R s m args below meth c H locs cells slots Q (F0 m r.1 lr' (r.2.2.map (im_v ad)))) : W p l e R s m args below meth c H locs cells slots Q (F0 m pc lr (st.map (im_v ad))) := by
  unfold im_dupx1 at h
  split at h
  · rename_i hl
    split at h
    · rename_i v w rest
      split at h
      · rename_i hc
        cases h
        rw [Bool.and_eq_true] at hc
        exact lv_dup_x1 hx hb (by rw [hdg, hl]) (im_c1_cat hc.1) (im_c1_cat hc.2) (kk lr hL)
      · cases h
    · cases h
  · cases h
theorem im_go_ok {off : Int} (hx : p.tables.exec = Jvm.exec) (hb : c.code = cc) (hdg : decode cc pc = .ok (.goto off, len)) (h : im_go len pc off ls st = some r) (hL : im_L ad nL ls lr)
    (kk : ∀ lr', im_L ad nL r.2.1 lr' → W p l e R s m args below meth c H locs cells slots Q (F0 m r.1 lr' (r.2.2.map (im_v ad)))) : W p l e R s m args below meth c H locs cells slots Q (F0 m pc lr (st.map (im_v ad))) := by
  unfold im_go at h
  split at h
  · rename_i hl
    split at h
    · rename_i t ht
      cases h
      exact lv_goto hx hb (by rw [hdg, hl]) (im_j_spec ht) (kk lr hL)
    · cases h
  · cases h
theorem im_ts_ok {dflt lo hi : Int} {offs : Array Int} (hx : p.tables.exec = Jvm.exec) (hb : c.code = cc) (hdg : decode cc pc = .ok (.tableswitch dflt lo hi offs, len)) (h : im_ts pc dflt lo hi offs ls st = some r) (hL : im_L ad nL ls lr)
    (kk : ∀ lr', im_L ad nL r.2.1 lr' → W p l e R s m args below meth c H locs cells slots Q (F0 m r.1 lr' (r.2.2.map (im_v ad)))) : W p l e R s m args below meth c H locs cells slots Q (F0 m pc lr (st.map (im_v ad))) := by
  unfold im_ts at h
  split at h
  · rename_i x rest
    split at h
    · rename_i hout
      split at h
      · rename_i t ht
        cases h
        exact lv_tableOut hx hb hdg hout (im_j_spec ht) (kk lr hL)
      · cases h
    · rename_i hin
      split at h
      · rename_i off ho
        split at h
        · rename_i t ht
          cases h
          exact lv_tableIn hx hb hdg (fun q => hin (Or.inl q)) (fun q => hin (Or.inr q)) ho (im_j_spec ht) (kk lr hL)
        · cases h
      · cases h
  · cases h
theorem im_p_ok (i : Instr) (hx : p.tables.exec = Jvm.exec) (hb : c.code = cc) (hdg : decode cc pc = .ok (i, len)) (h : im_p i len pc ls st = some r) (hL : im_L ad nL ls lr)
    (kk : ∀ lr', im_L ad nL r.2.1 lr' → W p l e R s m args below meth c H locs cells slots Q (F0 m r.1 lr' (r.2.2.map (im_v ad)))) : W p l e R s m args below meth c H locs cells slots Q (F0 m pc lr (st.map (im_v ad))) := by
  cases i with
  | iconst n => exact im_cst_ok (rest := []) h hL (fun hl k => lv_iconst hx hb (by rw [hdg, hl]) rfl k) kk
  | bipush n => exact im_cst_ok (rest := []) h hL (fun hl k => lv_bipush hx hb (by rw [hdg, hl]) rfl k) kk
  | sipush n => exact im_cst_ok (rest := []) h hL (fun hl k => lv_sipush hx hb (by rw [hdg, hl]) rfl k) kk
  | iload_n k => exact im_ldI_ok h hL (fun x hl hg k => lv_iload_n hx hb (by rw [hdg, hl]) rfl hg k) kk
  | iload k => exact im_ldI_ok h hL (fun x hl hg k => lv_iload hx hb (by rw [hdg, hl]) hg k) kk
  | aload_n k => exact im_ldA_ok h hL (fun x hl hg k => lv_aload_n hx hb (by rw [hdg, hl]) rfl hg k) kk
  | aload k => exact im_ldA_ok h hL (fun x hl hg k => lv_aload hx hb (by rw [hdg, hl]) hg k) kk
  | istore_n k => exact im_stI_ok h hL (fun x rest hl hk k => lv_istore_n hx hb (by rw [hdg, hl]) rfl hL.2.2 hk rfl k) kk
  | istore k => exact im_stI_ok h hL (fun x rest hl hk k => lv_istore hx hb (by rw [hdg, hl]) hL.2.2 hk rfl k) kk
  | astore_n k => exact im_stA_ok h hL (fun x rest hl hk k => lv_astore_n hx hb (by rw [hdg, hl]) rfl hL.2.2 hk rfl k) kk
  | astore k => exact im_stA_ok h hL (fun x rest hl hk k => lv_astore hx hb (by rw [hdg, hl]) hL.2.2 hk rfl k) kk
  | iinc k n => exact im_inc_ok hx hb hdg h hL kk
  | iadd => exact im_b2_ok h hL (fun x y rest hl k => lv_iadd hx hb (by rw [hdg, hl]) k) kk
  | isub => exact im_b2_ok h hL (fun x y rest hl k => lv_isub hx hb (by rw [hdg, hl]) k) kk
  | imul => exact im_b2_ok h hL (fun x y rest hl k => lv_imul hx hb (by rw [hdg, hl]) k) kk
  | iand => exact im_b2_ok h hL (fun x y rest hl k => lv_iand hx hb (by rw [hdg, hl]) k) kk
  | ior => exact im_b2_ok h hL (fun x y rest hl k => lv_ior hx hb (by rw [hdg, hl]) k) kk
  | ixor => exact im_b2_ok h hL (fun x y rest hl k => lv_ixor hx hb (by rw [hdg, hl]) k) kk
  | ishl => exact im_b2_ok h hL (fun x y rest hl k => lv_ishl hx hb (by rw [hdg, hl]) k) kk
  | ishr => exact im_b2_ok h hL (fun x y rest hl k => lv_ishr hx hb (by rw [hdg, hl]) k) kk
  | idiv => exact im_dv_ok h hL (fun x y rest hl hy k => lv_idiv hx hb (by rw [hdg, hl]) hy k) kk
  | irem => exact im_dv_ok h hL (fun x y rest hl hy k => lv_irem hx hb (by rw [hdg, hl]) hy k) kk
  | i2c => exact im_u1_ok h hL (fun x => rfl) (fun x rest hl k => lv_i2c hx hb (by rw [hdg, hl]) rfl k) kk
  | i2l => exact im_u1_ok h hL (fun x => rfl) (fun x rest hl k => lv_i2l hx hb (by rw [hdg, hl]) rfl k) kk
  | lcmp => exact im_lc_ok hx hb hdg h hL kk
  | dup => exact im_dup_ok hx hb hdg h hL kk
  | pop => exact im_pop_ok hx hb hdg h hL kk
  | dup2 => exact im_dup2_ok hx hb hdg h hL kk
  | dup_x1 => exact im_dupx1_ok hx hb hdg h hL kk
  | ifCond cond off =>
    cases cond with
    | eq => exact im_if_ok h hL (fun x t rest hl ht k1 k2 => lv_if_eq hx hb (by rw [hdg, hl]) ht (fun q => k1 (decide_eq_true q)) (fun q => k2 (by simpa using q))) kk
    | ne => exact im_if_ok h hL (fun x t rest hl ht k1 k2 => lv_if_ne hx hb (by rw [hdg, hl]) ht (fun q => k1 (decide_eq_true q)) (fun q => k2 (by simpa using q))) kk
    | lt => exact im_if_ok h hL (fun x t rest hl ht k1 k2 => lv_if_lt hx hb (by rw [hdg, hl]) ht (fun q => k1 (decide_eq_true q)) (fun q => k2 (by simpa using q))) kk
    | ge => exact im_if_ok h hL (fun x t rest hl ht k1 k2 => lv_if_ge hx hb (by rw [hdg, hl]) ht (fun q => k1 (decide_eq_true q)) (fun q => k2 (by simpa using q))) kk
    | gt => exact im_if_ok h hL (fun x t rest hl ht k1 k2 => lv_if_gt hx hb (by rw [hdg, hl]) ht (fun q => k1 (decide_eq_true q)) (fun q => k2 (by simpa using q))) kk
    | le => exact im_if_ok h hL (fun x t rest hl ht k1 k2 => lv_if_le hx hb (by rw [hdg, hl]) ht (fun q => k1 (decide_eq_true q)) (fun q => k2 (by simpa using q))) kk
  | if_icmp cond off =>
    cases cond with
    | eq => exact im_ic_ok h hL (fun x y t rest hl ht k1 k2 => lv_icmp_eq hx hb (by rw [hdg, hl]) ht (fun q => k1 (decide_eq_true q)) (fun q => k2 (by simpa using q))) kk
    | ne => exact im_ic_ok h hL (fun x y t rest hl ht k1 k2 => lv_icmp_ne hx hb (by rw [hdg, hl]) ht (fun q => k1 (decide_eq_true q)) (fun q => k2 (by simpa using q))) kk
    | lt => exact im_ic_ok h hL (fun x y t rest hl ht k1 k2 => lv_icmp_lt hx hb (by rw [hdg, hl]) ht (fun q => k1 (decide_eq_true q)) (fun q => k2 (by simpa using q))) kk
    | ge => exact im_ic_ok h hL (fun x y t rest hl ht k1 k2 => lv_icmp_ge hx hb (by rw [hdg, hl]) ht (fun q => k1 (decide_eq_true q)) (fun q => k2 (by simpa using q))) kk
    | gt => exact im_ic_ok h hL (fun x y t rest hl ht k1 k2 => lv_icmp_gt hx hb (by rw [hdg, hl]) ht (fun q => k1 (decide_eq_true q)) (fun q => k2 (by simpa using q))) kk
    | le => exact im_ic_ok h hL (fun x y t rest hl ht k1 k2 => lv_icmp_le hx hb (by rw [hdg, hl]) ht (fun q => k1 (decide_eq_true q)) (fun q => k2 (by simpa using q))) kk
  | goto off => exact im_go_ok hx hb hdg h hL kk
  | tableswitch dflt lo hi offs => exact im_ts_ok hx hb hdg h hL kk
  | _ => exact nomatch (show (none : Option im_S) = some r from h)
end PURE
end
section
/-! The abstract machine, second part: the memory. A memory: how many places there are (own ones from 8 on), how many cells
were made that no place names (exceptions), how many slots were used; of each place its kind and length; its contents.
A kind below 30 is a class's number; from 30 on it is an array's. -/
abbrev im_M : Type := (Nat × Nat × Nat) × (Nat → Nat × Nat) × (Nat → Nat → Value)
def im_set (M : im_M) (k j : Nat) (v : Value) : im_M := (M.1, M.2.1, va_up M.2.2 k (va_up (M.2.2 k) j v))
def im_new (M : im_M) (kd len sl : Nat) (f : Nat → Value) : im_M := ((M.1.1 + 1, M.1.2.1, M.1.2.2 + sl), va_up M.2.1 M.1.1 (kd, len), va_up M.2.2 M.1.1 f)
def im_dead (M : im_M) (n sl : Nat) : im_M := ((M.1.1, M.1.2.1 + n, M.1.2.2 + sl), M.2)
/-- cells made in all -/
def im_tot (M : im_M) : Nat := M.1.1 + M.1.2.1
/-- addresses: eight places are given, the others lie one behind another -/
def im_ad (base : Nat) (sp : Nat → Nat) (k : Nat) : Nat := if k < 8 then sp k else base + (k - 8)
/-- what is known of the tables: numbers of classes and slots (D), of array classes (E); (element types: at) -/
def im_K (cl : List vw_C) (aty : Nat → Option FieldType) (D : va_G) (E : Nat → ClassId) (U : State) : Prop :=
  (∀ (c : Nat) (q : vw_C), cl[c]? = some q → u_Kn U q.1 q.2.1 q.2.2 (D.1 c) (D.2 c)) ∧
  ∀ (kd : Nat) (ty : FieldType), aty kd = some ty → ∃ (kA : Class) (comp : ClassId), U.vm.classes[E kd]? = some kA ∧ kA.kind = .array comp ty ∧
    (kd ≠ 39 → U.vm.findClass ("[" ++ ty.toString) = some (E kd)) ∧ (∀ C, ty = .object C → U.vm.findClass C = some comp) ∧ (∀ t, ty = .array t → U.vm.findClass (FieldType.array t).toString = some comp)
theorem im_K.moved {cl : List vw_C} {aty : Nat → Option FieldType} {D : va_G} {E : Nat → ClassId} {u U : State} (hvm : u.vm.Alike U.vm) (h : im_K cl aty D E u) : im_K cl aty D E U := by
  refine ⟨fun c q hq => u_Kn_moved hvm (h.1 c q hq), fun kd ty hty => ?_⟩
  obtain ⟨kA, comp, h1, h2, h3, h4, h5⟩ := h.2 kd ty hty
  obtain ⟨k', hk', he⟩ := hvm.2.2 _ _ h1
  exact ⟨k', comp, hk', by rw [he]; exact h2, fun hk => by rw [hvm.findClass]; exact h3 hk, fun C hC => by rw [hvm.findClass]; exact h4 C hC, fun t ht => by rw [hvm.findClass]; exact h5 t ht⟩
/-- a cell is what a place says -/
def im_cell (nf : Nat → Nat) (D : va_G) (E : Nat → ClassId) (ad : Nat → Nat) (sh : Nat × Nat) (f : Nat → Value) (cell : Cell) : Prop :=
  if sh.1 < 30 then cell.cls = D.1 sh.1 ∧ cell.vm = .none ∧ ∀ j, j < nf sh.1 → cell.slots[D.2 sh.1 j]? = some (im_v ad (f j))
  else cell.cls = E sh.1 ∧ cell.vm ≠ .unknown ∧ (∀ q, cell.vm ≠ .statics q) ∧ cell.slots.size = sh.2 ∧ ∀ j, j < sh.2 → cell.slots[j]? = some (im_v ad (f j))
/-- the heap holds the memory -/
def im_R (nf : Nat → Nat) (D : va_G) (E : Nat → ClassId) (base : Nat) (sp : Nat → Nat) (H0 : Heap) (M : im_M) (H : Heap) : Prop :=
  8 ≤ M.1.1 ∧ H.size + 8 = base + im_tot M ∧ (∀ q, q < base → H[q]? = H0[q]?) ∧ (∀ k, k < 8 → sp k < base) ∧ (∀ (q : Nat) (cell : Cell), base ≤ q → H[q]? = some cell → cell.vm.isStatics = false) ∧
  ∀ k, k < M.1.1 → (8 ≤ k ∨ 30 ≤ (M.2.1 k).1) → ∃ cell, H[im_ad base sp k]? = some cell ∧ im_cell nf D E (im_ad base sp) (M.2.1 k) (M.2.2 k) cell
section REP
variable {nf : Nat → Nat} {D : va_G} {E : Nat → ClassId} {base : Nat} {sp : Nat → Nat} {H0 H H' : Heap} {M : im_M} {k : Nat}
theorem im_ad_own (h : 8 ≤ k) : im_ad base sp k = base + (k - 8) := by simp [im_ad, Nat.not_lt.mpr h]
theorem im_ad_ne {j : Nat} (hs : ∀ k, k < 8 → sp k < base) (h : 8 ≤ k) (hj : j ≠ k) : im_ad base sp j ≠ im_ad base sp k := by
  rw [im_ad_own h]
  unfold im_ad
  split
  · rename_i h8
    have := hs j h8
    omega
  · omega
theorem im_R.at (h : im_R nf D E base sp H0 M H) (hk : k < M.1.1) (h8 : 8 ≤ k ∨ 30 ≤ (M.2.1 k).1) : ∃ cell, H[im_ad base sp k]? = some cell ∧ im_cell nf D E (im_ad base sp) (M.2.1 k) (M.2.2 k) cell := h.2.2.2.2.2 k hk h8
theorem im_cell.ns {ad : Nat → Nat} {sh : Nat × Nat} {f : Nat → Value} {cell : Cell} (h : im_cell nf D E ad sh f cell) : cell.vm.isStatics = false := by
  unfold im_cell at h
  split at h
  · rw [h.2.1]; rfl
  · have h3 := h.2.2.1
    cases hv : cell.vm with
    | statics q => exact absurd hv (h3 q)
    | _ => rfl
theorem im_R.set (h : im_R nf D E base sp H0 M H) (hk : k < M.1.1) (h8 : 8 ≤ k) {j : Nat} {v : Value} {cell : Cell} (hc : H'[im_ad base sp k]? = some cell) (hz : H'.size = H.size) (ho : ∀ q, q ≠ im_ad base sp k → H'[q]? = H[q]?)
    (hcell : im_cell nf D E (im_ad base sp) (M.2.1 k) (va_up (M.2.2 k) j v) cell) : im_R nf D E base sp H0 (im_set M k j v) H' := by
  obtain ⟨h1, h2, h3, h4, h6, h5⟩ := h
  refine ⟨h1, by rw [hz]; exact h2, fun q hq => ?_, h4, fun q c9 hq hc9 => ?_, fun i hi h9 => ?_⟩
  · rw [ho q (by rw [im_ad_own h8]; omega)]
    exact h3 q hq
  · by_cases eq : q = im_ad base sp k
    · subst eq
      cases hc.symm.trans hc9
      exact hcell.ns
    · rw [ho q eq] at hc9
      exact h6 q c9 hq hc9
  · by_cases e : i = k
    · subst e
      exact ⟨cell, hc, by simpa [im_set, va_up_self] using hcell⟩
    · obtain ⟨c', g1, g2⟩ := h5 i hi h9
      exact ⟨c', by rw [ho _ (im_ad_ne h4 h8 e)]; exact g1, by simpa [im_set, va_up_ne _ _ e] using g2⟩
theorem im_R.new (h : im_R nf D E base sp H0 M H) (hg : M.1.2.1 = 0) {kd len sl : Nat} {f : Nat → Value} {cell : Cell} (hc : H'[H.size]? = some cell) (hz : H'.size = H.size + 1) (ho : ∀ q, q < H.size → H'[q]? = H[q]?)
    (hcell : im_cell nf D E (im_ad base sp) (kd, len) f cell) : im_R nf D E base sp H0 (im_new M kd len sl f) H' ∧ im_ad base sp M.1.1 = H.size := by
  obtain ⟨h1, h2, h3, h4, h6, h5⟩ := h
  unfold im_tot at h2
  have had : im_ad base sp M.1.1 = H.size := by rw [im_ad_own h1]; omega
  refine ⟨⟨Nat.le_succ_of_le h1, by simp only [im_new, im_tot]; omega, fun q hq => ?_, h4, fun q c9 hq hc9 => ?_, fun i hi h9 => ?_⟩, had⟩
  · rw [ho q (by omega)]
    exact h3 q hq
  · have hlt : q < H'.size := (Array.getElem?_eq_some_iff.mp hc9).1
    by_cases eq : q = H.size
    · subst eq
      cases hc.symm.trans hc9
      exact hcell.ns
    · rw [ho q (by omega)] at hc9
      exact h6 q c9 hq hc9
  · by_cases e : i = M.1.1
    · subst e
      exact ⟨cell, by rw [had]; exact hc, by simpa [im_new, va_up_self] using hcell⟩
    · have hi' : i < M.1.1 := by have : i < M.1.1 + 1 := hi; omega
      have h9' : 8 ≤ i ∨ 30 ≤ (M.2.1 i).1 := by simpa [im_new, va_up_ne _ _ e] using h9
      obtain ⟨c', g1, g2⟩ := h5 i hi' h9'
      exact ⟨c', by rw [ho _ (Array.getElem?_eq_some_iff.mp g1).1]; exact g1, by simpa [im_new, va_up_ne _ _ e] using g2⟩
theorem im_R.dead (h : im_R nf D E base sp H0 M H) {n sl : Nat} (hz : H'.size = H.size + n) (ho : ∀ q, q < H.size → H'[q]? = H[q]?) (hns : ∀ (q : Nat) (cell : Cell), H.size ≤ q → H'[q]? = some cell → cell.vm.isStatics = false) : im_R nf D E base sp H0 (im_dead M n sl) H' := by
  obtain ⟨h1, h2, h3, h4, h6, h5⟩ := h
  refine ⟨h1, ?_, fun q hq => ?_, h4, fun q c9 hq hc9 => ?_, fun i hi h9 => ?_⟩
  · unfold im_tot at h2
    simp only [im_dead, im_tot]; omega
  · rw [ho q (by unfold im_tot at h2; omega)]
    exact h3 q hq
  · rcases Nat.lt_or_ge q H.size with hl | hl
    · rw [ho q hl] at hc9
      exact h6 q c9 hq hc9
    · exact hns q c9 hl hc9
  · obtain ⟨c', g1, g2⟩ := h5 i hi h9
    exact ⟨c', by rw [ho _ (Array.getElem?_eq_some_iff.mp g1).1]; exact g1, g2⟩
theorem im_cell.obj {ad : Nat → Nat} {sh : Nat × Nat} {f : Nat → Value} {cell : Cell} (h : im_cell nf D E ad sh f cell) (hk : sh.1 < 30) : cell.cls = D.1 sh.1 ∧ cell.vm = .none ∧ ∀ j, j < nf sh.1 → cell.slots[D.2 sh.1 j]? = some (im_v ad (f j)) := by
  unfold im_cell at h
  rwa [if_pos hk] at h
theorem im_cell.arr {ad : Nat → Nat} {sh : Nat × Nat} {f : Nat → Value} {cell : Cell} (h : im_cell nf D E ad sh f cell) (hk : 30 ≤ sh.1) : cell.cls = E sh.1 ∧ cell.vm ≠ .unknown ∧ (∀ q, cell.vm ≠ .statics q) ∧ cell.slots.size = sh.2 ∧ ∀ j, j < sh.2 → cell.slots[j]? = some (im_v ad (f j)) := by
  unfold im_cell at h
  rwa [if_neg (Nat.not_lt.mpr hk)] at h
/-- an array's slot is stored -/
theorem im_cell.put {ad : Nat → Nat} {sh : Nat × Nat} {f : Nat → Value} {cell : Cell} (h : im_cell nf D E ad sh f cell) (hk : 30 ≤ sh.1) {j : Nat} (hj : j < sh.2) (v : Value) : im_cell nf D E ad sh (va_up f j v) (cell.setSlot j (im_v ad v)) := by
  obtain ⟨h1, h2, h3, h4, h5⟩ := h.arr hk
  unfold im_cell
  rw [if_neg (Nat.not_lt.mpr hk)]
  refine ⟨h1, h2, h3, by rw [← h4]; simp [Cell.setSlot], fun i hi => ?_⟩
  by_cases e : i = j
  · subst e
    rw [va_up_self, Cell.slots_setSlot_self _ (by rw [h4]; exact hj)]
  · rw [va_up_ne _ _ e, slot_ne _ _ (fun q => e q.symm)]
    exact h5 i hi
end REP
section AROWS
variable {p : Program} {l : Launch} {e : Env} {R : Room} {s : State} {m : MethodId} {args : Array Value} {below : List Frame} {meth : Method} {c : Code} {H : Heap} {locs : List Loc} {cells slots : Nat} {Q : State → Prop}
variable {cc : ByteArray} {pc nL : Nat} {ls st : List Value} {lr : Array Slot}
variable {cl : List vw_C} {aty : Nat → Option FieldType} {nf : Nat → Nat} {D : va_G} {E : Nat → ClassId} {base : Nat} {sp : Nat → Nat} {H0 : Heap} {M : im_M}
theorem im_isarr (hK : im_K cl aty D E s) {kd : Nat} {ty : FieldType} (ht : aty kd = some ty) {cell : Cell} (h1 : cell.cls = E kd) (h3 : ∀ q, cell.vm ≠ .statics q) : s.isArrayOf cell ty := by
  obtain ⟨kA, comp, g1, g2, -⟩ := hK.2 kd ty ht
  exact ⟨h3, kA, by rw [h1]; exact g1, comp, g2⟩
/-- an element is read -/
def im_al (aty : Nat → Option FieldType) (ty : FieldType) (len pc : Nat) (st : List Value) (M : im_M) : Option (List Value) := if len = 1 then (match st with
  | .int j :: .ref k :: r => if k < M.1.1 ∧ 30 ≤ (M.2.1 k).1 ∧ aty (M.2.1 k).1 = some ty ∧ ¬ (j < 0 ∨ (M.2.1 k).2 ≤ j.toNatClampNeg) then some (M.2.2 k j.toNatClampNeg :: r) else none
  | _ => none) else none
theorem im_al_ok {ty : FieldType} {len : Nat} {st' : List Value} (hK : im_K cl aty D E s) (hR : im_R nf D E base sp H0 M H) (h : im_al aty ty len pc st M = some st')
    (row : ∀ (a : Nat) (j : Int32) (cell : Cell) (v : Value) (rest : List Value), len = 1 → H[a]? = some cell → s.isArrayOf cell ty → cell.vm ≠ .unknown → ¬ (j < 0 ∨ cell.slots.size ≤ j.toNatClampNeg) → cell.slots[j.toNatClampNeg]? = some v →
      W p l e R s m args below meth c H locs cells slots Q (F0 m (pc + 1) lr (v :: rest)) → W p l e R s m args below meth c H locs cells slots Q (F0 m pc lr (.int j :: .ref a :: rest)))
    (kk : W p l e R s m args below meth c H locs cells slots Q (F0 m (pc + 1) lr (st'.map (im_v (im_ad base sp))))) : W p l e R s m args below meth c H locs cells slots Q (F0 m pc lr (st.map (im_v (im_ad base sp)))) := by
  unfold im_al at h
  split at h
  · rename_i hl
    split at h
    · rename_i j k r
      split at h
      · rename_i hc
        obtain ⟨hk, h30, ht, hin⟩ := hc
        cases h
        obtain ⟨cell, g1, g2⟩ := hR.at hk (Or.inr h30)
        obtain ⟨a1, a2, a3, a4, a5⟩ := g2.arr h30
        exact row _ j cell _ _ hl g1 (im_isarr hK ht a1 a3) a2 (by rw [a4]; exact hin) (a5 _ (Nat.not_le.mp fun q => hin (Or.inr q))) kk
      · cases h
    · cases h
  · cases h
/-- an element is written: v is what is laid there -/
def im_as (aty : Nat → Option FieldType) (ty : FieldType) (len : Nat) (j : Int32) (k : Nat) (v : Value) (M : im_M) : Option im_M :=
  if len = 1 ∧ 8 ≤ k ∧ k < M.1.1 ∧ 30 ≤ (M.2.1 k).1 ∧ aty (M.2.1 k).1 = some ty ∧ ¬ (j < 0 ∨ (M.2.1 k).2 ≤ j.toNatClampNeg) then some (im_set M k j.toNatClampNeg v) else none
theorem im_as_ok {ty : FieldType} {len : Nat} {j : Int32} {k : Nat} {v w : Value} {M' : im_M} {st0 rest : List Value} (hK : im_K cl aty D E s) (hR : im_R nf D E base sp H0 M H) (hlo : ∀ q ∈ locs, base ≤ q.base) (h : im_as aty ty len j k v M = some M') (hw : im_v (im_ad base sp) v = w)
    (row : ∀ (cell : Cell), len = 1 → H[im_ad base sp k]? = some cell → s.isArrayOf cell ty → cell.cls = E (M.2.1 k).1 → cell.vm ≠ .unknown → ¬ (j < 0 ∨ cell.slots.size ≤ j.toNatClampNeg) →
      (∀ H' : Heap, H'[im_ad base sp k]? = some (cell.setSlot j.toNatClampNeg w) → H'.size = H.size → (∀ q, q ≠ im_ad base sp k → H'[q]? = H[q]?) → W p l e R s m args below meth c H' (locs ++ [⟨im_ad base sp k, j.toNatClampNeg⟩]) cells slots Q (F0 m (pc + 1) lr rest)) →
      W p l e R s m args below meth c H locs cells slots Q (F0 m pc lr st0))
    (kk : ∀ (H' : Heap) (locs' : List Loc), im_R nf D E base sp H0 M' H' → (∀ q ∈ locs', base ≤ q.base) → W p l e R s m args below meth c H' locs' cells slots Q (F0 m (pc + 1) lr rest)) : W p l e R s m args below meth c H locs cells slots Q (F0 m pc lr st0) := by
  unfold im_as at h
  split at h
  · rename_i hc
    obtain ⟨hl, h8, hk, h30, ht, hin⟩ := hc
    cases h
    obtain ⟨cell, g1, g2⟩ := hR.at hk (Or.inr h30)
    obtain ⟨a1, a2, a3, a4, a5⟩ := g2.arr h30
    refine row cell hl g1 (im_isarr hK ht a1 a3) a1 a2 (by rw [a4]; exact hin) fun H' e1 e2 e3 => kk H' _ (hR.set hk h8 e1 e2 e3 ?_) (t_lc (free := fun a => base ≤ a) hlo (by rw [im_ad_own h8]; exact Nat.le_add_right _ _))
    rw [← hw]
    exact g2.put h30 (Nat.not_le.mp fun q => hin (Or.inr q)) v
  · cases h
theorem im_as_tot {ty : FieldType} {len : Nat} {j : Int32} {k : Nat} {v : Value} {M' : im_M} (h : im_as aty ty len j k v M = some M') : im_tot M' = im_tot M := by
  unfold im_as at h
  split at h
  · cases h; rfl
  · cases h
theorem im_as_z {ty : FieldType} {len : Nat} {j : Int32} {k : Nat} {v : Value} {M' : im_M} (h : im_as aty ty len j k v M = some M') : M'.1.2.2 = M.1.2.2 := by
  unfold im_as at h
  split at h
  · cases h; rfl
  · cases h
end AROWS
end
section
/-! The abstract machine, third part: fields, making of objects and arrays (rows, with what the tables say as hypotheses). -/
section FROWS
variable {p : Program} {l : Launch} {e : Env} {R : Room} {s : State} {m : MethodId} {args : Array Value} {below : List Frame} {meth : Method} {c : Code} {H : Heap} {locs : List Loc} {cells slots : Nat} {Q : State → Prop}
variable {cc : ByteArray} {pc nL : Nat} {lr : Array Slot} {rest : List Value}
variable {cl : List vw_C} {aty : Nat → Option FieldType} {nf : Nat → Nat} {D : va_G} {E : Nat → ClassId} {base : Nat} {sp : Nat → Nat} {H0 : Heap} {M : im_M}
/-- the words of a field: how its class lays it, how the method's class names it -/
abbrev im_lay (C : String) (T : u_T) (k : Nat) : Cond := u_lay C T k
abbrev im_lk (own : String) (index : Nat) (C : String) (T : u_T) (k : Nat) (host : Option String) : Cond := match host with
  | none => .fieldLink own index C (T k).2.1 (T k).2.2.1
  | some h => .fieldLinkNest own index C (T k).2.1 (T k).2.2.1 h
theorem im_lays {C : String} {T : u_T} {k : Nat} (h : (u_lay C T k).before args s = true) : (Cond.lays C (T k).1 (T k).2.1 (T k).2.2.1).before args s = true ∨ (Cond.laysFinal C (T k).1 (T k).2.1 (T k).2.2.1).before args s = true := by
  unfold u_lay at h
  split at h
  · exact Or.inr h
  · exact Or.inl h
theorem im_get_row (hx : p.tables.exec = Jvm.exec) (hb : c.code = cc) {own C : String} {T : u_T} {N ci index k a : Nat} {host : Option String} {f : Nat → Value} (hKn : u_Kn s C T N (D.1 ci) (D.2 ci)) (hk : k < N) (hlay : (u_lay C T k).before args s = true) (hown : s.vm.findClass own = some m.cls)
    (hlink : (im_lk own index C T k host).before args s = true) (hdecl : (T k).1 = C) {cell : Cell} (hcell : H[a]? = some cell) (ho : cell.cls = D.1 ci ∧ cell.vm = .none ∧ ∀ j, j < N → cell.slots[D.2 ci j]? = some (im_v (im_ad base sp) (f j))) (hdg : decode cc pc = .ok (.getfield index, 3))
    (kk : W p l e R s m args below meth c H locs cells slots Q (F0 m (pc + 3) lr (im_v (im_ad base sp) (f k) :: rest))) : W p l e R s m args below meth c H locs cells slots Q (F0 m pc lr (.ref a :: rest)) := by
  obtain ⟨hS, hfc, kC, hkC, hkind⟩ := hKn
  obtain ⟨cf, kf, fi, fd, hi, hsl⟩ := hS k hk
  have hst := (u_facts hfc hkC (im_lays hlay) hi).1
  rw [hdecl] at hi
  have hv : cell.slots[fd.slot]? = some (im_v (im_ad base sp) (f k)) := by rw [hsl]; exact ho.2.2 k hk
  cases host with
  | none => exact W.getf hx hb hown hlink hi hst hcell (by rw [ho.2.1]; exact fun h => by cases h) hv rfl rfl hdg kk
  | some h => exact va_Wgetf hx hb hown hlink hi hst hcell (by rw [ho.2.1]; exact fun h => by cases h) hv rfl rfl hdg kk
/-- fields of a class lie apart -/
theorem im_apart {C : String} {T : u_T} {N ci : Nat} (hKn : u_Kn s C T N (D.1 ci) (D.2 ci)) (hlay : ∀ k, k < N → (u_lay C T k).before args s = true) (ty : Nat → FieldType) (hty : ∀ k, k < N → parseFieldDescriptor (T k).2.2.1 = some (ty k)) (hnm : ∀ a, a < N → ∀ b, b < N → a ≠ b → (T a).2.1 ≠ (T b).2.1) : ∀ x y, x < N → y < N → x ≠ y → (D.2 ci) x ≠ (D.2 ci) y := by
  intro x y hx hy hne
  obtain ⟨hS, -⟩ := hKn
  obtain ⟨_, _, _, fa, hia, ea⟩ := hS x hx
  obtain ⟨_, _, _, fb, hib, eb⟩ := hS y hy
  rw [← ea, ← eb]
  refine u_apart (im_lays (hlay x hx)) (im_lays (hlay y hy)) hia hib ?_
  rw [(State.fieldFound?_type hia (hty x hx)).1, (State.fieldFound?_type hib (hty y hy)).1]
  exact hnm x hx y hy hne
theorem im_put_row (hx : p.tables.exec = Jvm.exec) (hb : c.code = cc) {own C : String} {T : u_T} {N ci index k a : Nat} {host : Option String} {f : Nat → Value} (hKn : u_Kn s C T N (D.1 ci) (D.2 ci)) (hk : k < N) (hlay : ∀ k, k < N → (u_lay C T k).before args s = true)
    (ty : Nat → FieldType) (hty : ∀ k, k < N → parseFieldDescriptor (T k).2.2.1 = some (ty k)) (hnm : ∀ a, a < N → ∀ b, b < N → a ≠ b → (T a).2.1 ≠ (T b).2.1) (hown : s.vm.findClass own = some m.cls)
    (hlink : (im_lk own index C T k host).before args s = true) (hdecl : (T k).1 = C) (hfin : (T k).2.2.2 = false ∨ (host = none ∧ own = C ∧ meth.name = "<init>")) {cell : Cell} (hcell : H[a]? = some cell) (ho : cell.cls = D.1 ci ∧ cell.vm = .none ∧ ∀ j, j < N → cell.slots[D.2 ci j]? = some (im_v (im_ad base sp) (f j)))
    {v : Value} (hn : narrow (ty k) (im_v (im_ad base sp) v) = im_v (im_ad base sp) v) (hfit : fits (ty k) (im_v (im_ad base sp) v) = true) (hdg : decode cc pc = .ok (.putfield index, 3))
    (kk : ∀ (H' : Heap) (slot : Nat) (cell' : Cell), H'[a]? = some cell' → H'.size = H.size → (∀ q, q ≠ a → H'[q]? = H[q]?) → (cell'.cls = D.1 ci ∧ cell'.vm = .none ∧ ∀ j, j < N → cell'.slots[D.2 ci j]? = some (im_v (im_ad base sp) (va_up f k v j))) →
      W p l e R s m args below meth c H' (locs ++ [⟨a, slot⟩]) cells slots Q (F0 m (pc + 3) lr rest)) : W p l e R s m args below meth c H locs cells slots Q (F0 m pc lr (im_v (im_ad base sp) v :: .ref a :: rest)) := by
  have hap := im_apart hKn hlay ty hty hnm
  obtain ⟨hS, hfc, kC, hkC, hkind⟩ := hKn
  obtain ⟨cf, kf, fi, fd, hi, hsl⟩ := hS k hk
  obtain ⟨o1, o2, o3⟩ := ho
  have hst := (u_facts hfc hkC (im_lays (hlay k hk)) hi).1
  have hfits := u_fits hfc hkC hkind (im_lays (hlay k hk)) hi (hty k hk) hn hfit
  have hlt : fd.slot < cell.slots.size := by rw [hsl]; exact k2_hasslot (o3 k hk)
  have hnew : ∀ j, j < N → (cell.setSlot fd.slot (im_v (im_ad base sp) v)).slots[D.2 ci j]? = some (im_v (im_ad base sp) (va_up f k v j)) := by
    intro j hj
    by_cases ej : j = k
    · subst ej
      rw [va_up_self, ← hsl, Cell.slots_setSlot_self _ hlt]
    · rw [va_up_ne _ _ ej, slot_ne _ _ (by rw [hsl]; exact fun q => hap j k hj hk ej q.symm)]
      exact o3 j hj
  have hlayk := hlay k hk
  unfold u_lay at hlayk
  rcases hfin with hfin | ⟨rfl, hoC, hinit⟩
  · rw [if_neg (by rw [hfin]; decide)] at hlayk
    have hS6 := u_store hfc hkC hkind hlayk hi (hty k hk) hn hfit
    rw [hdecl] at hi
    cases host with
    | none => exact W.putK hx hb (f := fd) ⟨hown, hlink, ⟨_, _, _, hi⟩, hst⟩ (by rw [o1]; exact hS6) hcell o2 hlt rfl rfl hdg fun H' e1 e2 e3 => kk H' _ _ e1 e2 e3 ⟨o1, o2, hnew⟩
    | some h => exact va_WputK hx hb (f := fd) hown hlink hi hst (by rw [o1]; exact hS6) hcell o2 hlt rfl rfl hdg fun H' e1 e2 e3 => kk H' _ _ e1 e2 e3 ⟨o1, o2, hnew⟩
  · by_cases hf2 : (T k).2.2.2 = true
    · rw [if_pos hf2] at hlayk
      have hcf : m.cls = cf := by
        obtain ⟨_, _, c', _, _, _, -, -, hf', -, -, -, hown2, -⟩ := Cond.laysFinal_spec hlayk
        have e1 : c' = cf := by have := hi.symm.trans hf'; simp at this; exact this.1.symm
        rw [hdecl, ← hoC] at hown2
        rw [← e1]; exact Option.some.inj (hown.symm.trans hown2)
      rw [hdecl] at hi
      exact W.putFinK hx hb hown hlink hi hst hcf hinit (by rw [o1]; exact hfits) hcell o2 hlt rfl rfl hdg fun H' e1 e2 e3 => kk H' _ _ e1 e2 e3 ⟨o1, o2, hnew⟩
    · rw [if_neg hf2] at hlayk
      have hS6 := u_store hfc hkC hkind hlayk hi (hty k hk) hn hfit
      rw [hdecl] at hi
      exact W.putK hx hb (f := fd) ⟨hown, hlink, ⟨_, _, _, hi⟩, hst⟩ (by rw [o1]; exact hS6) hcell o2 hlt rfl rfl hdg fun H' e1 e2 e3 => kk H' _ _ e1 e2 e3 ⟨o1, o2, hnew⟩
theorem im_new_row (hx : p.tables.exec = Jvm.exec) (hb : c.code = cc) {own C : String} {T : u_T} {N ci index : Nat} (hKn : u_Kn s C T N (D.1 ci) (D.2 ci)) (hlay : ∀ k, k < N → (u_lay C T k).before args s = true) (ty : Nat → FieldType) (hty : ∀ k, k < N → parseFieldDescriptor (T k).2.2.1 = some (ty k)) (hown : s.vm.findClass own = some m.cls)
    (hcl : (Cond.classLink own index C).before args s = true) {n : Nat} (hinst : (Cond.instantiable C n).before args s = true) (hini : (Cond.initialized C).before args s = true) (hcells : cells + 1 ≤ R.cells) (hslots : slots + n ≤ R.slots) (hdg : decode cc pc = .ok (.new index, 3))
    (kk : ∀ (H' : Heap) (cell' : Cell), H'[H.size]? = some cell' → H'.size = H.size + 1 → (∀ q, q < H.size → H'[q]? = H[q]?) → (cell'.cls = D.1 ci ∧ cell'.vm = .none ∧ ∀ j, j < N → cell'.slots[D.2 ci j]? = some (defaultValue (ty j))) →
      W p l e R s m args below meth c H' locs (cells + 1) (slots + n) Q (F0 m (pc + 3) lr (.ref H.size :: rest))) : W p l e R s m args below meth c H locs cells slots Q (F0 m pc lr rest) := by
  refine W.newcK hx hb hown hcl hinst hini rfl hdg hcells hslots hKn.2.1 rfl fun H1 kC hkC e1 z1 o1 => ?_
  obtain ⟨hS, hfc, -⟩ := hKn
  refine kk H1 _ e1 z1 o1 ⟨rfl, rfl, fun k hk => ?_⟩
  obtain ⟨cf, kf, fi, fd, hi, he⟩ := hS k hk
  have h3 := (u_facts hfc hkC (im_lays (hlay k hk)) hi).2.2
  rw [(State.fieldFound?_type hi (hty k hk)).2] at h3
  rw [← he]
  exact k2_blank h3
theorem im_newa_row (hx : p.tables.exec = Jvm.exec) (hb : c.code = cc) {atype : ArrayType} (harr : (Cond.arrayClass (newarray.typeOf atype)).before args s = true) {kd : Nat} (hK : im_K cl aty D E s) (hkd : aty kd = some (newarray.typeOf atype)) (h39 : kd ≠ 39)
    {n : Int32} (hn : ¬ n < 0) (hbytes : n.toNatClampNeg * componentBytes (newarray.typeOf atype) ≤ 536870912) (hcells : cells + 1 ≤ R.cells) (hslots : slots + n.toNatClampNeg ≤ R.slots) (hdg : decode cc pc = .ok (.newarray atype, 2))
    (kk : ∀ (H' : Heap), H'[H.size]? = some (arrV (E kd) n.toNatClampNeg (fun _ => defaultValue (newarray.typeOf atype))) → H'.size = H.size + 1 → (∀ q, q < H.size → H'[q]? = H[q]?) →
      W p l e R s m args below meth c H' locs (cells + 1) (slots + n.toNatClampNeg) Q (F0 m (pc + 2) lr (.ref H.size :: rest))) : W p l e R s m args below meth c H locs cells slots Q (F0 m pc lr (.int n :: rest)) := by
  refine va_newaK hx hb harr rfl hdg rfl hn rfl hbytes hcells hslots rfl fun H1 cA e1 z1 o1 hAr hNm => ?_
  obtain ⟨kA, comp, g1, g2, g3, -⟩ := hK.2 kd _ hkd
  cases (g3 h39).symm.trans hNm
  exact kk H1 e1 z1 o1
theorem im_newq_row (hx : p.tables.exec = Jvm.exec) (hb : c.code = cc) {own C : String} {index kd : Nat} (hK : im_K cl aty D E s) (hkd : aty kd = some (.object C)) (h39 : kd ≠ 39) (hown : s.vm.findClass own = some m.cls) (hcl : (Cond.classLink own index C).before args s = true) (hover : (Cond.arrayOver (.object C)).before args s = true)
    {n : Int32} (hn : ¬ n < 0) (hbytes : n.toNatClampNeg * 4 ≤ 536870912) (hcells : cells + 1 ≤ R.cells) (hslots : slots + n.toNatClampNeg ≤ R.slots) (hdg : decode cc pc = .ok (.anewarray index, 3))
    (kk : ∀ (H' : Heap), H'[H.size]? = some (arrV (E kd) n.toNatClampNeg (fun _ => .null)) → H'.size = H.size + 1 → (∀ q, q < H.size → H'[q]? = H[q]?) →
      W p l e R s m args below meth c H' locs (cells + 1) (slots + n.toNatClampNeg) Q (F0 m (pc + 3) lr (.ref H.size :: rest))) : W p l e R s m args below meth c H locs cells slots Q (F0 m pc lr (.int n :: rest)) := by
  refine W.anew hx hb hown hcl hover rfl hdg rfl hn hbytes hcells hslots fun cA kA comp h1 h2 h3 h4 => ?_
  obtain ⟨kA', comp', g1, g2, g3, -⟩ := hK.2 kd _ hkd
  cases (g3 h39).symm.trans h1
  refine kk _ ?_ ?_ ?_
  · rw [arrV_new]; simp
  · simp
  · intro q hq
    rw [Array.getElem?_push, if_neg (Nat.ne_of_lt hq)]
theorem im_arr_cell {ad : Nat → Nat} {kd n : Nat} {v : Value} (h30 : 30 ≤ kd) (hv : im_v ad v = v) : im_cell nf D E ad (kd, n) (fun _ => v) (arrV (E kd) n (fun _ => v)) := by
  unfold im_cell
  rw [if_neg (Nat.not_lt.mpr h30)]
  refine ⟨rfl, fun h => (by cases h), fun q h => (by cases h), arrV_size _ _ _, fun j hj => ?_⟩
  rw [arrV_read _ _ hj, hv]
end FROWS
end
section
/-! Calls that may come back by a throw. -/
def im_fe (first t : State) (L : List Loc) (k n : Nat) : Prop := first.WarmedH t.vm ∧ first.sameButNew ({ t with vm := first.vm } : State) L k n
/-- a method's contract, whichever way it ends -/
def im_Met (l : Launch) (y : MethodName) (ws : List Cond) (rm : Room) (Pc : Array Value → State → Prop) (Qc : Array Value → State → Outcome → State → Prop) (mc ms : Nat) (free : Addr → Prop) : Prop :=
  Jvm.Free.MetFree l y (headSpec ws rm) Pc (fun _ _ _ _ _ => True) (fun a st o t => Qc a st o t ∧ ∃ L, im_fe st t L mc ms ∧ ∀ q ∈ L, free q.base)
def im_MQ (below : List Frame) (Qc : Array Value → State → Outcome → State → Prop) (a : Array Value) (s : State) (mc ms : Nat) (free : Addr → Prop) : State → Prop := fun t =>
  ∃ o, t.status = .running ∧ Ended t below o ∧ Qc a s o t ∧ ∃ L, im_fe s t L mc ms ∧ ∀ q ∈ L, free q.base
theorem im_MQ.of {below : List Frame} {Qc : Array Value → State → Outcome → State → Prop} {a : Array Value} {s : State} {mc ms : Nat} {free : Addr → Prop} {t : State} (h : MQ below Qc a s mc ms free t) : im_MQ below Qc a s mc ms free t := by
  obtain ⟨o, h1, h2, h3, L, h4, h5⟩ := h
  exact ⟨o, h1, h2, h3, L, h4.2, h5⟩
theorem im_Wof {p : Program} {l : Launch} {e : Env} {R : Room} {s : State} {m : MethodId} {args : Array Value} {below : List Frame} {meth : Method} {c : Code} {H : Heap} {locs : List Loc} {cells slots : Nat} {Q Q' : State → Prop} {g : JFrame} (hQ : ∀ t, Q t → Q' t)
    (h : W p l e R s m args below meth c H locs cells slots Q g) : W p l e R s m args below meth c H locs cells slots Q' g := by
  intro T hT X
  obtain ⟨t, a, b⟩ := h T hT X
  exact ⟨t, a, hQ t b⟩
/-- a contract out of a walk of the body: the method has no table, or has one -/
theorem im_Met.ofW {l : Launch} {y : MethodName} {ws : List Cond} {rm : Room} {Pc : Array Value → State → Prop} {Qc : Array Value → State → Outcome → State → Prop} {mc ms : Nat} {free : Addr → Prop} {cc : ByteArray} {maxL : Nat} {ret : Option FieldType}
    (hy : plainName y.cls = true) (hw : Cond.code y cc maxL ret ∈ ws ∨ ∃ hh, Cond.codeWith y cc maxL ret hh ∈ ws)
    (body : ∀ p e s m args below meth c s₁, BodyLoose p l y (headSpec ws rm) cc maxL ret e s m args below meth c s₁ → c.maxLocals = maxL → Pc args s →
      W p l e (headSpec ws rm).room s m args below meth c s.heap [] 0 0 (im_MQ below Qc args s mc ms free) (entryFrame m args maxL)) : im_Met l y ws rm Pc Qc mc ms free := by
  refine MetFree.of_bodyS (code := cc) (maxLocals := maxL) (ret := ret) hy ?_ ?_
  · intro args s m h hn
    rcases hw with hw | ⟨hh, hw⟩
    · obtain ⟨meth, c, h1, h2, h3, h4, h5, h6, -, -⟩ := Cond.code_spec hn (atoms_spec (ws := ws) h _ hw)
      exact ⟨meth, c, h1, h2, h3, h4, h5, h6⟩
    · obtain ⟨m9, meth, c, hn9, h1, h2, h3, h4, -, h5, h6, -⟩ := Cond.codeWith_spec (atoms_spec (ws := ws) h _ hw)
      cases hn.symm.trans hn9
      exact ⟨meth, c, h1, h2, h3, h4, h5, h6⟩
  · intro p e s m args below meth c s₁ B hml hP _
    have hh0 : s₁.heap = s.heap := by rw [B.state]; rfl
    obtain ⟨t, a1, o, b1, b2, b3⟩ := body p e s m args below meth c s₁ B hml hP s₁ hh0 (Stand.of_body B)
    exact ⟨t, o, a1, b1, b2, ⟨b3.1, b3.2⟩⟩
/-- where a caller stands behind a call -/
def im_aft (U : State) (g : JFrame) (len : Nat) : Outcome → State
  | .returned v => U.setTop { g with pc := g.pc + len, stack := v.toList ++ g.stack }
  | .threw a => (U.setTop g).pushFrame (.throwing a)
def im_Bk (l : Launch) (R : Room) (p : Program) (e : Env) (below : List Frame) (s : State) (sargs : Array Value) (y : MethodName) (len W : Nat) (mc ms : Nat) (Pc : Array Value → State → Prop) (Qc : Array Value → State → Outcome → State → Prop) (free : Addr → Prop) : Prop :=
  ∀ (m : MethodId) (meth : Method) (c : Code) (U : State) (locs : List Loc) (cells slots : Nat) (g : JFrame) (ig : Instr) (mk : MethodId) (a : Array Value),
    Stand p l e R s m sargs below meth c U locs cells slots → g.method = m → g.locals.size = c.maxLocals → decode c.code g.pc = .ok (ig, len) →
    2 * g.monitorRoom + (g.stack.map fun v => v.category).sum ≤ W → U.methodNamed? y = some mk → cells + mc ≤ R.cells → slots + ms ≤ R.slots → Pc a U →
    ∃ (o : Outcome) (st t V : State) (L : List Loc), Stand p l e R s m sargs below meth c V (locs ++ L) (cells + mc) (slots + ms) ∧ V.heap = t.heap ∧ V.vm = t.vm ∧ st.heap = U.heap ∧ s.vm.Alike st.vm ∧ Qc a st o t ∧ (∀ q ∈ L, free q.base) ∧
      Steps p.tables e below (doInvoke e (U.setTop g) [] mk a).1 (im_aft V g len o)
section PAY
variable {l : Launch} {R : Room} {p : Program} {e : Env} {below : List Frame} {s : State} {sargs : Array Value} {y : MethodName} {len W : Nat}
theorem im_pay {ws : List Cond} {rm : Room} {Pc : Array Value → State → Prop} {Qc : Array Value → State → Outcome → State → Prop} {mc ms : Nat} {free : Addr → Prop} {bytes : ByteArray} {maxL : Nat} {ret : Option FieldType}
    (hM : im_Met l y ws rm Pc Qc mc ms free) (hblind : FrameBlind Pc) (hrc : rm.cells = mc) (hrs : rm.slots = ms) (hframes : rm.frames + 1 ≤ R.frames) (hlocals : W + (maxL + 11) + rm.locals ≤ R.locals)
    (hws : ∀ w ∈ ws, ∀ a' U, s.WarmedH U.vm → w.before a' U = true) (hcode : Cond.code y bytes maxL ret ∈ ws ∨ ∃ hh, Cond.codeWith y bytes maxL ret hh ∈ ws) (hinit : ∀ a' U, s.WarmedH U.vm → (Cond.initialized y.cls).before a' U = true) :
    im_Bk l R p e below s sargs y len W mc ms Pc Qc free := by
  intro m meth c U Ls c0 s0 g ig mk a X hg hsize hdg hW hn hc1 hs1 hPc
  obtain ⟨methY, cY, hmY, hcY, hlY⟩ : ∃ methY cY, U.vm.method? mk = some methY ∧ methY.code = some cY ∧ cY.maxLocals = maxL := by
    rcases hcode with hcode | ⟨hh, hcode⟩
    · obtain ⟨methY, cY, hmY, hcY, -, hlY, -⟩ := Cond.code_spec hn (hws _ hcode a U X.warmed)
      exact ⟨methY, cY, hmY, hcY, hlY⟩
    · obtain ⟨m9, methY, cY, hn9, hmY, hcY, -, hlY, -⟩ := Cond.codeWith_spec (hws _ hcode a U X.warmed)
      cases hn.symm.trans hn9
      exact ⟨methY, cY, hmY, hcY, hlY⟩
  obtain ⟨kY, hkY, -⟩ := className_of_methodNamed hn
  have hinitY : kY.init = .initialized := Cond.initialized_spec (findClass_of_methodNamed hn) hkY (hinit a U X.warmed)
  have h : At U g.method c below := by rw [hg]; exact X.here
  have happ : (headSpec ws rm).appliesLoose y e.platform (U.calling g mk a) = true :=
    Spec.appliesLoose_calling (g := g) h hdg hn hkY hinitY
      (X.room_calling (g := g) (R' := (headSpec ws rm).room) hsize hmY hcY hframes (by rw [hlY]; show _ + rm.locals ≤ _; omega) (by show c0 + rm.cells ≤ _; rw [hrc]; exact hc1) (by show s0 + rm.slots ≤ _; rw [hrs]; exact hs1)) (atoms_intro fun w hw => hws w hw _ _ X.warmed)
  obtain ⟨mid, hmid⟩ := h.above
  have hfr : (U.setTop g).frames = (.java g :: mid) ++ below := by rw [State.frames_setTop' g h.top, hmid]; rfl
  obtain ⟨o, s₂, hsteps, -, hend, hq⟩ := Jvm.Free.Steps.callFree hM p X.admits X.cas X.clock (acts := []) hfr happ (hblind _ _ _ _ hPc) trivial
  obtain ⟨hq1, L, ⟨hW₂, e2, q2, q3, q4, q5, q6⟩, hL⟩ : Qc a (U.calling g mk a) o s₂ ∧ ∃ L, im_fe (U.calling g mk a) s₂ L mc ms ∧ ∀ q ∈ L, free q.base := hq
  rw [State.frames_setTop' g h.top] at hend
  have e3 : s₂ = ({ (U.calling g mk a).setFrames s₂.frames with heap := s₂.heap, slotsUsed := s₂.slotsUsed } : State).setVm s₂.vm := by
    have : s₂ = ({ s₂ with vm := (U.calling g mk a).vm } : State).setVm s₂.vm := rfl
    rw [e2] at this
    exact this
  have hW' : U.WarmedH s₂.vm := hW₂
  obtain ⟨g₀, hg0⟩ := Option.isSome_iff_exists.mp h.top
  obtain ⟨r, hr⟩ := State.topJava?_eq_some.mp hg0
  have hr' : (({ U with heap := s₂.heap, slotsUsed := s₂.slotsUsed } : State).setVm s₂.vm).frames = .java g₀ :: r := hr
  have hsame : U.sameButNew ({ U with heap := s₂.heap, slotsUsed := s₂.slotsUsed } : State) L mc ms := by
    refine ⟨?_, q2, q3, q4, q5, q6⟩
    obtain ⟨t, ht, -⟩ := State.frames_cons hr
    show ({ U with heap := s₂.heap, slotsUsed := s₂.slotsUsed } : State) = { U.setFrames U.frames with heap := s₂.heap, slotsUsed := s₂.slotsUsed }
    rw [State.setFrames_self ht]
  have hs₂ : s₂ = im_aft (({ U with heap := s₂.heap, slotsUsed := s₂.slotsUsed } : State).setVm s₂.vm) g len o := by
    cases o with
    | returned v =>
      obtain ⟨c₂, i₂, len₂, hc₂, hd₂, hf₂⟩ := hend
      have hcc : c₂ = c := by
        have h1 : s₂.code? g.method = U.code? g.method := by
          rw [State.code?_eq, State.code?_eq, hW'.alike.method?]
        exact Option.some.inj (hc₂.symm.trans (h1.trans h.code))
      subst hcc
      have hlen : len₂ = len := by rw [hdg] at hd₂; cases hd₂; rfl
      subst hlen
      refine e3.trans ?_
      show _ = State.setTop _ _
      rw [hf₂, State.calling_eq h.top, State.setFrames_setFrames, State.setTop_of_frames _ hr', hr]
      rfl
    | threw x =>
      have hf₂ : s₂.frames = .throwing x :: .java g :: U.frames.tail := hend
      refine e3.trans ?_
      show _ = State.pushFrame _ _
      have hcur : (({ U with heap := s₂.heap, slotsUsed := s₂.slotsUsed } : State).setVm s₂.vm).cur < (({ U with heap := s₂.heap, slotsUsed := s₂.slotsUsed } : State).setVm s₂.vm).threads.size := State.cur_lt_of_frames hr'
      rw [hf₂, State.calling_eq h.top, State.setFrames_setFrames, State.pushFrame, State.setTop_of_frames _ hr', State.setFrames_setFrames, State.frames_setFrames _ hcur, hr]
      rfl
  subst hg
  refine ⟨o, U.calling g mk a, s₂, (({ U with heap := s₂.heap, slotsUsed := s₂.slotsUsed } : State).setVm s₂.vm), L,
    ⟨X.admits, X.cas, X.clock, X.frames, X.room, X.hears, X.method, X.code, (X.here.setHeapUsed s₂.heap s₂.slotsUsed).setVm hW'.alike, X.tail, State.WarmedH.trans X.warmed hW', X.limits, X.bytes, X.same.trans (hsame.setVm s.vm)⟩, rfl, rfl, rfl, X.warmed.alike, hq1, hL, ?_⟩
  rw [← hs₂]
  exact hsteps
end PAY
section CALLS
variable {p : Program} {l : Launch} {e : Env} {R : Room} {s : State} {m : MethodId} {args : Array Value} {below : List Frame} {meth : Method} {c : Code} {T : State} {locs : List Loc} {cells slots : Nat}
variable {y : MethodName} {mc ms W : Nat} {Pc : Array Value → State → Prop} {Qc : Array Value → State → Outcome → State → Prop} {free : Addr → Prop}
/-- what a call gives -/
def im_Cr (p : Program) (l : Launch) (e : Env) (R : Room) (s : State) (m : MethodId) (args : Array Value) (below : List Frame) (meth : Method) (c : Code) (T : State) (locs : List Loc) (cells slots mc ms : Nat) (g : JFrame) (rest : List Value) (a : Array Value) (Qc : Array Value → State → Outcome → State → Prop) (free : Addr → Prop) : Prop :=
  ∃ (o : Outcome) (st t V : State) (L : List Loc), Stand p l e R s m args below meth c V (locs ++ L) (cells + mc) (slots + ms) ∧ V.heap = t.heap ∧ V.vm = t.vm ∧ st.heap = T.heap ∧ s.vm.Alike st.vm ∧ Qc a st o t ∧ (∀ q ∈ L, free q.base) ∧
    ∀ target, Steps p.tables e below (im_aft V { g with stack := rest } 3 o) target → Steps p.tables e below (T.setTop g) target
variable {own C : String} {index : Nat} {g : JFrame} {argsL rest : List Value} {b : Addr}
theorem im_cV (X : Stand p l e R s m args below meth c T locs cells slots) (hexec : p.tables.exec = Jvm.exec) (hK : im_Bk l R p e below s args y 3 W mc ms Pc Qc free) {host : Option String}
    (hown : s.vm.findClass own = some m.cls) (hlink : (match host with | none => Cond.methodLink own index y | some h => Cond.methodLinkNest own index y h).before args s = true) (hinst : (Cond.instanceMethod y).before args s = true) (hsel : (Cond.selects C y y).before args s = true)
    {bytes : ByteArray} {maxL : Nat} {ret : Option FieldType} (hcode : (Cond.code y bytes maxL ret).before args s = true)
    (hy : y.cls ≠ "java/lang/invoke/MethodHandle" ∧ y.cls ≠ "java/lang/invoke/VarHandle") (hlen : (parseMethodDescriptor y.desc).map (fun d => d.parameters.length) = some argsL.length)
    {cellB : Cell} (hcell : T.heap[b]? = some cellB) (hobj : cellB.vm.isStatics = false) (hcls : s.vm.findClass C = some cellB.cls) (hg : g.method = m) (hsize : g.locals.size = c.maxLocals)
    (hstack : g.stack = argsL.reverse ++ .ref b :: rest) (hW : 2 * g.monitorRoom + (rest.map fun v => v.category).sum ≤ W) (hdg : decode c.code g.pc = .ok (.invokevirtual index, 3)) (hc : cells + mc ≤ R.cells) (hs : slots + ms ≤ R.slots)
    (hpre : ∀ vm₁, s.WarmedH vm₁ → Pc (Value.ref b :: argsL).toArray (T.setVm vm₁)) : im_Cr p l e R s m args below meth c T locs cells slots mc ms g rest (Value.ref b :: argsL).toArray Qc free := by
  obtain ⟨mk, methM, hnamed, hmethM, hstM, habM⟩ := Cond.instanceMethod_spec hinst
  obtain ⟨c2, r2, m2, q1, q2, q3, q4, kP, hkP, hkPi⟩ := Cond.selects_spec hsel
  cases hcls.symm.trans q1
  cases (State.methodFound?_of_named hnamed hy).symm.trans q2
  cases hnamed.symm.trans q3
  have hselP : selectMethod e.platform s.vm cellB.cls mk = .method mk := by rw [Launch.admits_selectMethod X.admits]; exact q4
  obtain ⟨methM', cM, hmethM', -, -, -, -, -, -, hsigM⟩ := Cond.code_spec hnamed hcode
  cases hmethM.symm.trans hmethM'
  have hsig : argsL.length = methM.sig.parameters.length := by
    rw [hsigM] at hlen
    exact (Option.some.inj hlen).symm
  obtain ⟨vm₁, X₁, hstep₁⟩ : ∃ vm₁, Stand p l e R s m args below meth c (T.setVm vm₁) locs cells slots ∧ ∀ target, (∀ acts, Steps p.tables e below (doInvoke e ((T.setVm vm₁).setTop { g with stack := rest }) acts mk (Value.ref b :: argsL).toArray).1 target) → Steps p.tables e below (T.setTop g) target := by
    cases host with
    | none => exact X.invokevirtual hexec hown hlink hnamed hmethM hstM hkP hkPi hy (a := b) (cell := cellB) hcell (fun z h => by rw [h] at hobj; cases hobj) hselP hmethM habM hkP hkPi (g := g) hg (argsL := argsL) (rest := rest) hsig hstack hdg
    | some h => exact X.invokevirtualNest hexec hown hlink hnamed hmethM hstM hkP hkPi hy (a := b) (cell := cellB) hcell (fun z h => by rw [h] at hobj; cases hobj) hselP hmethM habM hkP hkPi (g := g) hg (argsL := argsL) (rest := rest) hsig hstack hdg
  obtain ⟨o, st, t, V, L, X', hv1, hv2, hv3, hv4, hq, hL, hsteps⟩ := hK m meth c (T.setVm vm₁) locs cells slots { g with stack := rest } (.invokevirtual index) mk (Value.ref b :: argsL).toArray X₁ hg hsize hdg hW (X₁.named hnamed) hc hs (hpre vm₁ X₁.warmed)
  exact ⟨o, st, t, V, L, X', hv1, hv2, hv3, hv4, hq, hL, fun target h => hstep₁ _ fun acts => by rw [doInvoke_state]; exact hsteps.trans h⟩
theorem im_cS (X : Stand p l e R s m args below meth c T locs cells slots) (hexec : p.tables.exec = Jvm.exec) (hK : im_Bk l R p e below s args y 3 W mc ms Pc Qc free) {host : Option String}
    (hown : s.vm.findClass own = some m.cls) (hlink : (match host with | none => Cond.methodLink own index y | some h => Cond.methodLinkNest own index y h).before args s = true) (hstat : (Cond.static y).before args s = true) (hinit : (Cond.initialized y.cls).before args s = true)
    {bytes : ByteArray} {maxL : Nat} {ret : Option FieldType} (hcode : (Cond.code y bytes maxL ret).before args s = true ∨ ∃ hh, (Cond.codeWith y bytes maxL ret hh).before args s = true)
    (hy : y.cls ≠ "java/lang/invoke/MethodHandle" ∧ y.cls ≠ "java/lang/invoke/VarHandle") (hlen : (parseMethodDescriptor y.desc).map (fun d => d.parameters.length) = some argsL.length) (hg : g.method = m) (hsize : g.locals.size = c.maxLocals)
    (hstack : g.stack = argsL.reverse ++ rest) (hW : 2 * g.monitorRoom + (rest.map fun v => v.category).sum ≤ W) (hdg : decode c.code g.pc = .ok (.invokestatic index, 3)) (hc : cells + mc ≤ R.cells) (hs : slots + ms ≤ R.slots)
    (hpre : ∀ vm₁, s.WarmedH vm₁ → Pc argsL.toArray (T.setVm vm₁)) : im_Cr p l e R s m args below meth c T locs cells slots mc ms g rest argsL.toArray Qc free := by
  obtain ⟨mk, methM, hnamed, hmethM, hsigM⟩ : ∃ mk methM, s.methodNamed? y = some mk ∧ s.vm.method? mk = some methM ∧ parseMethodDescriptor y.desc = some methM.sig := by
    rcases hcode with hcode | ⟨hh, hcode⟩
    · obtain ⟨mk, hnamed⟩ := Cond.code_named hcode
      obtain ⟨methM, cM, hmethM, -, -, -, -, -, -, hsigM⟩ := Cond.code_spec hnamed hcode
      exact ⟨mk, methM, hnamed, hmethM, hsigM⟩
    · obtain ⟨mk, methM, cM, hnamed, hmethM, -, -, -, -, -, -, hsigM⟩ := Cond.codeWith_spec hcode
      exact ⟨mk, methM, hnamed, hmethM, hsigM⟩
  have hstatic : methM.isStatic = true := Cond.static_spec hnamed hmethM hstat
  obtain ⟨kP, hkP, -⟩ := className_of_methodNamed hnamed
  have hinitP : kP.init = .initialized := Cond.initialized_spec (findClass_of_methodNamed hnamed) hkP hinit
  have hsig : argsL.length = methM.sig.parameters.length := by
    rw [hsigM] at hlen
    exact (Option.some.inj hlen).symm
  obtain ⟨vm₁, X₁, hstep₁⟩ : ∃ vm₁, Stand p l e R s m args below meth c (T.setVm vm₁) locs cells slots ∧ ∀ target, (∀ acts, Steps p.tables e below (doInvoke e ((T.setVm vm₁).setTop { g with stack := rest }) acts mk argsL.toArray).1 target) → Steps p.tables e below (T.setTop g) target := by
    cases host with
    | none => exact X.invokestatic hexec hown hlink hnamed hmethM hstatic hkP hinitP hy (g := g) hg (argsL := argsL) (rest := rest) hsig hstack hdg
    | some h => exact X.invokestaticNest hexec hown hlink hnamed hmethM hstatic hkP hinitP hy (g := g) hg (argsL := argsL) (rest := rest) hsig hstack hdg
  obtain ⟨o, st, t, V, L, X', hv1, hv2, hv3, hv4, hq, hL, hsteps⟩ := hK m meth c (T.setVm vm₁) locs cells slots { g with stack := rest } (.invokestatic index) mk argsL.toArray X₁ hg hsize hdg hW (X₁.named hnamed) hc hs (hpre vm₁ X₁.warmed)
  exact ⟨o, st, t, V, L, X', hv1, hv2, hv3, hv4, hq, hL, fun target h => hstep₁ _ fun acts => by rw [doInvoke_state]; exact hsteps.trans h⟩
theorem im_cI (X : Stand p l e R s m args below meth c T locs cells slots) (hexec : p.tables.exec = Jvm.exec) (hK : im_Bk l R p e below s args y 3 W mc ms Pc Qc free) {host : Option String}
    (hown : s.vm.findClass own = some m.cls) (hy1 : y.name = "<init>") (hlink : (match host with | none => Cond.methodLink own index y | some h => Cond.methodLinkNest own index y h).before args s = true) (hinst : (Cond.instanceMethod y).before args s = true)
    {bytes : ByteArray} {maxL : Nat} (hcode : (Cond.code y bytes maxL none).before args s = true)
    (hy : y.cls ≠ "java/lang/invoke/MethodHandle" ∧ y.cls ≠ "java/lang/invoke/VarHandle") (hlen : (parseMethodDescriptor y.desc).map (fun d => d.parameters.length) = some argsL.length) (hg : g.method = m) (hsize : g.locals.size = c.maxLocals)
    (hstack : g.stack = argsL.reverse ++ .ref b :: rest) (hW : 2 * g.monitorRoom + (rest.map fun v => v.category).sum ≤ W) (hdg : decode c.code g.pc = .ok (.invokespecial index, 3)) (hc : cells + mc ≤ R.cells) (hs : slots + ms ≤ R.slots)
    (hpre : ∀ vm₁, s.WarmedH vm₁ → Pc (Value.ref b :: argsL).toArray (T.setVm vm₁)) : im_Cr p l e R s m args below meth c T locs cells slots mc ms g rest (Value.ref b :: argsL).toArray Qc free := by
  subst hg
  have hpl : e.platform.magicAccessors = ({} : Platform).magicAccessors := by rw [X.admits.platform]
  have hlen' : ∀ sig, parseMethodDescriptor y.desc = some sig → argsL.length = sig.parameters.length := fun sig h => by
    rw [h] at hlen
    exact (Option.some.inj hlen).symm
  cases host with
  | none =>
    obtain ⟨mk, methM, cM, kP, vm₁, hnamed, hmethM, hcodeM, -, hlocalsM, -, hkP, -, hW₁, hstep₁⟩ := Steps.initColdArgs (e := e) X.here hexec X.warmed hpl hown hy1 hy hlink hinst hcode (f := g) rfl hlen' hstack hdg
    have X₁ := X.noted hW₁
    obtain ⟨o, st, t, V, L, X', hv1, hv2, hv3, hv4, hq, hL, hsteps⟩ := hK g.method meth c (T.setVm vm₁) locs cells slots { g with stack := rest } (.invokespecial index) mk (Value.ref b :: argsL).toArray X₁ rfl hsize hdg hW (X₁.named hnamed) hc hs (hpre vm₁ X₁.warmed)
    exact ⟨o, st, t, V, L, X', hv1, hv2, hv3, hv4, hq, hL, fun target h => hstep₁ _ fun acts => by rw [doInvoke_state]; exact hsteps.trans h⟩
  | some hst =>
    obtain ⟨mk, methM, cM, kP, vm₁, hnamed, hmethM, hcodeM, -, hlocalsM, -, hkP, -, hW₁, hstep₁⟩ := Steps.initColdArgsNest (e := e) X.here hexec X.warmed hpl hown hy1 hy hlink hinst hcode (f := g) rfl hlen' hstack hdg
    have X₁ := X.noted hW₁
    obtain ⟨o, st, t, V, L, X', hv1, hv2, hv3, hv4, hq, hL, hsteps⟩ := hK g.method meth c (T.setVm vm₁) locs cells slots { g with stack := rest } (.invokespecial index) mk (Value.ref b :: argsL).toArray X₁ rfl hsize hdg hW (X₁.named hnamed) hc hs (hpre vm₁ X₁.warmed)
    exact ⟨o, st, t, V, L, X', hv1, hv2, hv3, hv4, hq, hL, fun target h => hstep₁ _ fun acts => by rw [doInvoke_state]; exact hsteps.trans h⟩
end CALLS
end
section
/-! new int[3][3] -/
section MULTI
theorem im_wpn {E : CtlPost} {e : Env} {d : Bool} {acts : List Action} {S : State} {c comp : ClassId} {k : Class} {type : FieldType} {len : Nat} {init : Value} (hk : S.vm.classes[c]? = some k) (hkind : k.kind = .array comp type)
    (hlimit : ¬ len > e.platform.arrayLengthLimit) (hheap : ¬ len * componentBytes type > e.platform.maxHeapBytes) (hfit : fits type init = true) (hdef : init.isDefault = true) {Qa : Addr → Pre}
    (h1 : S.heap.size < e.platform.maxCells) (h2 : S.slotsUsed + len ≤ e.platform.maxSlots)
    (hq : Qa S.heap.size d acts (S.pushCell { cls := c, slots := Array.replicate len init, vm := .none })) :
    wp (Jvm.newArray c len init) Qa E e d acts S := by
  have hfits : ∀ (i : Nat) v, (Array.replicate len init)[i]? = some v → S.fitsSlot c .none i v = true := by
    intro i v hv
    rw [Array.getElem?_replicate] at hv
    split at hv
    · cases hv; simp [State.fitsSlot, State.slotType?, hk, hkind, hfit]
    · cases hv
  have hda : allocActs (Array.replicate len init) S.heap.size acts = acts := by
    have hall : ((Array.replicate len init).all (·.isDefault)) = true := by
      rw [Array.all_replicate]; split <;> simp [hdef]
    unfold allocActs; rw [if_pos hall]
  simp only [Jvm.newArray, Jvm.arrayFits, wp_bind', W.ask, W.ite, hlimit, if_false, wp_pure', W.theClass, hk, hkind, hheap, W.alloc, W.stop, Option.some.injEq, exists_eq_left', Array.size_replicate, hda]
  rw [if_neg (by omega)]
  exact ⟨h1, h2, hfits, hq⟩
def im_in (comp : ClassId) : Cell := { cls := comp, slots := Array.replicate 3 (.int 0), vm := .none }
def im_o0 (cA : ClassId) : Cell := { cls := cA, slots := Array.replicate 3 .null, vm := .none }
theorem im_mk1 {E : CtlPost} {e : Env} {d : Bool} {acts : List Action} {S : State} {comp cc : ClassId} {kc : Class} (hkc : S.vm.classes[comp]? = some kc) (hkind : kc.kind = .array cc .int) (hl : ¬ 3 > e.platform.arrayLengthLimit) (hh : ¬ 3 * 4 > e.platform.maxHeapBytes)
    (h1 : S.heap.size < e.platform.maxCells) (h2 : S.slotsUsed + 3 ≤ e.platform.maxSlots) {Qa : Addr → Pre} (hq : Qa S.heap.size d acts (S.pushCell (im_in comp))) : wp (Op.multianewarray.make comp [3]) Qa E e d acts S := by
  rw [Op.multianewarray.make]
  simp only [wp_bind', W.ite, show ¬ (3 : Int32) < 0 by decide, if_false, wp_pure', W.theClass, hkc, hkind, Option.some.injEq, exists_eq_left']
  exact im_wpn (len := 3) hkc hkind hl hh rfl rfl h1 h2 hq
/-- one row more -/
def im_nx (S : State) (h0 i : Nat) (cell : Cell) (comp : ClassId) : State := (S.pushCell (im_in comp)).setCell h0 (cell.setSlot i (.ref S.heap.size))
theorem im_mkw {E : CtlPost} {e : Env} {d : Bool} {acts : List Action} {S : State} {c comp cc : ClassId} {k kc : Class} {h0 i : Nat} {cell : Cell} (hk : S.vm.classes[c]? = some k) (hkind : k.kind = .array comp (.array .int)) (hkc : S.vm.classes[comp]? = some kc) (hkindc : kc.kind = .array cc .int) (hl : ¬ 3 > e.platform.arrayLengthLimit) (hh : ¬ 3 * 4 > e.platform.maxHeapBytes)
    (hcell : S.heap[h0]? = some cell) (hc1 : cell.cls = c) (hc2 : cell.vm = .none) (hc3 : cell.slots.size = 3) (hi : i < 3) (h1 : S.heap.size < e.platform.maxCells) (h2 : S.slotsUsed + 3 ≤ e.platform.maxSlots) {Qa : ForInStep PUnit → Pre} (hq : ∀ d' acts', Qa (.yield PUnit.unit) d' acts' (im_nx S h0 i cell comp)) :
    wp (do let a ← Op.multianewarray.make comp [3]; writeLoc h0 i (.ref a); Pure.pure (ForInStep.yield PUnit.unit)) Qa E e d acts S := by
  simp only [wp_bind']
  refine im_mk1 hkc hkindc hl hh h1 h2 ?_
  have hlt : h0 < S.heap.size := (Array.getElem?_eq_some_iff.mp hcell).1
  have hcell' : (S.pushCell (im_in comp)).heap[h0]? = some cell := by rw [State.heap_pushCell_of_lt (h := hlt)]; exact hcell
  simp only [wp_bind', W.writeLoc, wp_pure']
  refine ⟨cell, hcell', by rw [hc2]; simp, by rw [hc3]; exact hi, ?_, hq _ _⟩
  rw [hc1, hc2]
  have hvm : (S.pushCell (im_in comp)).vm = S.vm := rfl
  simp [State.fitsSlot, State.slotType?, hvm, hk, hkind, fits]
theorem im_nx_facts {S : State} {h0 i : Nat} {cell : Cell} {comp : ClassId} (hcell : S.heap[h0]? = some cell) : (im_nx S h0 i cell comp).heap[h0]? = some (cell.setSlot i (.ref S.heap.size)) ∧ (im_nx S h0 i cell comp).heap.size = S.heap.size + 1 ∧ (im_nx S h0 i cell comp).heap[S.heap.size]? = some (im_in comp) ∧ (∀ q, q < S.heap.size → q ≠ h0 → (im_nx S h0 i cell comp).heap[q]? = S.heap[q]?) ∧ (im_nx S h0 i cell comp).vm = S.vm ∧ (im_nx S h0 i cell comp).slotsUsed = S.slotsUsed + 3 := by
  have hlt : h0 < S.heap.size := (Array.getElem?_eq_some_iff.mp hcell).1
  have hcell' : (S.pushCell (im_in comp)).heap[h0]? = some cell := by rw [State.heap_pushCell_of_lt (h := hlt)]; exact hcell
  refine ⟨State.heap_setCell_self hcell', by simp [im_nx, State.setCell], ?_, fun q hq hne => ?_, rfl, by simp [im_nx, im_in]⟩
  · show ((S.pushCell (im_in comp)).setCell h0 _).heap[S.heap.size]? = _
    rw [State.heap_setCell_other (Nat.ne_of_lt hlt)]
    exact State.heap_pushCell_size _ _
  · show ((S.pushCell (im_in comp)).setCell h0 _).heap[q]? = _
    rw [State.heap_setCell_other (Ne.symm hne), State.heap_pushCell_of_lt (h := hq)]
def im_o1 (cA : ClassId) (h0 : Nat) : Cell := (im_o0 cA).setSlot 0 (.ref (h0 + 1))
def im_o2 (cA : ClassId) (h0 : Nat) : Cell := (im_o1 cA h0).setSlot 1 (.ref (h0 + 2))
def im_o3 (cA : ClassId) (h0 : Nat) : Cell := (im_o2 cA h0).setSlot 2 (.ref (h0 + 3))
def im_s1 (S : State) (cA comp : ClassId) : State := im_nx (S.pushCell (im_o0 cA)) S.heap.size 0 (im_o0 cA) comp
def im_s2 (S : State) (cA comp : ClassId) : State := im_nx (im_s1 S cA comp) S.heap.size 1 (im_o1 cA S.heap.size) comp
def im_s3 (S : State) (cA comp : ClassId) : State := im_nx (im_s2 S cA comp) S.heap.size 2 (im_o2 cA S.heap.size) comp
theorem im_s1_facts (S : State) (cA comp : ClassId) : (im_s1 S cA comp).heap[S.heap.size]? = some (im_o1 cA S.heap.size) ∧ (im_s1 S cA comp).heap.size = S.heap.size + 2 ∧ (im_s1 S cA comp).heap[S.heap.size + 1]? = some (im_in comp) ∧ (∀ q, q < S.heap.size → (im_s1 S cA comp).heap[q]? = S.heap[q]?) ∧ (im_s1 S cA comp).vm = S.vm ∧ (im_s1 S cA comp).slotsUsed = S.slotsUsed + 6 := by
  have hz : (S.pushCell (im_o0 cA)).heap.size = S.heap.size + 1 := by simp
  obtain ⟨a1, a2, a3, a4, a5, a6⟩ := im_nx_facts (S := S.pushCell (im_o0 cA)) (h0 := S.heap.size) (i := 0) (cell := im_o0 cA) (comp := comp) (State.heap_pushCell_size _ _)
  rw [hz] at a1 a2 a3 a4
  refine ⟨a1, a2, a3, fun q hq => ?_, a5, ?_⟩
  · rw [show (im_s1 S cA comp).heap[q]? = _ from a4 q (by omega) (by omega), State.heap_pushCell_of_lt (h := hq)]
  · show (im_nx _ _ _ _ _).slotsUsed = _
    rw [a6]; simp [im_o0]
theorem im_s2_facts (S : State) (cA comp : ClassId) : (im_s2 S cA comp).heap[S.heap.size]? = some (im_o2 cA S.heap.size) ∧ (im_s2 S cA comp).heap.size = S.heap.size + 3 ∧ (im_s2 S cA comp).heap[S.heap.size + 1]? = some (im_in comp) ∧ (im_s2 S cA comp).heap[S.heap.size + 2]? = some (im_in comp) ∧ (∀ q, q < S.heap.size → (im_s2 S cA comp).heap[q]? = S.heap[q]?) ∧ (im_s2 S cA comp).vm = S.vm ∧ (im_s2 S cA comp).slotsUsed = S.slotsUsed + 9 := by
  obtain ⟨b1, b2, b3, b4, b5, b6⟩ := im_s1_facts S cA comp
  obtain ⟨a1, a2, a3, a4, a5, a6⟩ := im_nx_facts (S := im_s1 S cA comp) (h0 := S.heap.size) (i := 1) (cell := im_o1 cA S.heap.size) (comp := comp) b1
  rw [b2] at a1 a2 a3 a4
  refine ⟨a1, a2, ?_, a3, fun q hq => ?_, a5.trans b5, a6.trans (by rw [b6])⟩
  · rw [show (im_s2 S cA comp).heap[S.heap.size + 1]? = _ from a4 _ (by omega) (by omega)]; exact b3
  · rw [show (im_s2 S cA comp).heap[q]? = _ from a4 q (by omega) (by omega)]; exact b4 q hq
theorem im_s3_facts (S : State) (cA comp : ClassId) : (im_s3 S cA comp).heap[S.heap.size]? = some (im_o3 cA S.heap.size) ∧ (im_s3 S cA comp).heap.size = S.heap.size + 4 ∧ (im_s3 S cA comp).heap[S.heap.size + 1]? = some (im_in comp) ∧ (im_s3 S cA comp).heap[S.heap.size + 2]? = some (im_in comp) ∧ (im_s3 S cA comp).heap[S.heap.size + 3]? = some (im_in comp) ∧ (∀ q, q < S.heap.size → (im_s3 S cA comp).heap[q]? = S.heap[q]?) ∧ (im_s3 S cA comp).vm = S.vm ∧ (im_s3 S cA comp).slotsUsed = S.slotsUsed + 12 := by
  obtain ⟨b1, b2, b3, b3', b4, b5, b6⟩ := im_s2_facts S cA comp
  obtain ⟨a1, a2, a3, a4, a5, a6⟩ := im_nx_facts (S := im_s2 S cA comp) (h0 := S.heap.size) (i := 2) (cell := im_o2 cA S.heap.size) (comp := comp) b1
  rw [b2] at a1 a2 a3 a4
  refine ⟨a1, a2, ?_, ?_, a3, fun q hq => ?_, a5.trans b5, a6.trans (by rw [b6])⟩
  · rw [show (im_s3 S cA comp).heap[S.heap.size + 1]? = _ from a4 _ (by omega) (by omega)]; exact b3
  · rw [show (im_s3 S cA comp).heap[S.heap.size + 2]? = _ from a4 _ (by omega) (by omega)]; exact b3'
  · rw [show (im_s3 S cA comp).heap[q]? = _ from a4 q (by omega) (by omega)]; exact b4 q hq
theorem im_mk2 {E : CtlPost} {e : Env} {d : Bool} {acts : List Action} {S : State} {c comp cc : ClassId} {k kc : Class} (hk : S.vm.classes[c]? = some k) (hkind : k.kind = .array comp (.array .int)) (hkc : S.vm.classes[comp]? = some kc) (hkindc : kc.kind = .array cc .int) (hl : ¬ 3 > e.platform.arrayLengthLimit) (hh : ¬ 3 * 4 > e.platform.maxHeapBytes)
    (h1 : S.heap.size + 4 ≤ e.platform.maxCells) (h2 : S.slotsUsed + 12 ≤ e.platform.maxSlots) {Qa : Addr → Pre} (hq : ∀ d' acts', Qa S.heap.size d' acts' (im_s3 S c comp)) : wp (Op.multianewarray.make c [3, 3]) Qa E e d acts S := by
  have hz : (S.pushCell (im_o0 c)).heap.size = S.heap.size + 1 := by simp
  have hu : (S.pushCell (im_o0 c)).slotsUsed = S.slotsUsed + 3 := by simp [im_o0]
  obtain ⟨a1, a2, a3, a4, a5, a6⟩ := im_s1_facts S c comp
  obtain ⟨b1, b2, b3, b3', b4, b5, b6⟩ := im_s2_facts S c comp
  rw [Op.multianewarray.make]
  simp only [wp_bind', W.ite, show ¬ (3 : Int32) < 0 by decide, if_false, wp_pure', W.theClass, hk, hkind, Option.some.injEq, exists_eq_left']
  refine im_wpn (len := 3) hk hkind hl hh rfl rfl (by omega) (by omega) ?_
  simp only [show ((3 : Int32) == 0) = false by decide, if_false, Bool.false_eq_true]
  rw [wp_bind', Std.Legacy.Range.forIn_eq_forIn_range']
  show wp (forIn (List.range' 0 3 1) PUnit.unit _) _ E e d acts _
  simp only [List.range'_succ, List.range'_zero, List.forIn_cons, List.forIn_nil]
  rw [wp_bind']
  refine im_mkw (S := S.pushCell (im_o0 c)) (h0 := S.heap.size) (i := 0) (c := c) (k := k) (cell := im_o0 c) hk hkind hkc hkindc hl hh (State.heap_pushCell_size _ _) rfl rfl rfl (by omega) (by rw [hz]; omega) (by rw [hu]; omega) fun d1 ac1 => ?_
  simp only
  rw [wp_bind']
  refine im_mkw (S := im_s1 S c comp) (h0 := S.heap.size) (i := 0 + 1) (c := c) (k := k) (cell := im_o1 c S.heap.size) (by rw [a5]; exact hk) hkind (by rw [a5]; exact hkc) hkindc hl hh a1 rfl rfl (by simp [im_o1, im_o0, Cell.setSlot]) (by omega) (by rw [a2]; omega) (by rw [a6]; omega) fun d2 ac2 => ?_
  simp only
  rw [wp_bind']
  refine im_mkw (S := im_s2 S c comp) (h0 := S.heap.size) (i := 0 + 1 + 1) (c := c) (k := k) (cell := im_o2 c S.heap.size) (by rw [b5]; exact hk) hkind (by rw [b5]; exact hkc) hkindc hl hh b1 rfl rfl (by simp [im_o2, im_o1, im_o0, Cell.setSlot]) (by omega) (by rw [b2]; omega) (by rw [b6]; omega) fun d3 ac3 => ?_
  simp only [wp_pure']
  exact hq _ _
theorem im_nx_top (S : State) (f : JFrame) (h0 i : Nat) (cell : Cell) (comp : ClassId) : im_nx (S.setTop f) h0 i cell comp = (im_nx S h0 i cell comp).setTop f := by
  simp only [im_nx, State.heap_setTop, State.pushCell_setTop, State.setCell_setTop]
theorem im_s3_top (S : State) (f : JFrame) (cA comp : ClassId) : im_s3 (S.setTop f) cA comp = (im_s3 S cA comp).setTop f := by
  simp only [im_s3, im_s2, im_s1, State.heap_setTop, State.pushCell_setTop, im_nx_top]
variable {p : Program} {l : Launch} {e : Env} {R : Room} {s : State} {m : MethodId} {args : Array Value} {below : List Frame} {meth : Method} {c : Code} {T : State} {locs : List Loc} {cells slots : Nat}
theorem im_nx_stand (X : Stand p l e R s m args below meth c T locs cells slots) {h0 i : Nat} {cell : Cell} {comp : ClassId} (hcell : T.heap[h0]? = some cell) : Stand p l e R s m args below meth c (im_nx T h0 i cell comp) (locs ++ [⟨h0, i⟩]) (cells + 1) (slots + 3) := by
  have hlt : h0 < T.heap.size := (Array.getElem?_eq_some_iff.mp hcell).1
  have hcell' : (T.pushCell (im_in comp)).heap[h0]? = some cell := by rw [State.heap_pushCell_of_lt (h := hlt)]; exact hcell
  have h := (X.pushed (im_in comp)).stored hcell' i (.ref T.heap.size)
  exact h
theorem im_multi (X : Stand p l e R s m args below meth c T locs cells slots) (hexec : p.tables.exec = Jvm.exec) {own : String} {index : Nat} (hown : s.vm.findClass own = some m.cls) (hclink : (Cond.classLink own index "[[I").before args s = true) (hover : (Cond.arrayOver (.array .int)).before args s = true) (harr : (Cond.arrayClass .int).before args s = true)
    {g : JFrame} (hg : g.method = m) (hdg : decode c.code g.pc = .ok (.multianewarray index 2, 4)) {rest : List Value} (hstack : g.stack = .int 3 :: .int 3 :: rest) (hcells : cells + 4 ≤ R.cells) (hslots : slots + 12 ≤ R.slots) :
    ∃ (vm₁ : Vm) (cA comp : ClassId), s.vm.findClass ("[" ++ (FieldType.array .int).toString) = some cA ∧ s.vm.findClass (FieldType.array .int).toString = some comp ∧
      Stand p l e R s m args below meth c (im_s3 (T.setVm vm₁) cA comp) (locs ++ [⟨T.heap.size, 0⟩] ++ [⟨T.heap.size, 1⟩] ++ [⟨T.heap.size, 2⟩]) (cells + 4) (slots + 12) ∧
      ∀ target, Steps p.tables e below ((im_s3 (T.setVm vm₁) cA comp).setTop { g with pc := g.pc + 4, stack := .ref T.heap.size :: rest }) target → Steps p.tables e below (T.setTop g) target := by
  subst hg
  have hpl : e.platform.magicAccessors = ({} : Platform).magicAccessors := by rw [X.admits.platform]
  obtain ⟨comp, cA, kA, hcomp, -, hkA, hkindA, hnameA⟩ := arrayOverA_spec hover
  obtain ⟨comp', kC, cc, hcomp', hkC, hkindC⟩ := Cond.arrayClass_spec harr
  have ecomp : comp' = comp := Option.some.inj (hcomp'.symm.trans hcomp)
  subst ecomp
  obtain ⟨c0, hfc0, hcl⟩ := Cond.classLink_spec hown hclink e.platform hpl
  cases hnameA.symm.trans hfc0
  obtain ⟨hg₁, hwarm₁, hready₁⟩ := State.classEntry (e := e) X.warmed hcl
  generalize T.vm.noted g.method.cls index (.cls cA) = vm₁ at hg₁ hwarm₁ hready₁
  have hal : s.vm.Alike vm₁ := hwarm₁.alike
  obtain ⟨kA₁, hkA₁, heA⟩ := hal.2.2 _ _ hkA
  obtain ⟨kC₁, hkC₁, heC⟩ := hal.2.2 _ _ hkC
  have hkindA₁ : kA₁.kind = .array comp' (.array .int) := by rw [heA]; exact hkindA
  have hkindC₁ : kC₁.kind = .array cc .int := by rw [heC]; exact hkindC
  have X₁ := X.noted hwarm₁
  obtain ⟨hr1, hr2⟩ := X.roomAbove hcells hslots
  have Y0 := X₁.pushed (im_o0 cA)
  have Y1 := im_nx_stand Y0 (h0 := T.heap.size) (i := 0) (cell := im_o0 cA) (comp := comp') (State.heap_pushCell_size _ _)
  have Y2 := im_nx_stand Y1 (h0 := T.heap.size) (i := 1) (cell := im_o1 cA T.heap.size) (comp := comp') (im_s1_facts (T.setVm vm₁) cA comp').1
  have Y3 := im_nx_stand Y2 (h0 := T.heap.size) (i := 2) (cell := im_o2 cA T.heap.size) (comp := comp') (im_s2_facts (T.setVm vm₁) cA comp').1
  have XF : Stand p l e R s g.method args below meth c (im_s3 (T.setVm vm₁) cA comp') (locs ++ [⟨T.heap.size, 0⟩] ++ [⟨T.heap.size, 1⟩] ++ [⟨T.heap.size, 2⟩]) (cells + 4) (slots + 12) := by
    have e1 : (im_o0 cA).slots.size = 3 := by simp [im_o0]
    rw [e1] at Y3
    exact Y3
  refine ⟨vm₁, cA, comp', hnameA, hcomp, XF, fun target hrest => ?_⟩
  have hl1 : ¬ 3 > e.platform.arrayLengthLimit := by rw [Launch.admits_arrayLengthLimit X.admits]; decide
  have hh1 : ¬ 3 * 4 > e.platform.maxHeapBytes := by rw [Launch.admits_maxHeapBytes X.admits]; decide
  jvm_step X.here [hexec, hdg]
  simp only [Op.multianewarray.sem, wp_bind', W.resolveClassAt_links (State.method?_setTop g X.here.top) hg₁]
  rw [W.popN, if_neg (by decide)]
  refine ⟨g, State.topJava?_setTop' (s := T.setVm vm₁) g X.here.top, [.int 3, .int 3], rest, rfl, hstack, ?_⟩
  simp only [List.mapM_cons, List.mapM_nil, wp_bind', wp_pure']
  refine im_mk2 (k := kA₁) (kc := kC₁) (comp := comp') (cc := cc) hkA₁ hkindA₁ hkC₁ hkindC₁ hl1 hh1 (by show T.heap.size + 4 ≤ _; omega) (by show T.slotsUsed + 12 ≤ _; omega) (fun d' acts' => ?_)
  have eS : ((T.setTop g).setVm vm₁).setTop { g with stack := rest } = (T.setVm vm₁).setTop { g with stack := rest } := by
    show ((T.setVm vm₁).setTop g).setTop _ = _
    rw [State.setTop_setTop]
  rw [eS, im_s3_top]
  simp only [wp_bind', W.mark, W.pushRef, State.topJava?_setTop' _ XF.here.top, Option.some.injEq, exists_eq_left', State.setTop_setTop, State.heap_setTop]
  intro acts
  simp [jvm, XF.here.top]
  exact hrest
theorem im_o3_slots (cA : ClassId) (h0 : Nat) : (im_o3 cA h0).slots[0]? = some (.ref (h0 + 1)) ∧ (im_o3 cA h0).slots[1]? = some (.ref (h0 + 2)) ∧ (im_o3 cA h0).slots[2]? = some (.ref (h0 + 3)) ∧ (im_o3 cA h0).slots.size = 3 ∧ (im_o3 cA h0).cls = cA ∧ (im_o3 cA h0).vm = .none := by
  refine ⟨?_, ?_, ?_, ?_, rfl, rfl⟩ <;> simp [im_o3, im_o2, im_o1, im_o0, Cell.setSlot]
end MULTI
end
