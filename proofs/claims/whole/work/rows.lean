section
/-! An abstract machine, first part: instructions that touch the locals and the operand stack alone. A value of the abstract
machine is a Value whose '.ref k' names a place (a number), not an address; in the locals '.retAddr 0' stands for 'not set'. -/
/-- where a jump goes -/
def im_j (pc : Nat) (off : Int) : Option Nat := if 0 ≤ (pc : Int) + off then some ((pc : Int) + off).toNat else none
abbrev im_S : Type := Nat × List Value × List Value
def im_cst (L len pc : Nat) (v : Int32) (ls st : List Value) : Option im_S := if len = L then some (pc + L, ls, .int v :: st) else none
def im_ldI (L len pc k : Nat) (ls st : List Value) : Option im_S := if len = L then (match ls[k]? with | some (.int x) => some (pc + L, ls, .int x :: st) | _ => none) else none
def im_ldA (L len pc k : Nat) (ls st : List Value) : Option im_S := if len = L then (match ls[k]? with | some (.ref x) => some (pc + L, ls, .ref x :: st) | _ => none) else none
def im_stI (L len pc k : Nat) (ls st : List Value) : Option im_S := if len = L then (match st with | .int x :: r => (if k < ls.length then some (pc + L, ls.set k (.int x), r) else none) | _ => none) else none
def im_stA (L len pc k : Nat) (ls st : List Value) : Option im_S := if len = L then (match st with | .ref x :: r => (if k < ls.length then some (pc + L, ls.set k (.ref x), r) else none) | _ => none) else none
def im_inc (len pc k : Nat) (n : Int) (ls st : List Value) : Option im_S := if len = 3 then (match ls[k]? with | some (.int x) => some (pc + 3, ls.set k (.int (x + Int32.ofInt n)), st) | _ => none) else none
def im_b2 (f : Int32 → Int32 → Int32) (len pc : Nat) (ls st : List Value) : Option im_S := if len = 1 then (match st with | .int y :: .int x :: r => some (pc + 1, ls, .int (f x y) :: r) | _ => none) else none
def im_dv (f : Int32 → Int32 → Int32) (len pc : Nat) (ls st : List Value) : Option im_S := if len = 1 then (match st with | .int y :: .int x :: r => (if y = 0 then none else some (pc + 1, ls, .int (f x y) :: r)) | _ => none) else none
def im_u1 (f : Int32 → Value) (len pc : Nat) (ls st : List Value) : Option im_S := if len = 1 then (match st with | .int x :: r => some (pc + 1, ls, f x :: r) | _ => none) else none
def im_lc (len pc : Nat) (ls st : List Value) : Option im_S := if len = 1 then (match st with | .long y :: .long x :: r => some (pc + 1, ls, .int (lg_cmp x y) :: r) | _ => none) else none
def im_if (b : Int32 → Bool) (len pc : Nat) (off : Int) (ls st : List Value) : Option im_S := if len = 3 then (match st with | .int x :: r => (match im_j pc off with | some t => some (if b x then t else pc + 3, ls, r) | none => none) | _ => none) else none
def im_ic (b : Int32 → Int32 → Bool) (len pc : Nat) (off : Int) (ls st : List Value) : Option im_S := if len = 3 then (match st with | .int y :: .int x :: r => (match im_j pc off with | some t => some (if b x y then t else pc + 3, ls, r) | none => none) | _ => none) else none
def im_go (len pc : Nat) (off : Int) (ls st : List Value) : Option im_S := if len = 3 then (match im_j pc off with | some t => some (t, ls, st) | none => none) else none
def im_c1 (v : Value) : Bool := v.category == 1
def im_dup (len pc : Nat) (ls st : List Value) : Option im_S := if len = 1 then (match st with | v :: r => (if im_c1 v then some (pc + 1, ls, v :: v :: r) else none) | _ => none) else none
def im_pop (len pc : Nat) (ls st : List Value) : Option im_S := if len = 1 then (match st with | v :: r => (if im_c1 v then some (pc + 1, ls, r) else none) | _ => none) else none
def im_dup2 (len pc : Nat) (ls st : List Value) : Option im_S := if len = 1 then (match st with | v :: w :: r => (if im_c1 v && im_c1 w then some (pc + 1, ls, v :: w :: v :: w :: r) else none) | _ => none) else none
def im_dupx1 (len pc : Nat) (ls st : List Value) : Option im_S := if len = 1 then (match st with | v :: w :: r => (if im_c1 v && im_c1 w then some (pc + 1, ls, v :: w :: v :: r) else none) | _ => none) else none
def im_ts (pc : Nat) (dflt lo hi : Int) (offs : Array Int) (ls st : List Value) : Option im_S := match st with
  | .int x :: r =>
    if x.toInt < lo ∨ hi < x.toInt then (match im_j pc dflt with | some t => some (t, ls, r) | none => none)
    else (match offs[(x.toInt - lo).toNat]? with | some off => (match im_j pc off with | some t => some (t, ls, r) | none => none) | none => none)
  | _ => none
def im_p (i : Instr) (len pc : Nat) (ls st : List Value) : Option im_S := match i with
  | .iconst n => im_cst 1 len pc (Int32.ofInt n) ls st
  | .bipush n => im_cst 2 len pc (Int8.ofInt n).toInt32 ls st
  | .sipush n => im_cst 3 len pc (Int16.ofInt n).toInt32 ls st
  | .iload_n k => im_ldI 1 len pc k ls st
  | .iload k => im_ldI 2 len pc k ls st
  | .aload_n k => im_ldA 1 len pc k ls st
  | .aload k => im_ldA 2 len pc k ls st
  | .istore_n k => im_stI 1 len pc k ls st
  | .istore k => im_stI 2 len pc k ls st
  | .astore_n k => im_stA 1 len pc k ls st
  | .astore k => im_stA 2 len pc k ls st
  | .iinc k n => im_inc len pc k n ls st
  | .iadd => im_b2 (fun x y => x + y) len pc ls st
  | .isub => im_b2 (fun x y => x - y) len pc ls st
  | .imul => im_b2 (fun x y => x * y) len pc ls st
  | .iand => im_b2 (fun x y => x &&& y) len pc ls st
  | .ior => im_b2 (fun x y => x ||| y) len pc ls st
  | .ixor => im_b2 (fun x y => x ^^^ y) len pc ls st
  | .ishl => im_b2 (fun x y => x <<< (y &&& 31)) len pc ls st
  | .ishr => im_b2 (fun x y => x >>> (y &&& 31)) len pc ls st
  | .idiv => im_dv (fun x y => x / y) len pc ls st
  | .irem => im_dv (fun x y => x - x / y * y) len pc ls st
  | .i2c => im_u1 (fun x => .int (x.toUInt32 % 65536).toInt32) len pc ls st
  | .i2l => im_u1 (fun x => .long x.toInt64) len pc ls st
  | .lcmp => im_lc len pc ls st
  | .dup => im_dup len pc ls st
  | .pop => im_pop len pc ls st
  | .dup2 => im_dup2 len pc ls st
  | .dup_x1 => im_dupx1 len pc ls st
  | .ifCond .eq off => im_if (fun x => x = 0) len pc off ls st
  | .ifCond .ne off => im_if (fun x => ¬ x = 0) len pc off ls st
  | .ifCond .lt off => im_if (fun x => x < 0) len pc off ls st
  | .ifCond .ge off => im_if (fun x => 0 ≤ x) len pc off ls st
  | .ifCond .gt off => im_if (fun x => 0 < x) len pc off ls st
  | .ifCond .le off => im_if (fun x => x ≤ 0) len pc off ls st
  | .if_icmp .eq off => im_ic (fun x y => x = y) len pc off ls st
  | .if_icmp .ne off => im_ic (fun x y => ¬ x = y) len pc off ls st
  | .if_icmp .lt off => im_ic (fun x y => x < y) len pc off ls st
  | .if_icmp .ge off => im_ic (fun x y => y ≤ x) len pc off ls st
  | .if_icmp .gt off => im_ic (fun x y => y < x) len pc off ls st
  | .if_icmp .le off => im_ic (fun x y => x ≤ y) len pc off ls st
  | .goto off => im_go len pc off ls st
  | .tableswitch dflt lo hi offs => im_ts pc dflt lo hi offs ls st
  | _ => none
/-- from places to addresses -/
def im_v (ad : Nat → Nat) : Value → Value
  | .ref k => .ref (ad k)
  | v => v
theorem im_v_cat (ad : Nat → Nat) (v : Value) : (im_v ad v).category = v.category := by cases v <;> rfl
/-- the locals of the frame are those of the abstract machine -/
def im_ll (ad : Nat → Nat) (ls : List Value) : List (Nat × Value) := (List.range ls.length).filterMap fun i => match ls[i]? with
  | some v => if v = .retAddr 0 then none else some (i, im_v ad v)
  | none => none
theorem im_ll_mem {ad : Nat → Nat} {ls : List Value} {q : Nat × Value} : q ∈ im_ll ad ls ↔ ∃ v, ls[q.1]? = some v ∧ v ≠ .retAddr 0 ∧ q.2 = im_v ad v := by
  obtain ⟨i, w⟩ := q
  unfold im_ll
  rw [List.mem_filterMap]
  constructor
  · rintro ⟨j, -, hj⟩
    cases hv : ls[j]? with
    | none => rw [hv] at hj; cases hj
    | some v =>
      rw [hv] at hj
      by_cases hr : v = .retAddr 0
      · simp [hr] at hj
      · simp only [hr, if_false, Option.some.injEq, Prod.mk.injEq] at hj
        obtain ⟨rfl, rfl⟩ := hj
        exact ⟨v, hv, hr, rfl⟩
  · rintro ⟨v, hv, hr, rfl⟩
    refine ⟨i, List.mem_range.mpr (List.getElem?_eq_some_iff.mp hv).1, ?_⟩
    simp only at hv
    rw [hv]
    simp [hr]
def im_L (ad : Nat → Nat) (nL : Nat) (ls : List Value) (lr : Array Slot) : Prop := ls.length = nL ∧ (∀ v ∈ ls, v.category = 1) ∧ lv_has lr nL (im_ll ad ls)
theorem im_L.get {ad : Nat → Nat} {nL : Nat} {ls : List Value} {lr : Array Slot} (h : im_L ad nL ls lr) {k : Nat} {v : Value} (hv : ls[k]? = some v) (hr : v ≠ .retAddr 0) : lr[k]? = some (.val (im_v ad v)) :=
  h.2.2.2.2 (k, im_v ad v) (im_ll_mem.mpr ⟨v, hv, hr, rfl⟩)
theorem im_L.size {ad : Nat → Nat} {nL : Nat} {ls : List Value} {lr : Array Slot} (h : im_L ad nL ls lr) : lr.size = nL := h.2.2.1
/-- behind a store -/
theorem im_L.put {ad : Nat → Nat} {nL : Nat} {ls : List Value} {lr lr' : Array Slot} (h : im_L ad nL ls lr) {k : Nat} {v : Value} (hk : k < ls.length) (hc : v.category = 1)
    (h' : lv_has lr' nL ((k, im_v ad v) :: (im_ll ad ls).filter (fun q => !(q.1 == k) && !(q.1 + 1 == k && q.2.category == 2)))) : im_L ad nL (ls.set k v) lr' := by
  refine ⟨by rw [List.length_set]; exact h.1, fun w hw => ?_, h'.1, h'.2.1, fun q hq => ?_⟩
  · rcases List.mem_or_eq_of_mem_set hw with hw | hw
    · exact h.2.1 w hw
    · rw [hw]; exact hc
  · obtain ⟨w, hw, hr, hq2⟩ := im_ll_mem.mp hq
    refine h'.2.2 q ?_
    by_cases hj : q.1 = k
    · rw [hj, List.getElem?_set_self hk] at hw
      cases hw
      refine List.mem_cons.mpr (Or.inl ?_)
      rw [← hj, ← hq2]
    · rw [List.getElem?_set_ne (fun e => hj e.symm)] at hw
      refine List.mem_cons.mpr (Or.inr (List.mem_filter.mpr ⟨im_ll_mem.mpr ⟨w, hw, hr, hq2⟩, ?_⟩))
      have hc2 : q.2.category = 1 := by rw [hq2, im_v_cat]; exact h.2.1 w (List.mem_of_getElem? hw)
      simp [hj, hc2]
theorem im_L.cat {ad : Nat → Nat} {nL : Nat} {ls : List Value} {lr : Array Slot} (h : im_L ad nL ls lr) {k : Nat} {v : Value} (hv : ls[k]? = some v) : v.category = 1 := h.2.1 v (List.mem_of_getElem? hv)
theorem im_j_spec {pc t : Nat} {off : Int} (h : im_j pc off = some t) : (pc : Int) + off = (t : Int) := by
  unfold im_j at h
  split at h
  · rename_i h0
    cases h
    omega
  · cases h
section PURE
variable {p : Program} {l : Launch} {e : Env} {R : Room} {s : State} {m : MethodId} {args : Array Value} {below : List Frame} {meth : Method} {c : Code} {H : Heap} {locs : List Loc} {cells slots : Nat} {Q : State → Prop}
variable {cc : ByteArray} {pc len nL : Nat} {ad : Nat → Nat} {ls st : List Value} {lr : Array Slot} {r : im_S}
theorem im_cst_ok {L : Nat} {v : Int32} {rest : List Value} (h : im_cst L len pc v ls st = some r) (hL : im_L ad nL ls lr)
    (row : len = L → W p l e R s m args below meth c H locs cells slots Q (F0 m (pc + L) lr (.int v :: st.map (im_v ad))) → W p l e R s m args below meth c H locs cells slots Q (F0 m pc lr (st.map (im_v ad))))
    (kk : ∀ lr', im_L ad nL r.2.1 lr' → W p l e R s m args below meth c H locs cells slots Q (F0 m r.1 lr' (r.2.2.map (im_v ad)))) : W p l e R s m args below meth c H locs cells slots Q (F0 m pc lr (st.map (im_v ad))) := by
  unfold im_cst at h
  split at h
  · rename_i hl
    cases h
    exact row hl (kk lr hL)
  · cases h
theorem im_ldI_ok {L k : Nat} (h : im_ldI L len pc k ls st = some r) (hL : im_L ad nL ls lr)
    (row : ∀ x, len = L → lr[k]? = some (.val (.int x)) → W p l e R s m args below meth c H locs cells slots Q (F0 m (pc + L) lr (.int x :: st.map (im_v ad))) → W p l e R s m args below meth c H locs cells slots Q (F0 m pc lr (st.map (im_v ad))))
    (kk : ∀ lr', im_L ad nL r.2.1 lr' → W p l e R s m args below meth c H locs cells slots Q (F0 m r.1 lr' (r.2.2.map (im_v ad)))) : W p l e R s m args below meth c H locs cells slots Q (F0 m pc lr (st.map (im_v ad))) := by
  unfold im_ldI at h
  split at h
  · rename_i hl
    split at h
    · rename_i x hx
      cases h
      exact row x hl (hL.get hx (by simp)) (kk lr hL)
    · cases h
  · cases h
theorem im_ldA_ok {L k : Nat} (h : im_ldA L len pc k ls st = some r) (hL : im_L ad nL ls lr)
    (row : ∀ x, len = L → lr[k]? = some (.val (.ref x)) → W p l e R s m args below meth c H locs cells slots Q (F0 m (pc + L) lr (.ref x :: st.map (im_v ad))) → W p l e R s m args below meth c H locs cells slots Q (F0 m pc lr (st.map (im_v ad))))
    (kk : ∀ lr', im_L ad nL r.2.1 lr' → W p l e R s m args below meth c H locs cells slots Q (F0 m r.1 lr' (r.2.2.map (im_v ad)))) : W p l e R s m args below meth c H locs cells slots Q (F0 m pc lr (st.map (im_v ad))) := by
  unfold im_ldA at h
  split at h
  · rename_i hl
    split at h
    · rename_i x hx
      cases h
      exact row (ad x) hl (hL.get hx (by simp)) (kk lr hL)
    · cases h
  · cases h
theorem im_stI_ok {L k : Nat} (h : im_stI L len pc k ls st = some r) (hL : im_L ad nL ls lr)
    (row : ∀ x rest, len = L → k < nL → (∀ lr', lv_has lr' nL ((k, .int x) :: (im_ll ad ls).filter (fun q => !(q.1 == k) && !(q.1 + 1 == k && q.2.category == 2))) → W p l e R s m args below meth c H locs cells slots Q (F0 m (pc + L) lr' rest)) → W p l e R s m args below meth c H locs cells slots Q (F0 m pc lr (.int x :: rest)))
    (kk : ∀ lr', im_L ad nL r.2.1 lr' → W p l e R s m args below meth c H locs cells slots Q (F0 m r.1 lr' (r.2.2.map (im_v ad)))) : W p l e R s m args below meth c H locs cells slots Q (F0 m pc lr (st.map (im_v ad))) := by
  unfold im_stI at h
  split at h
  · rename_i hl
    split at h
    · rename_i x rest
      split at h
      · rename_i hk
        cases h
        exact row x _ hl (by rw [← hL.1]; exact hk) fun lr' h' => kk lr' (hL.put hk rfl h')
      · cases h
    · cases h
  · cases h
theorem im_stA_ok {L k : Nat} (h : im_stA L len pc k ls st = some r) (hL : im_L ad nL ls lr)
    (row : ∀ x rest, len = L → k < nL → (∀ lr', lv_has lr' nL ((k, .ref x) :: (im_ll ad ls).filter (fun q => !(q.1 == k) && !(q.1 + 1 == k && q.2.category == 2))) → W p l e R s m args below meth c H locs cells slots Q (F0 m (pc + L) lr' rest)) → W p l e R s m args below meth c H locs cells slots Q (F0 m pc lr (.ref x :: rest)))
    (kk : ∀ lr', im_L ad nL r.2.1 lr' → W p l e R s m args below meth c H locs cells slots Q (F0 m r.1 lr' (r.2.2.map (im_v ad)))) : W p l e R s m args below meth c H locs cells slots Q (F0 m pc lr (st.map (im_v ad))) := by
  unfold im_stA at h
  split at h
  · rename_i hl
    split at h
    · rename_i x rest
      split at h
      · rename_i hk
        cases h
        exact row (ad x) _ hl (by rw [← hL.1]; exact hk) fun lr' h' => kk lr' (hL.put (v := .ref x) hk rfl h')
      · cases h
    · cases h
  · cases h
theorem im_b2_ok {f : Int32 → Int32 → Int32} (h : im_b2 f len pc ls st = some r) (hL : im_L ad nL ls lr)
    (row : ∀ x y rest, len = 1 → W p l e R s m args below meth c H locs cells slots Q (F0 m (pc + 1) lr (.int (f x y) :: rest)) → W p l e R s m args below meth c H locs cells slots Q (F0 m pc lr (.int y :: .int x :: rest)))
    (kk : ∀ lr', im_L ad nL r.2.1 lr' → W p l e R s m args below meth c H locs cells slots Q (F0 m r.1 lr' (r.2.2.map (im_v ad)))) : W p l e R s m args below meth c H locs cells slots Q (F0 m pc lr (st.map (im_v ad))) := by
  unfold im_b2 at h
  split at h
  · rename_i hl
    split at h
    · rename_i y x rest
      cases h
      exact row x y _ hl (kk lr hL)
    · cases h
  · cases h
theorem im_dv_ok {f : Int32 → Int32 → Int32} (h : im_dv f len pc ls st = some r) (hL : im_L ad nL ls lr)
    (row : ∀ x y rest, len = 1 → ¬ y = 0 → W p l e R s m args below meth c H locs cells slots Q (F0 m (pc + 1) lr (.int (f x y) :: rest)) → W p l e R s m args below meth c H locs cells slots Q (F0 m pc lr (.int y :: .int x :: rest)))
    (kk : ∀ lr', im_L ad nL r.2.1 lr' → W p l e R s m args below meth c H locs cells slots Q (F0 m r.1 lr' (r.2.2.map (im_v ad)))) : W p l e R s m args below meth c H locs cells slots Q (F0 m pc lr (st.map (im_v ad))) := by
  unfold im_dv at h
  split at h
  · rename_i hl
    split at h
    · rename_i y x rest
      split at h
      · cases h
      · rename_i hy
        cases h
        exact row x y _ hl hy (kk lr hL)
    · cases h
  · cases h
theorem im_u1_ok {f : Int32 → Value} (h : im_u1 f len pc ls st = some r) (hL : im_L ad nL ls lr) (hf : ∀ x, im_v ad (f x) = f x)
    (row : ∀ x rest, len = 1 → W p l e R s m args below meth c H locs cells slots Q (F0 m (pc + 1) lr (f x :: rest)) → W p l e R s m args below meth c H locs cells slots Q (F0 m pc lr (.int x :: rest)))
    (kk : ∀ lr', im_L ad nL r.2.1 lr' → W p l e R s m args below meth c H locs cells slots Q (F0 m r.1 lr' (r.2.2.map (im_v ad)))) : W p l e R s m args below meth c H locs cells slots Q (F0 m pc lr (st.map (im_v ad))) := by
  unfold im_u1 at h
  split at h
  · rename_i hl
    split at h
    · rename_i x rest
      cases h
      refine row x _ hl ?_
      have := kk lr hL
      simpa only [List.map_cons, hf] using this
    · cases h
  · cases h
theorem im_if_ok {b : Int32 → Bool} {off : Int} (h : im_if b len pc off ls st = some r) (hL : im_L ad nL ls lr)
    (row : ∀ (x : Int32) (t : Nat) (rest : List Value), len = 3 → (pc : Int) + off = (t : Int) → (b x = true → W p l e R s m args below meth c H locs cells slots Q (F0 m t lr rest)) → (¬ b x = true → W p l e R s m args below meth c H locs cells slots Q (F0 m (pc + 3) lr rest)) → W p l e R s m args below meth c H locs cells slots Q (F0 m pc lr (.int x :: rest)))
    (kk : ∀ lr', im_L ad nL r.2.1 lr' → W p l e R s m args below meth c H locs cells slots Q (F0 m r.1 lr' (r.2.2.map (im_v ad)))) : W p l e R s m args below meth c H locs cells slots Q (F0 m pc lr (st.map (im_v ad))) := by
  unfold im_if at h
  split at h
  · rename_i hl
    split at h
    · rename_i x rest
      split at h
      · rename_i t ht
        cases h
        have k1 := kk lr hL
        refine row x t _ hl (im_j_spec ht) (fun hb => ?_) (fun hb => ?_)
        · simpa only [hb, if_true] using k1
        · simpa only [hb, Bool.false_eq_true, if_false] using k1
      · cases h
    · cases h
  · cases h
theorem im_ic_ok {b : Int32 → Int32 → Bool} {off : Int} (h : im_ic b len pc off ls st = some r) (hL : im_L ad nL ls lr)
    (row : ∀ (x y : Int32) (t : Nat) (rest : List Value), len = 3 → (pc : Int) + off = (t : Int) → (b x y = true → W p l e R s m args below meth c H locs cells slots Q (F0 m t lr rest)) → (¬ b x y = true → W p l e R s m args below meth c H locs cells slots Q (F0 m (pc + 3) lr rest)) → W p l e R s m args below meth c H locs cells slots Q (F0 m pc lr (.int y :: .int x :: rest)))
    (kk : ∀ lr', im_L ad nL r.2.1 lr' → W p l e R s m args below meth c H locs cells slots Q (F0 m r.1 lr' (r.2.2.map (im_v ad)))) : W p l e R s m args below meth c H locs cells slots Q (F0 m pc lr (st.map (im_v ad))) := by
  unfold im_ic at h
  split at h
  · rename_i hl
    split at h
    · rename_i y x rest
      split at h
      · rename_i t ht
        cases h
        have k1 := kk lr hL
        refine row x y t _ hl (im_j_spec ht) (fun hb => ?_) (fun hb => ?_)
        · simpa only [hb, if_true] using k1
        · simpa only [hb, Bool.false_eq_true, if_false] using k1
      · cases h
    · cases h
  · cases h
theorem im_inc_ok {k : Nat} {n : Int} (hx : p.tables.exec = Jvm.exec) (hb : c.code = cc) (hdg : decode cc pc = .ok (.iinc k n, len)) (h : im_inc len pc k n ls st = some r) (hL : im_L ad nL ls lr)
    (kk : ∀ lr', im_L ad nL r.2.1 lr' → W p l e R s m args below meth c H locs cells slots Q (F0 m r.1 lr' (r.2.2.map (im_v ad)))) : W p l e R s m args below meth c H locs cells slots Q (F0 m pc lr (st.map (im_v ad))) := by
  unfold im_inc at h
  split at h
  · rename_i hl
    split at h
    · rename_i x hx2
      cases h
      have hk : k < ls.length := (List.getElem?_eq_some_iff.mp hx2).1
      obtain ⟨j, hj⟩ := List.getElem?_of_mem (im_ll_mem (ad := ad) (ls := ls) (q := (k, .int x)) |>.mpr ⟨.int x, hx2, by simp, rfl⟩)
      exact lv_iinc hx hb (by rw [hdg, hl]) hL.2.2 hj rfl (by rw [← hL.1]; exact hk) rfl fun lr' h' => kk lr' (hL.put (v := .int (x + Int32.ofInt n)) hk rfl h')
    · cases h
  · cases h
theorem im_lc_ok (hx : p.tables.exec = Jvm.exec) (hb : c.code = cc) (hdg : decode cc pc = .ok (.lcmp, len)) (h : im_lc len pc ls st = some r) (hL : im_L ad nL ls lr)
    (kk : ∀ lr', im_L ad nL r.2.1 lr' → W p l e R s m args below meth c H locs cells slots Q (F0 m r.1 lr' (r.2.2.map (im_v ad)))) : W p l e R s m args below meth c H locs cells slots Q (F0 m pc lr (st.map (im_v ad))) := by
  unfold im_lc at h
  split at h
  · rename_i hl
    split at h
    · rename_i y x rest
      cases h
      exact W.lcmp hx hb (by rw [hdg, hl]) (kk lr hL)
    · cases h
  · cases h
theorem im_c1_cat {v : Value} (h : im_c1 v = true) : (im_v ad v).category = 1 := by rw [im_v_cat]; simpa [im_c1] using h
theorem im_dup_ok (hx : p.tables.exec = Jvm.exec) (hb : c.code = cc) (hdg : decode cc pc = .ok (.dup, len)) (h : im_dup len pc ls st = some r) (hL : im_L ad nL ls lr)
    (kk : ∀ lr', im_L ad nL r.2.1 lr' → W p l e R s m args below meth c H locs cells slots Q (F0 m r.1 lr' (r.2.2.map (im_v ad)))) : W p l e R s m args below meth c H locs cells slots Q (F0 m pc lr (st.map (im_v ad))) := by
  unfold im_dup at h
  split at h
  · rename_i hl
    split at h
    · rename_i v rest
      split at h
      · rename_i hc
        cases h
        exact lv_dup hx hb (by rw [hdg, hl]) (im_c1_cat hc) (kk lr hL)
      · cases h
    · cases h
  · cases h
theorem im_pop_ok (hx : p.tables.exec = Jvm.exec) (hb : c.code = cc) (hdg : decode cc pc = .ok (.pop, len)) (h : im_pop len pc ls st = some r) (hL : im_L ad nL ls lr)
    (kk : ∀ lr', im_L ad nL r.2.1 lr' → W p l e R s m args below meth c H locs cells slots Q (F0 m r.1 lr' (r.2.2.map (im_v ad)))) : W p l e R s m args below meth c H locs cells slots Q (F0 m pc lr (st.map (im_v ad))) := by
  unfold im_pop at h
  split at h
  · rename_i hl
    split at h
    · rename_i v rest
      split at h
      · rename_i hc
        cases h
        exact lv_pop hx hb (by rw [hdg, hl]) (im_c1_cat hc) (kk lr hL)
      · cases h
    · cases h
  · cases h
theorem im_dup2_ok (hx : p.tables.exec = Jvm.exec) (hb : c.code = cc) (hdg : decode cc pc = .ok (.dup2, len)) (h : im_dup2 len pc ls st = some r) (hL : im_L ad nL ls lr)
    (kk : ∀ lr', im_L ad nL r.2.1 lr' → W p l e R s m args below meth c H locs cells slots Q (F0 m r.1 lr' (r.2.2.map (im_v ad)))) : W p l e R s m args below meth c H locs cells slots Q (F0 m pc lr (st.map (im_v ad))) := by
  unfold im_dup2 at h
  split at h
  · rename_i hl
    split at h
    · rename_i v w rest
      split at h
      · rename_i hc
        cases h
        rw [Bool.and_eq_true] at hc
        exact lv_dup2_11 hx hb (by rw [hdg, hl]) (im_c1_cat hc.1) (im_c1_cat hc.2) (kk lr hL)
      · cases h
    · cases h
  · cases h
theorem im_dupx1_ok (hx : p.tables.exec = Jvm.exec) (hb : c.code = cc) (hdg : decode cc pc = .ok (.dup_x1, len)) (h : im_dupx1 len pc ls st = some r) (hL : im_L ad nL ls lr)
    (kk : ∀ lr', im_L ad nL r.2.1 lr' → W p l e R s m args below meth c H locs cells slots Q (F0 m r.1 lr' (r.2.2.map (im_v ad)))) : W p l e R s m args below meth c H locs cells slots Q (F0 m pc lr (st.map (im_v ad))) := by
  unfold im_dupx1 at h
  split at h
  · rename_i hl
    split at h
    · rename_i v w rest
      split at h
      · rename_i hc
        cases h
        rw [Bool.and_eq_true] at hc
        exact lv_dup_x1 hx hb (by rw [hdg, hl]) (im_c1_cat hc.1) (im_c1_cat hc.2) (kk lr hL)
      · cases h
    · cases h
  · cases h
theorem im_go_ok {off : Int} (hx : p.tables.exec = Jvm.exec) (hb : c.code = cc) (hdg : decode cc pc = .ok (.goto off, len)) (h : im_go len pc off ls st = some r) (hL : im_L ad nL ls lr)
    (kk : ∀ lr', im_L ad nL r.2.1 lr' → W p l e R s m args below meth c H locs cells slots Q (F0 m r.1 lr' (r.2.2.map (im_v ad)))) : W p l e R s m args below meth c H locs cells slots Q (F0 m pc lr (st.map (im_v ad))) := by
  unfold im_go at h
  split at h
  · rename_i hl
    split at h
    · rename_i t ht
      cases h
      exact lv_goto hx hb (by rw [hdg, hl]) (im_j_spec ht) (kk lr hL)
    · cases h
  · cases h
theorem im_ts_ok {dflt lo hi : Int} {offs : Array Int} (hx : p.tables.exec = Jvm.exec) (hb : c.code = cc) (hdg : decode cc pc = .ok (.tableswitch dflt lo hi offs, len)) (h : im_ts pc dflt lo hi offs ls st = some r) (hL : im_L ad nL ls lr)
    (kk : ∀ lr', im_L ad nL r.2.1 lr' → W p l e R s m args below meth c H locs cells slots Q (F0 m r.1 lr' (r.2.2.map (im_v ad)))) : W p l e R s m args below meth c H locs cells slots Q (F0 m pc lr (st.map (im_v ad))) := by
  unfold im_ts at h
  split at h
  · rename_i x rest
    split at h
    · rename_i hout
      split at h
      · rename_i t ht
        cases h
        exact lv_tableOut hx hb hdg hout (im_j_spec ht) (kk lr hL)
      · cases h
    · rename_i hin
      split at h
      · rename_i off ho
        split at h
        · rename_i t ht
          cases h
          exact lv_tableIn hx hb hdg (fun q => hin (Or.inl q)) (fun q => hin (Or.inr q)) ho (im_j_spec ht) (kk lr hL)
        · cases h
      · cases h
  · cases h
theorem im_p_ok (i : Instr) (hx : p.tables.exec = Jvm.exec) (hb : c.code = cc) (hdg : decode cc pc = .ok (i, len)) (h : im_p i len pc ls st = some r) (hL : im_L ad nL ls lr)
    (kk : ∀ lr', im_L ad nL r.2.1 lr' → W p l e R s m args below meth c H locs cells slots Q (F0 m r.1 lr' (r.2.2.map (im_v ad)))) : W p l e R s m args below meth c H locs cells slots Q (F0 m pc lr (st.map (im_v ad))) := by
  cases i with
  | iconst n => exact im_cst_ok (rest := []) h hL (fun hl k => lv_iconst hx hb (by rw [hdg, hl]) rfl k) kk
  | bipush n => exact im_cst_ok (rest := []) h hL (fun hl k => lv_bipush hx hb (by rw [hdg, hl]) rfl k) kk
  | sipush n => exact im_cst_ok (rest := []) h hL (fun hl k => lv_sipush hx hb (by rw [hdg, hl]) rfl k) kk
  | iload_n k => exact im_ldI_ok h hL (fun x hl hg k => lv_iload_n hx hb (by rw [hdg, hl]) rfl hg k) kk
  | iload k => exact im_ldI_ok h hL (fun x hl hg k => lv_iload hx hb (by rw [hdg, hl]) hg k) kk
  | aload_n k => exact im_ldA_ok h hL (fun x hl hg k => lv_aload_n hx hb (by rw [hdg, hl]) rfl hg k) kk
  | aload k => exact im_ldA_ok h hL (fun x hl hg k => lv_aload hx hb (by rw [hdg, hl]) hg k) kk
  | istore_n k => exact im_stI_ok h hL (fun x rest hl hk k => lv_istore_n hx hb (by rw [hdg, hl]) rfl hL.2.2 hk rfl k) kk
  | istore k => exact im_stI_ok h hL (fun x rest hl hk k => lv_istore hx hb (by rw [hdg, hl]) hL.2.2 hk rfl k) kk
  | astore_n k => exact im_stA_ok h hL (fun x rest hl hk k => lv_astore_n hx hb (by rw [hdg, hl]) rfl hL.2.2 hk rfl k) kk
  | astore k => exact im_stA_ok h hL (fun x rest hl hk k => lv_astore hx hb (by rw [hdg, hl]) hL.2.2 hk rfl k) kk
  | iinc k n => exact im_inc_ok hx hb hdg h hL kk
  | iadd => exact im_b2_ok h hL (fun x y rest hl k => lv_iadd hx hb (by rw [hdg, hl]) k) kk
  | isub => exact im_b2_ok h hL (fun x y rest hl k => lv_isub hx hb (by rw [hdg, hl]) k) kk
  | imul => exact im_b2_ok h hL (fun x y rest hl k => lv_imul hx hb (by rw [hdg, hl]) k) kk
  | iand => exact im_b2_ok h hL (fun x y rest hl k => lv_iand hx hb (by rw [hdg, hl]) k) kk
  | ior => exact im_b2_ok h hL (fun x y rest hl k => lv_ior hx hb (by rw [hdg, hl]) k) kk
  | ixor => exact im_b2_ok h hL (fun x y rest hl k => lv_ixor hx hb (by rw [hdg, hl]) k) kk
  | ishl => exact im_b2_ok h hL (fun x y rest hl k => lv_ishl hx hb (by rw [hdg, hl]) k) kk
  | ishr => exact im_b2_ok h hL (fun x y rest hl k => lv_ishr hx hb (by rw [hdg, hl]) k) kk
  | idiv => exact im_dv_ok h hL (fun x y rest hl hy k => lv_idiv hx hb (by rw [hdg, hl]) hy k) kk
  | irem => exact im_dv_ok h hL (fun x y rest hl hy k => lv_irem hx hb (by rw [hdg, hl]) hy k) kk
  | i2c => exact im_u1_ok h hL (fun x => rfl) (fun x rest hl k => lv_i2c hx hb (by rw [hdg, hl]) rfl k) kk
  | i2l => exact im_u1_ok h hL (fun x => rfl) (fun x rest hl k => lv_i2l hx hb (by rw [hdg, hl]) rfl k) kk
  | lcmp => exact im_lc_ok hx hb hdg h hL kk
  | dup => exact im_dup_ok hx hb hdg h hL kk
  | pop => exact im_pop_ok hx hb hdg h hL kk
  | dup2 => exact im_dup2_ok hx hb hdg h hL kk
  | dup_x1 => exact im_dupx1_ok hx hb hdg h hL kk
  | ifCond cond off =>
    cases cond with
    | eq => exact im_if_ok h hL (fun x t rest hl ht k1 k2 => lv_if_eq hx hb (by rw [hdg, hl]) ht (fun q => k1 (decide_eq_true q)) (fun q => k2 (by simpa using q))) kk
    | ne => exact im_if_ok h hL (fun x t rest hl ht k1 k2 => lv_if_ne hx hb (by rw [hdg, hl]) ht (fun q => k1 (decide_eq_true q)) (fun q => k2 (by simpa using q))) kk
    | lt => exact im_if_ok h hL (fun x t rest hl ht k1 k2 => lv_if_lt hx hb (by rw [hdg, hl]) ht (fun q => k1 (decide_eq_true q)) (fun q => k2 (by simpa using q))) kk
    | ge => exact im_if_ok h hL (fun x t rest hl ht k1 k2 => lv_if_ge hx hb (by rw [hdg, hl]) ht (fun q => k1 (decide_eq_true q)) (fun q => k2 (by simpa using q))) kk
    | gt => exact im_if_ok h hL (fun x t rest hl ht k1 k2 => lv_if_gt hx hb (by rw [hdg, hl]) ht (fun q => k1 (decide_eq_true q)) (fun q => k2 (by simpa using q))) kk
    | le => exact im_if_ok h hL (fun x t rest hl ht k1 k2 => lv_if_le hx hb (by rw [hdg, hl]) ht (fun q => k1 (decide_eq_true q)) (fun q => k2 (by simpa using q))) kk
  | if_icmp cond off =>
    cases cond with
    | eq => exact im_ic_ok h hL (fun x y t rest hl ht k1 k2 => lv_icmp_eq hx hb (by rw [hdg, hl]) ht (fun q => k1 (decide_eq_true q)) (fun q => k2 (by simpa using q))) kk
    | ne => exact im_ic_ok h hL (fun x y t rest hl ht k1 k2 => lv_icmp_ne hx hb (by rw [hdg, hl]) ht (fun q => k1 (decide_eq_true q)) (fun q => k2 (by simpa using q))) kk
    | lt => exact im_ic_ok h hL (fun x y t rest hl ht k1 k2 => lv_icmp_lt hx hb (by rw [hdg, hl]) ht (fun q => k1 (decide_eq_true q)) (fun q => k2 (by simpa using q))) kk
    | ge => exact im_ic_ok h hL (fun x y t rest hl ht k1 k2 => lv_icmp_ge hx hb (by rw [hdg, hl]) ht (fun q => k1 (decide_eq_true q)) (fun q => k2 (by simpa using q))) kk
    | gt => exact im_ic_ok h hL (fun x y t rest hl ht k1 k2 => lv_icmp_gt hx hb (by rw [hdg, hl]) ht (fun q => k1 (decide_eq_true q)) (fun q => k2 (by simpa using q))) kk
    | le => exact im_ic_ok h hL (fun x y t rest hl ht k1 k2 => lv_icmp_le hx hb (by rw [hdg, hl]) ht (fun q => k1 (decide_eq_true q)) (fun q => k2 (by simpa using q))) kk
  | goto off => exact im_go_ok hx hb hdg h hL kk
  | tableswitch dflt lo hi offs => exact im_ts_ok hx hb hdg h hL kk
  | _ => exact nomatch (show (none : Option im_S) = some r from h)
end PURE
end
section
/-! The abstract machine, second part: the memory. A memory: how many places there are (own ones from 8 on), how many cells
were made that no place names (exceptions), how many slots were used; of each place its kind and length; its contents.
A kind below 30 is a class's number; from 30 on it is an array's. -/
abbrev im_M : Type := (Nat × Nat × Nat) × (Nat → Nat × Nat) × (Nat → Nat → Value)
def im_set (M : im_M) (k j : Nat) (v : Value) : im_M := (M.1, M.2.1, va_up M.2.2 k (va_up (M.2.2 k) j v))
def im_new (M : im_M) (kd len sl : Nat) (f : Nat → Value) : im_M := ((M.1.1 + 1, M.1.2.1, M.1.2.2 + sl), va_up M.2.1 M.1.1 (kd, len), va_up M.2.2 M.1.1 f)
def im_dead (M : im_M) (n sl : Nat) : im_M := ((M.1.1, M.1.2.1 + n, M.1.2.2 + sl), M.2)
/-- cells made in all -/
def im_tot (M : im_M) : Nat := M.1.1 + M.1.2.1
/-- addresses: eight places are given, the others lie one behind another -/
def im_ad (base : Nat) (sp : Nat → Nat) (k : Nat) : Nat := if k < 8 then sp k else base + (k - 8)
/-- what is known of the tables: numbers of classes and slots (D), of array classes (E); (element types: at) -/
def im_K (cl : List vw_C) (aty : Nat → Option FieldType) (D : va_G) (E : Nat → ClassId) (U : State) : Prop :=
  (∀ (c : Nat) (q : vw_C), cl[c]? = some q → u_Kn U q.1 q.2.1 q.2.2 (D.1 c) (D.2 c)) ∧
  ∀ (kd : Nat) (ty : FieldType), aty kd = some ty → ∃ (kA : Class) (comp : ClassId), U.vm.classes[E kd]? = some kA ∧ kA.kind = .array comp ty ∧
    (kd ≠ 39 → U.vm.findClass ("[" ++ ty.toString) = some (E kd)) ∧ (∀ C, ty = .object C → U.vm.findClass C = some comp) ∧ (∀ t, ty = .array t → U.vm.findClass (FieldType.array t).toString = some comp)
theorem im_K.moved {cl : List vw_C} {aty : Nat → Option FieldType} {D : va_G} {E : Nat → ClassId} {u U : State} (hvm : u.vm.Alike U.vm) (h : im_K cl aty D E u) : im_K cl aty D E U := by
  refine ⟨fun c q hq => u_Kn_moved hvm (h.1 c q hq), fun kd ty hty => ?_⟩
  obtain ⟨kA, comp, h1, h2, h3, h4, h5⟩ := h.2 kd ty hty
  obtain ⟨k', hk', he⟩ := hvm.2.2 _ _ h1
  exact ⟨k', comp, hk', by rw [he]; exact h2, fun hk => by rw [hvm.findClass]; exact h3 hk, fun C hC => by rw [hvm.findClass]; exact h4 C hC, fun t ht => by rw [hvm.findClass]; exact h5 t ht⟩
/-- a cell is what a place says -/
def im_cell (nf : Nat → Nat) (D : va_G) (E : Nat → ClassId) (ad : Nat → Nat) (sh : Nat × Nat) (f : Nat → Value) (cell : Cell) : Prop :=
  if sh.1 < 30 then cell.cls = D.1 sh.1 ∧ cell.vm = .none ∧ ∀ j, j < nf sh.1 → cell.slots[D.2 sh.1 j]? = some (im_v ad (f j))
  else cell.cls = E sh.1 ∧ cell.vm ≠ .unknown ∧ (∀ q, cell.vm ≠ .statics q) ∧ cell.slots.size = sh.2 ∧ ∀ j, j < sh.2 → cell.slots[j]? = some (im_v ad (f j))
/-- the heap holds the memory -/
def im_R (nf : Nat → Nat) (D : va_G) (E : Nat → ClassId) (base : Nat) (sp : Nat → Nat) (H0 : Heap) (M : im_M) (H : Heap) : Prop :=
  8 ≤ M.1.1 ∧ H.size + 8 = base + im_tot M ∧ (∀ q, q < base → H[q]? = H0[q]?) ∧ (∀ k, k < 8 → sp k < base) ∧ (∀ (q : Nat) (cell : Cell), base ≤ q → H[q]? = some cell → cell.vm.isStatics = false) ∧
  ∀ k, k < M.1.1 → (8 ≤ k ∨ 30 ≤ (M.2.1 k).1) → ∃ cell, H[im_ad base sp k]? = some cell ∧ im_cell nf D E (im_ad base sp) (M.2.1 k) (M.2.2 k) cell
section REP
variable {nf : Nat → Nat} {D : va_G} {E : Nat → ClassId} {base : Nat} {sp : Nat → Nat} {H0 H H' : Heap} {M : im_M} {k : Nat}
theorem im_ad_own (h : 8 ≤ k) : im_ad base sp k = base + (k - 8) := by simp [im_ad, Nat.not_lt.mpr h]
theorem im_ad_ne {j : Nat} (hs : ∀ k, k < 8 → sp k < base) (h : 8 ≤ k) (hj : j ≠ k) : im_ad base sp j ≠ im_ad base sp k := by
  rw [im_ad_own h]
  unfold im_ad
  split
  · rename_i h8
    have := hs j h8
    omega
  · omega
theorem im_R.at (h : im_R nf D E base sp H0 M H) (hk : k < M.1.1) (h8 : 8 ≤ k ∨ 30 ≤ (M.2.1 k).1) : ∃ cell, H[im_ad base sp k]? = some cell ∧ im_cell nf D E (im_ad base sp) (M.2.1 k) (M.2.2 k) cell := h.2.2.2.2.2 k hk h8
theorem im_cell.ns {ad : Nat → Nat} {sh : Nat × Nat} {f : Nat → Value} {cell : Cell} (h : im_cell nf D E ad sh f cell) : cell.vm.isStatics = false := by
  unfold im_cell at h
  split at h
  · rw [h.2.1]; rfl
  · have h3 := h.2.2.1
    cases hv : cell.vm with
    | statics q => exact absurd hv (h3 q)
    | _ => rfl
theorem im_R.set (h : im_R nf D E base sp H0 M H) (hk : k < M.1.1) (h8 : 8 ≤ k) {j : Nat} {v : Value} {cell : Cell} (hc : H'[im_ad base sp k]? = some cell) (hz : H'.size = H.size) (ho : ∀ q, q ≠ im_ad base sp k → H'[q]? = H[q]?)
    (hcell : im_cell nf D E (im_ad base sp) (M.2.1 k) (va_up (M.2.2 k) j v) cell) : im_R nf D E base sp H0 (im_set M k j v) H' := by
  obtain ⟨h1, h2, h3, h4, h6, h5⟩ := h
  refine ⟨h1, by rw [hz]; exact h2, fun q hq => ?_, h4, fun q c9 hq hc9 => ?_, fun i hi h9 => ?_⟩
  · rw [ho q (by rw [im_ad_own h8]; omega)]
    exact h3 q hq
  · by_cases eq : q = im_ad base sp k
    · subst eq
      cases hc.symm.trans hc9
      exact hcell.ns
    · rw [ho q eq] at hc9
      exact h6 q c9 hq hc9
  · by_cases e : i = k
    · subst e
      exact ⟨cell, hc, by simpa [im_set, va_up_self] using hcell⟩
    · obtain ⟨c', g1, g2⟩ := h5 i hi h9
      exact ⟨c', by rw [ho _ (im_ad_ne h4 h8 e)]; exact g1, by simpa [im_set, va_up_ne _ _ e] using g2⟩
theorem im_R.new (h : im_R nf D E base sp H0 M H) (hg : M.1.2.1 = 0) {kd len sl : Nat} {f : Nat → Value} {cell : Cell} (hc : H'[H.size]? = some cell) (hz : H'.size = H.size + 1) (ho : ∀ q, q < H.size → H'[q]? = H[q]?)
    (hcell : im_cell nf D E (im_ad base sp) (kd, len) f cell) : im_R nf D E base sp H0 (im_new M kd len sl f) H' ∧ im_ad base sp M.1.1 = H.size := by
  obtain ⟨h1, h2, h3, h4, h6, h5⟩ := h
  unfold im_tot at h2
  have had : im_ad base sp M.1.1 = H.size := by rw [im_ad_own h1]; omega
  refine ⟨⟨Nat.le_succ_of_le h1, by simp only [im_new, im_tot]; omega, fun q hq => ?_, h4, fun q c9 hq hc9 => ?_, fun i hi h9 => ?_⟩, had⟩
  · rw [ho q (by omega)]
    exact h3 q hq
  · have hlt : q < H'.size := (Array.getElem?_eq_some_iff.mp hc9).1
    by_cases eq : q = H.size
    · subst eq
      cases hc.symm.trans hc9
      exact hcell.ns
    · rw [ho q (by omega)] at hc9
      exact h6 q c9 hq hc9
  · by_cases e : i = M.1.1
    · subst e
      exact ⟨cell, by rw [had]; exact hc, by simpa [im_new, va_up_self] using hcell⟩
    · have hi' : i < M.1.1 := by have : i < M.1.1 + 1 := hi; omega
      have h9' : 8 ≤ i ∨ 30 ≤ (M.2.1 i).1 := by simpa [im_new, va_up_ne _ _ e] using h9
      obtain ⟨c', g1, g2⟩ := h5 i hi' h9'
      exact ⟨c', by rw [ho _ (Array.getElem?_eq_some_iff.mp g1).1]; exact g1, by simpa [im_new, va_up_ne _ _ e] using g2⟩
theorem im_R.dead (h : im_R nf D E base sp H0 M H) {n sl : Nat} (hz : H'.size = H.size + n) (ho : ∀ q, q < H.size → H'[q]? = H[q]?) (hns : ∀ (q : Nat) (cell : Cell), H.size ≤ q → H'[q]? = some cell → cell.vm.isStatics = false) : im_R nf D E base sp H0 (im_dead M n sl) H' := by
  obtain ⟨h1, h2, h3, h4, h6, h5⟩ := h
  refine ⟨h1, ?_, fun q hq => ?_, h4, fun q c9 hq hc9 => ?_, fun i hi h9 => ?_⟩
  · unfold im_tot at h2
    simp only [im_dead, im_tot]; omega
  · rw [ho q (by unfold im_tot at h2; omega)]
    exact h3 q hq
  · rcases Nat.lt_or_ge q H.size with hl | hl
    · rw [ho q hl] at hc9
      exact h6 q c9 hq hc9
    · exact hns q c9 hl hc9
  · obtain ⟨c', g1, g2⟩ := h5 i hi h9
    exact ⟨c', by rw [ho _ (Array.getElem?_eq_some_iff.mp g1).1]; exact g1, g2⟩
theorem im_cell.obj {ad : Nat → Nat} {sh : Nat × Nat} {f : Nat → Value} {cell : Cell} (h : im_cell nf D E ad sh f cell) (hk : sh.1 < 30) : cell.cls = D.1 sh.1 ∧ cell.vm = .none ∧ ∀ j, j < nf sh.1 → cell.slots[D.2 sh.1 j]? = some (im_v ad (f j)) := by
  unfold im_cell at h
  rwa [if_pos hk] at h
theorem im_cell.arr {ad : Nat → Nat} {sh : Nat × Nat} {f : Nat → Value} {cell : Cell} (h : im_cell nf D E ad sh f cell) (hk : 30 ≤ sh.1) : cell.cls = E sh.1 ∧ cell.vm ≠ .unknown ∧ (∀ q, cell.vm ≠ .statics q) ∧ cell.slots.size = sh.2 ∧ ∀ j, j < sh.2 → cell.slots[j]? = some (im_v ad (f j)) := by
  unfold im_cell at h
  rwa [if_neg (Nat.not_lt.mpr hk)] at h
/-- an array's slot is stored -/
theorem im_cell.put {ad : Nat → Nat} {sh : Nat × Nat} {f : Nat → Value} {cell : Cell} (h : im_cell nf D E ad sh f cell) (hk : 30 ≤ sh.1) {j : Nat} (hj : j < sh.2) (v : Value) : im_cell nf D E ad sh (va_up f j v) (cell.setSlot j (im_v ad v)) := by
  obtain ⟨h1, h2, h3, h4, h5⟩ := h.arr hk
  unfold im_cell
  rw [if_neg (Nat.not_lt.mpr hk)]
  refine ⟨h1, h2, h3, by rw [← h4]; simp [Cell.setSlot], fun i hi => ?_⟩
  by_cases e : i = j
  · subst e
    rw [va_up_self, Cell.slots_setSlot_self _ (by rw [h4]; exact hj)]
  · rw [va_up_ne _ _ e, slot_ne _ _ (fun q => e q.symm)]
    exact h5 i hi
end REP
section AROWS
variable {p : Program} {l : Launch} {e : Env} {R : Room} {s : State} {m : MethodId} {args : Array Value} {below : List Frame} {meth : Method} {c : Code} {H : Heap} {locs : List Loc} {cells slots : Nat} {Q : State → Prop}
variable {cc : ByteArray} {pc nL : Nat} {ls st : List Value} {lr : Array Slot}
variable {cl : List vw_C} {aty : Nat → Option FieldType} {nf : Nat → Nat} {D : va_G} {E : Nat → ClassId} {base : Nat} {sp : Nat → Nat} {H0 : Heap} {M : im_M}
theorem im_isarr (hK : im_K cl aty D E s) {kd : Nat} {ty : FieldType} (ht : aty kd = some ty) {cell : Cell} (h1 : cell.cls = E kd) (h3 : ∀ q, cell.vm ≠ .statics q) : s.isArrayOf cell ty := by
  obtain ⟨kA, comp, g1, g2, -⟩ := hK.2 kd ty ht
  exact ⟨h3, kA, by rw [h1]; exact g1, comp, g2⟩
/-- an element is read -/
def im_al (aty : Nat → Option FieldType) (ty : FieldType) (len pc : Nat) (st : List Value) (M : im_M) : Option (List Value) := if len = 1 then (match st with
  | .int j :: .ref k :: r => if k < M.1.1 ∧ 30 ≤ (M.2.1 k).1 ∧ aty (M.2.1 k).1 = some ty ∧ ¬ (j < 0 ∨ (M.2.1 k).2 ≤ j.toNatClampNeg) then some (M.2.2 k j.toNatClampNeg :: r) else none
  | _ => none) else none
theorem im_al_ok {ty : FieldType} {len : Nat} {st' : List Value} (hK : im_K cl aty D E s) (hR : im_R nf D E base sp H0 M H) (h : im_al aty ty len pc st M = some st')
    (row : ∀ (a : Nat) (j : Int32) (cell : Cell) (v : Value) (rest : List Value), len = 1 → H[a]? = some cell → s.isArrayOf cell ty → cell.vm ≠ .unknown → ¬ (j < 0 ∨ cell.slots.size ≤ j.toNatClampNeg) → cell.slots[j.toNatClampNeg]? = some v →
      W p l e R s m args below meth c H locs cells slots Q (F0 m (pc + 1) lr (v :: rest)) → W p l e R s m args below meth c H locs cells slots Q (F0 m pc lr (.int j :: .ref a :: rest)))
    (kk : W p l e R s m args below meth c H locs cells slots Q (F0 m (pc + 1) lr (st'.map (im_v (im_ad base sp))))) : W p l e R s m args below meth c H locs cells slots Q (F0 m pc lr (st.map (im_v (im_ad base sp)))) := by
  unfold im_al at h
  split at h
  · rename_i hl
    split at h
    · rename_i j k r
      split at h
      · rename_i hc
        obtain ⟨hk, h30, ht, hin⟩ := hc
        cases h
        obtain ⟨cell, g1, g2⟩ := hR.at hk (Or.inr h30)
        obtain ⟨a1, a2, a3, a4, a5⟩ := g2.arr h30
        exact row _ j cell _ _ hl g1 (im_isarr hK ht a1 a3) a2 (by rw [a4]; exact hin) (a5 _ (Nat.not_le.mp fun q => hin (Or.inr q))) kk
      · cases h
    · cases h
  · cases h
/-- an element is written: v is what is laid there -/
def im_as (aty : Nat → Option FieldType) (ty : FieldType) (len : Nat) (j : Int32) (k : Nat) (v : Value) (M : im_M) : Option im_M :=
  if len = 1 ∧ 8 ≤ k ∧ k < M.1.1 ∧ 30 ≤ (M.2.1 k).1 ∧ aty (M.2.1 k).1 = some ty ∧ ¬ (j < 0 ∨ (M.2.1 k).2 ≤ j.toNatClampNeg) then some (im_set M k j.toNatClampNeg v) else none
theorem im_as_ok {ty : FieldType} {len : Nat} {j : Int32} {k : Nat} {v w : Value} {M' : im_M} {st0 rest : List Value} (hK : im_K cl aty D E s) (hR : im_R nf D E base sp H0 M H) (hlo : ∀ q ∈ locs, base ≤ q.base) (h : im_as aty ty len j k v M = some M') (hw : im_v (im_ad base sp) v = w)
    (row : ∀ (cell : Cell), len = 1 → H[im_ad base sp k]? = some cell → s.isArrayOf cell ty → cell.cls = E (M.2.1 k).1 → cell.vm ≠ .unknown → ¬ (j < 0 ∨ cell.slots.size ≤ j.toNatClampNeg) →
      (∀ H' : Heap, H'[im_ad base sp k]? = some (cell.setSlot j.toNatClampNeg w) → H'.size = H.size → (∀ q, q ≠ im_ad base sp k → H'[q]? = H[q]?) → W p l e R s m args below meth c H' (locs ++ [⟨im_ad base sp k, j.toNatClampNeg⟩]) cells slots Q (F0 m (pc + 1) lr rest)) →
      W p l e R s m args below meth c H locs cells slots Q (F0 m pc lr st0))
    (kk : ∀ (H' : Heap) (locs' : List Loc), im_R nf D E base sp H0 M' H' → (∀ q ∈ locs', base ≤ q.base) → W p l e R s m args below meth c H' locs' cells slots Q (F0 m (pc + 1) lr rest)) : W p l e R s m args below meth c H locs cells slots Q (F0 m pc lr st0) := by
  unfold im_as at h
  split at h
  · rename_i hc
    obtain ⟨hl, h8, hk, h30, ht, hin⟩ := hc
    cases h
    obtain ⟨cell, g1, g2⟩ := hR.at hk (Or.inr h30)
    obtain ⟨a1, a2, a3, a4, a5⟩ := g2.arr h30
    refine row cell hl g1 (im_isarr hK ht a1 a3) a1 a2 (by rw [a4]; exact hin) fun H' e1 e2 e3 => kk H' _ (hR.set hk h8 e1 e2 e3 ?_) (t_lc (free := fun a => base ≤ a) hlo (by rw [im_ad_own h8]; exact Nat.le_add_right _ _))
    rw [← hw]
    exact g2.put h30 (Nat.not_le.mp fun q => hin (Or.inr q)) v
  · cases h
theorem im_as_tot {ty : FieldType} {len : Nat} {j : Int32} {k : Nat} {v : Value} {M' : im_M} (h : im_as aty ty len j k v M = some M') : im_tot M' = im_tot M := by
  unfold im_as at h
  split at h
  · cases h; rfl
  · cases h
theorem im_as_z {ty : FieldType} {len : Nat} {j : Int32} {k : Nat} {v : Value} {M' : im_M} (h : im_as aty ty len j k v M = some M') : M'.1.2.2 = M.1.2.2 := by
  unfold im_as at h
  split at h
  · cases h; rfl
  · cases h
end AROWS
end
section
/-! The abstract machine, third part: fields, making of objects and arrays (rows, with what the tables say as hypotheses). -/
section FROWS
variable {p : Program} {l : Launch} {e : Env} {R : Room} {s : State} {m : MethodId} {args : Array Value} {below : List Frame} {meth : Method} {c : Code} {H : Heap} {locs : List Loc} {cells slots : Nat} {Q : State → Prop}
variable {cc : ByteArray} {pc nL : Nat} {lr : Array Slot} {rest : List Value}
variable {cl : List vw_C} {aty : Nat → Option FieldType} {nf : Nat → Nat} {D : va_G} {E : Nat → ClassId} {base : Nat} {sp : Nat → Nat} {H0 : Heap} {M : im_M}
/-- the words of a field: how its class lays it, how the method's class names it -/
abbrev im_lay (C : String) (T : u_T) (k : Nat) : Cond := u_lay C T k
abbrev im_lk (own : String) (index : Nat) (C : String) (T : u_T) (k : Nat) (host : Option String) : Cond := match host with
  | none => .fieldLink own index C (T k).2.1 (T k).2.2.1
  | some h => .fieldLinkNest own index C (T k).2.1 (T k).2.2.1 h
theorem im_lays {C : String} {T : u_T} {k : Nat} (h : (u_lay C T k).before args s = true) : (Cond.lays C (T k).1 (T k).2.1 (T k).2.2.1).before args s = true ∨ (Cond.laysFinal C (T k).1 (T k).2.1 (T k).2.2.1).before args s = true := by
  unfold u_lay at h
  split at h
  · exact Or.inr h
  · exact Or.inl h
theorem im_get_row (hx : p.tables.exec = Jvm.exec) (hb : c.code = cc) {own C : String} {T : u_T} {N ci index k a : Nat} {host : Option String} {f : Nat → Value} (hKn : u_Kn s C T N (D.1 ci) (D.2 ci)) (hk : k < N) (hlay : (u_lay C T k).before args s = true) (hown : s.vm.findClass own = some m.cls)
    (hlink : (im_lk own index C T k host).before args s = true) (hdecl : (T k).1 = C) {cell : Cell} (hcell : H[a]? = some cell) (ho : cell.cls = D.1 ci ∧ cell.vm = .none ∧ ∀ j, j < N → cell.slots[D.2 ci j]? = some (im_v (im_ad base sp) (f j))) (hdg : decode cc pc = .ok (.getfield index, 3))
    (kk : W p l e R s m args below meth c H locs cells slots Q (F0 m (pc + 3) lr (im_v (im_ad base sp) (f k) :: rest))) : W p l e R s m args below meth c H locs cells slots Q (F0 m pc lr (.ref a :: rest)) := by
  obtain ⟨hS, hfc, kC, hkC, hkind⟩ := hKn
  obtain ⟨cf, kf, fi, fd, hi, hsl⟩ := hS k hk
  have hst := (u_facts hfc hkC (im_lays hlay) hi).1
  rw [hdecl] at hi
  have hv : cell.slots[fd.slot]? = some (im_v (im_ad base sp) (f k)) := by rw [hsl]; exact ho.2.2 k hk
  cases host with
  | none => exact W.getf hx hb hown hlink hi hst hcell (by rw [ho.2.1]; exact fun h => by cases h) hv rfl rfl hdg kk
  | some h => exact va_Wgetf hx hb hown hlink hi hst hcell (by rw [ho.2.1]; exact fun h => by cases h) hv rfl rfl hdg kk
/-- fields of a class lie apart -/
theorem im_apart {C : String} {T : u_T} {N ci : Nat} (hKn : u_Kn s C T N (D.1 ci) (D.2 ci)) (hlay : ∀ k, k < N → (u_lay C T k).before args s = true) (ty : Nat → FieldType) (hty : ∀ k, k < N → parseFieldDescriptor (T k).2.2.1 = some (ty k)) (hnm : ∀ a, a < N → ∀ b, b < N → a ≠ b → (T a).2.1 ≠ (T b).2.1) : ∀ x y, x < N → y < N → x ≠ y → (D.2 ci) x ≠ (D.2 ci) y := by
  intro x y hx hy hne
  obtain ⟨hS, -⟩ := hKn
  obtain ⟨_, _, _, fa, hia, ea⟩ := hS x hx
  obtain ⟨_, _, _, fb, hib, eb⟩ := hS y hy
  rw [← ea, ← eb]
  refine u_apart (im_lays (hlay x hx)) (im_lays (hlay y hy)) hia hib ?_
  rw [(State.fieldFound?_type hia (hty x hx)).1, (State.fieldFound?_type hib (hty y hy)).1]
  exact hnm x hx y hy hne
theorem im_put_row (hx : p.tables.exec = Jvm.exec) (hb : c.code = cc) {own C : String} {T : u_T} {N ci index k a : Nat} {host : Option String} {f : Nat → Value} (hKn : u_Kn s C T N (D.1 ci) (D.2 ci)) (hk : k < N) (hlay : ∀ k, k < N → (u_lay C T k).before args s = true)
    (ty : Nat → FieldType) (hty : ∀ k, k < N → parseFieldDescriptor (T k).2.2.1 = some (ty k)) (hnm : ∀ a, a < N → ∀ b, b < N → a ≠ b → (T a).2.1 ≠ (T b).2.1) (hown : s.vm.findClass own = some m.cls)
    (hlink : (im_lk own index C T k host).before args s = true) (hdecl : (T k).1 = C) (hfin : (T k).2.2.2 = false ∨ (host = none ∧ own = C ∧ meth.name = "<init>")) {cell : Cell} (hcell : H[a]? = some cell) (ho : cell.cls = D.1 ci ∧ cell.vm = .none ∧ ∀ j, j < N → cell.slots[D.2 ci j]? = some (im_v (im_ad base sp) (f j)))
    {v : Value} (hn : narrow (ty k) (im_v (im_ad base sp) v) = im_v (im_ad base sp) v) (hfit : fits (ty k) (im_v (im_ad base sp) v) = true) (hdg : decode cc pc = .ok (.putfield index, 3))
    (kk : ∀ (H' : Heap) (slot : Nat) (cell' : Cell), H'[a]? = some cell' → H'.size = H.size → (∀ q, q ≠ a → H'[q]? = H[q]?) → (cell'.cls = D.1 ci ∧ cell'.vm = .none ∧ ∀ j, j < N → cell'.slots[D.2 ci j]? = some (im_v (im_ad base sp) (va_up f k v j))) →
      W p l e R s m args below meth c H' (locs ++ [⟨a, slot⟩]) cells slots Q (F0 m (pc + 3) lr rest)) : W p l e R s m args below meth c H locs cells slots Q (F0 m pc lr (im_v (im_ad base sp) v :: .ref a :: rest)) := by
  have hap := im_apart hKn hlay ty hty hnm
  obtain ⟨hS, hfc, kC, hkC, hkind⟩ := hKn
  obtain ⟨cf, kf, fi, fd, hi, hsl⟩ := hS k hk
  obtain ⟨o1, o2, o3⟩ := ho
  have hst := (u_facts hfc hkC (im_lays (hlay k hk)) hi).1
  have hfits := u_fits hfc hkC hkind (im_lays (hlay k hk)) hi (hty k hk) hn hfit
  have hlt : fd.slot < cell.slots.size := by rw [hsl]; exact k2_hasslot (o3 k hk)
  have hnew : ∀ j, j < N → (cell.setSlot fd.slot (im_v (im_ad base sp) v)).slots[D.2 ci j]? = some (im_v (im_ad base sp) (va_up f k v j)) := by
    intro j hj
    by_cases ej : j = k
    · subst ej
      rw [va_up_self, ← hsl, Cell.slots_setSlot_self _ hlt]
    · rw [va_up_ne _ _ ej, slot_ne _ _ (by rw [hsl]; exact fun q => hap j k hj hk ej q.symm)]
      exact o3 j hj
  have hlayk := hlay k hk
  unfold u_lay at hlayk
  rcases hfin with hfin | ⟨rfl, hoC, hinit⟩
  · rw [if_neg (by rw [hfin]; decide)] at hlayk
    have hS6 := u_store hfc hkC hkind hlayk hi (hty k hk) hn hfit
    rw [hdecl] at hi
    cases host with
    | none => exact W.putK hx hb (f := fd) ⟨hown, hlink, ⟨_, _, _, hi⟩, hst⟩ (by rw [o1]; exact hS6) hcell o2 hlt rfl rfl hdg fun H' e1 e2 e3 => kk H' _ _ e1 e2 e3 ⟨o1, o2, hnew⟩
    | some h => exact va_WputK hx hb (f := fd) hown hlink hi hst (by rw [o1]; exact hS6) hcell o2 hlt rfl rfl hdg fun H' e1 e2 e3 => kk H' _ _ e1 e2 e3 ⟨o1, o2, hnew⟩
  · by_cases hf2 : (T k).2.2.2 = true
    · rw [if_pos hf2] at hlayk
      have hcf : m.cls = cf := by
        obtain ⟨_, _, c', _, _, _, -, -, hf', -, -, -, hown2, -⟩ := Cond.laysFinal_spec hlayk
        have e1 : c' = cf := by have := hi.symm.trans hf'; simp at this; exact this.1.symm
        rw [hdecl, ← hoC] at hown2
        rw [← e1]; exact Option.some.inj (hown.symm.trans hown2)
      rw [hdecl] at hi
      exact W.putFinK hx hb hown hlink hi hst hcf hinit (by rw [o1]; exact hfits) hcell o2 hlt rfl rfl hdg fun H' e1 e2 e3 => kk H' _ _ e1 e2 e3 ⟨o1, o2, hnew⟩
    · rw [if_neg hf2] at hlayk
      have hS6 := u_store hfc hkC hkind hlayk hi (hty k hk) hn hfit
      rw [hdecl] at hi
      exact W.putK hx hb (f := fd) ⟨hown, hlink, ⟨_, _, _, hi⟩, hst⟩ (by rw [o1]; exact hS6) hcell o2 hlt rfl rfl hdg fun H' e1 e2 e3 => kk H' _ _ e1 e2 e3 ⟨o1, o2, hnew⟩
theorem im_new_row (hx : p.tables.exec = Jvm.exec) (hb : c.code = cc) {own C : String} {T : u_T} {N ci index : Nat} (hKn : u_Kn s C T N (D.1 ci) (D.2 ci)) (hlay : ∀ k, k < N → (u_lay C T k).before args s = true) (ty : Nat → FieldType) (hty : ∀ k, k < N → parseFieldDescriptor (T k).2.2.1 = some (ty k)) (hown : s.vm.findClass own = some m.cls)
    (hcl : (Cond.classLink own index C).before args s = true) {n : Nat} (hinst : (Cond.instantiable C n).before args s = true) (hini : (Cond.initialized C).before args s = true) (hcells : cells + 1 ≤ R.cells) (hslots : slots + n ≤ R.slots) (hdg : decode cc pc = .ok (.new index, 3))
    (kk : ∀ (H' : Heap) (cell' : Cell), H'[H.size]? = some cell' → H'.size = H.size + 1 → (∀ q, q < H.size → H'[q]? = H[q]?) → (cell'.cls = D.1 ci ∧ cell'.vm = .none ∧ ∀ j, j < N → cell'.slots[D.2 ci j]? = some (defaultValue (ty j))) →
      W p l e R s m args below meth c H' locs (cells + 1) (slots + n) Q (F0 m (pc + 3) lr (.ref H.size :: rest))) : W p l e R s m args below meth c H locs cells slots Q (F0 m pc lr rest) := by
  refine W.newcK hx hb hown hcl hinst hini rfl hdg hcells hslots hKn.2.1 rfl fun H1 kC hkC e1 z1 o1 => ?_
  obtain ⟨hS, hfc, -⟩ := hKn
  refine kk H1 _ e1 z1 o1 ⟨rfl, rfl, fun k hk => ?_⟩
  obtain ⟨cf, kf, fi, fd, hi, he⟩ := hS k hk
  have h3 := (u_facts hfc hkC (im_lays (hlay k hk)) hi).2.2
  rw [(State.fieldFound?_type hi (hty k hk)).2] at h3
  rw [← he]
  exact k2_blank h3
theorem im_newa_row (hx : p.tables.exec = Jvm.exec) (hb : c.code = cc) {atype : ArrayType} (harr : (Cond.arrayClass (newarray.typeOf atype)).before args s = true) {kd : Nat} (hK : im_K cl aty D E s) (hkd : aty kd = some (newarray.typeOf atype)) (h39 : kd ≠ 39)
    {n : Int32} (hn : ¬ n < 0) (hbytes : n.toNatClampNeg * componentBytes (newarray.typeOf atype) ≤ 536870912) (hcells : cells + 1 ≤ R.cells) (hslots : slots + n.toNatClampNeg ≤ R.slots) (hdg : decode cc pc = .ok (.newarray atype, 2))
    (kk : ∀ (H' : Heap), H'[H.size]? = some (arrV (E kd) n.toNatClampNeg (fun _ => defaultValue (newarray.typeOf atype))) → H'.size = H.size + 1 → (∀ q, q < H.size → H'[q]? = H[q]?) →
      W p l e R s m args below meth c H' locs (cells + 1) (slots + n.toNatClampNeg) Q (F0 m (pc + 2) lr (.ref H.size :: rest))) : W p l e R s m args below meth c H locs cells slots Q (F0 m pc lr (.int n :: rest)) := by
  refine va_newaK hx hb harr rfl hdg rfl hn rfl hbytes hcells hslots rfl fun H1 cA e1 z1 o1 hAr hNm => ?_
  obtain ⟨kA, comp, g1, g2, g3, -⟩ := hK.2 kd _ hkd
  cases (g3 h39).symm.trans hNm
  exact kk H1 e1 z1 o1
theorem im_newq_row (hx : p.tables.exec = Jvm.exec) (hb : c.code = cc) {own C : String} {index kd : Nat} (hK : im_K cl aty D E s) (hkd : aty kd = some (.object C)) (h39 : kd ≠ 39) (hown : s.vm.findClass own = some m.cls) (hcl : (Cond.classLink own index C).before args s = true) (hover : (Cond.arrayOver (.object C)).before args s = true)
    {n : Int32} (hn : ¬ n < 0) (hbytes : n.toNatClampNeg * 4 ≤ 536870912) (hcells : cells + 1 ≤ R.cells) (hslots : slots + n.toNatClampNeg ≤ R.slots) (hdg : decode cc pc = .ok (.anewarray index, 3))
    (kk : ∀ (H' : Heap), H'[H.size]? = some (arrV (E kd) n.toNatClampNeg (fun _ => .null)) → H'.size = H.size + 1 → (∀ q, q < H.size → H'[q]? = H[q]?) →
      W p l e R s m args below meth c H' locs (cells + 1) (slots + n.toNatClampNeg) Q (F0 m (pc + 3) lr (.ref H.size :: rest))) : W p l e R s m args below meth c H locs cells slots Q (F0 m pc lr (.int n :: rest)) := by
  refine W.anew hx hb hown hcl hover rfl hdg rfl hn hbytes hcells hslots fun cA kA comp h1 h2 h3 h4 => ?_
  obtain ⟨kA', comp', g1, g2, g3, -⟩ := hK.2 kd _ hkd
  cases (g3 h39).symm.trans h1
  refine kk _ ?_ ?_ ?_
  · rw [arrV_new]; simp
  · simp
  · intro q hq
    rw [Array.getElem?_push, if_neg (Nat.ne_of_lt hq)]
theorem im_arr_cell {ad : Nat → Nat} {kd n : Nat} {v : Value} (h30 : 30 ≤ kd) (hv : im_v ad v = v) : im_cell nf D E ad (kd, n) (fun _ => v) (arrV (E kd) n (fun _ => v)) := by
  unfold im_cell
  rw [if_neg (Nat.not_lt.mpr h30)]
  refine ⟨rfl, fun h => (by cases h), fun q h => (by cases h), arrV_size _ _ _, fun j hj => ?_⟩
  rw [arrV_read _ _ hj, hv]
end FROWS
end
section
/-! Calls that may come back by a throw. -/
def im_fe (first t : State) (L : List Loc) (k n : Nat) : Prop := first.WarmedH t.vm ∧ first.sameButNew ({ t with vm := first.vm } : State) L k n
/-- a method's contract, whichever way it ends -/
def im_Met (l : Launch) (y : MethodName) (ws : List Cond) (rm : Room) (Pc : Array Value → State → Prop) (Qc : Array Value → State → Outcome → State → Prop) (mc ms : Nat) (free : Addr → Prop) : Prop :=
  Jvm.Free.MetFree l y (headSpec ws rm) Pc (fun _ _ _ _ _ => True) (fun a st o t => Qc a st o t ∧ ∃ L, im_fe st t L mc ms ∧ ∀ q ∈ L, free q.base)
def im_MQ (below : List Frame) (Qc : Array Value → State → Outcome → State → Prop) (a : Array Value) (s : State) (mc ms : Nat) (free : Addr → Prop) : State → Prop := fun t =>
  ∃ o, t.status = .running ∧ Ended t below o ∧ Qc a s o t ∧ ∃ L, im_fe s t L mc ms ∧ ∀ q ∈ L, free q.base
theorem im_MQ.of {below : List Frame} {Qc : Array Value → State → Outcome → State → Prop} {a : Array Value} {s : State} {mc ms : Nat} {free : Addr → Prop} {t : State} (h : MQ below Qc a s mc ms free t) : im_MQ below Qc a s mc ms free t := by
  obtain ⟨o, h1, h2, h3, L, h4, h5⟩ := h
  exact ⟨o, h1, h2, h3, L, h4.2, h5⟩
theorem im_Wof {p : Program} {l : Launch} {e : Env} {R : Room} {s : State} {m : MethodId} {args : Array Value} {below : List Frame} {meth : Method} {c : Code} {H : Heap} {locs : List Loc} {cells slots : Nat} {Q Q' : State → Prop} {g : JFrame} (hQ : ∀ t, Q t → Q' t)
    (h : W p l e R s m args below meth c H locs cells slots Q g) : W p l e R s m args below meth c H locs cells slots Q' g := by
  intro T hT X
  obtain ⟨t, a, b⟩ := h T hT X
  exact ⟨t, a, hQ t b⟩
/-- a contract out of a walk of the body: the method has no table, or has one -/
theorem im_Met.ofW {l : Launch} {y : MethodName} {ws : List Cond} {rm : Room} {Pc : Array Value → State → Prop} {Qc : Array Value → State → Outcome → State → Prop} {mc ms : Nat} {free : Addr → Prop} {cc : ByteArray} {maxL : Nat} {ret : Option FieldType}
    (hy : plainName y.cls = true) (hw : Cond.code y cc maxL ret ∈ ws ∨ ∃ hh, Cond.codeWith y cc maxL ret hh ∈ ws)
    (body : ∀ p e s m args below meth c s₁, BodyLoose p l y (headSpec ws rm) cc maxL ret e s m args below meth c s₁ → c.maxLocals = maxL → Pc args s →
      W p l e (headSpec ws rm).room s m args below meth c s.heap [] 0 0 (im_MQ below Qc args s mc ms free) (entryFrame m args maxL)) : im_Met l y ws rm Pc Qc mc ms free := by
  refine MetFree.of_bodyS (code := cc) (maxLocals := maxL) (ret := ret) hy ?_ ?_
  · intro args s m h hn
    rcases hw with hw | ⟨hh, hw⟩
    · obtain ⟨meth, c, h1, h2, h3, h4, h5, h6, -, -⟩ := Cond.code_spec hn (atoms_spec (ws := ws) h _ hw)
      exact ⟨meth, c, h1, h2, h3, h4, h5, h6⟩
    · obtain ⟨m9, meth, c, hn9, h1, h2, h3, h4, -, h5, h6, -⟩ := Cond.codeWith_spec (atoms_spec (ws := ws) h _ hw)
      cases hn.symm.trans hn9
      exact ⟨meth, c, h1, h2, h3, h4, h5, h6⟩
  · intro p e s m args below meth c s₁ B hml hP _
    have hh0 : s₁.heap = s.heap := by rw [B.state]; rfl
    obtain ⟨t, a1, o, b1, b2, b3⟩ := body p e s m args below meth c s₁ B hml hP s₁ hh0 (Stand.of_body B)
    exact ⟨t, o, a1, b1, b2, ⟨b3.1, b3.2⟩⟩
/-- where a caller stands behind a call -/
def im_aft (U : State) (g : JFrame) (len : Nat) : Outcome → State
  | .returned v => U.setTop { g with pc := g.pc + len, stack := v.toList ++ g.stack }
  | .threw a => (U.setTop g).pushFrame (.throwing a)
def im_Bk (l : Launch) (R : Room) (p : Program) (e : Env) (below : List Frame) (s : State) (sargs : Array Value) (y : MethodName) (len W : Nat) (mc ms : Nat) (Pc : Array Value → State → Prop) (Qc : Array Value → State → Outcome → State → Prop) (free : Addr → Prop) : Prop :=
  ∀ (m : MethodId) (meth : Method) (c : Code) (U : State) (locs : List Loc) (cells slots : Nat) (g : JFrame) (ig : Instr) (mk : MethodId) (a : Array Value),
    Stand p l e R s m sargs below meth c U locs cells slots → g.method = m → g.locals.size = c.maxLocals → decode c.code g.pc = .ok (ig, len) →
    2 * g.monitorRoom + (g.stack.map fun v => v.category).sum ≤ W → U.methodNamed? y = some mk → cells + mc ≤ R.cells → slots + ms ≤ R.slots → Pc a U →
    ∃ (o : Outcome) (st t V : State) (L : List Loc), Stand p l e R s m sargs below meth c V (locs ++ L) (cells + mc) (slots + ms) ∧ V.heap = t.heap ∧ V.vm = t.vm ∧ st.heap = U.heap ∧ s.vm.Alike st.vm ∧ Qc a st o t ∧ (∀ q ∈ L, free q.base) ∧
      Steps p.tables e below (doInvoke e (U.setTop g) [] mk a).1 (im_aft V g len o)
section PAY
variable {l : Launch} {R : Room} {p : Program} {e : Env} {below : List Frame} {s : State} {sargs : Array Value} {y : MethodName} {len W : Nat}
theorem im_pay {ws : List Cond} {rm : Room} {Pc : Array Value → State → Prop} {Qc : Array Value → State → Outcome → State → Prop} {mc ms : Nat} {free : Addr → Prop} {bytes : ByteArray} {maxL : Nat} {ret : Option FieldType}
    (hM : im_Met l y ws rm Pc Qc mc ms free) (hblind : FrameBlind Pc) (hrc : rm.cells = mc) (hrs : rm.slots = ms) (hframes : rm.frames + 1 ≤ R.frames) (hlocals : W + (maxL + 11) + rm.locals ≤ R.locals)
    (hws : ∀ w ∈ ws, ∀ a' U, s.WarmedH U.vm → w.before a' U = true) (hcode : Cond.code y bytes maxL ret ∈ ws ∨ ∃ hh, Cond.codeWith y bytes maxL ret hh ∈ ws) (hinit : ∀ a' U, s.WarmedH U.vm → (Cond.initialized y.cls).before a' U = true) :
    im_Bk l R p e below s sargs y len W mc ms Pc Qc free := by
  intro m meth c U Ls c0 s0 g ig mk a X hg hsize hdg hW hn hc1 hs1 hPc
  obtain ⟨methY, cY, hmY, hcY, hlY⟩ : ∃ methY cY, U.vm.method? mk = some methY ∧ methY.code = some cY ∧ cY.maxLocals = maxL := by
    rcases hcode with hcode | ⟨hh, hcode⟩
    · obtain ⟨methY, cY, hmY, hcY, -, hlY, -⟩ := Cond.code_spec hn (hws _ hcode a U X.warmed)
      exact ⟨methY, cY, hmY, hcY, hlY⟩
    · obtain ⟨m9, methY, cY, hn9, hmY, hcY, -, hlY, -⟩ := Cond.codeWith_spec (hws _ hcode a U X.warmed)
      cases hn.symm.trans hn9
      exact ⟨methY, cY, hmY, hcY, hlY⟩
  obtain ⟨kY, hkY, -⟩ := className_of_methodNamed hn
  have hinitY : kY.init = .initialized := Cond.initialized_spec (findClass_of_methodNamed hn) hkY (hinit a U X.warmed)
  have h : At U g.method c below := by rw [hg]; exact X.here
  have happ : (headSpec ws rm).appliesLoose y e.platform (U.calling g mk a) = true :=
    Spec.appliesLoose_calling (g := g) h hdg hn hkY hinitY
      (X.room_calling (g := g) (R' := (headSpec ws rm).room) hsize hmY hcY hframes (by rw [hlY]; show _ + rm.locals ≤ _; omega) (by show c0 + rm.cells ≤ _; rw [hrc]; exact hc1) (by show s0 + rm.slots ≤ _; rw [hrs]; exact hs1)) (atoms_intro fun w hw => hws w hw _ _ X.warmed)
  obtain ⟨mid, hmid⟩ := h.above
  have hfr : (U.setTop g).frames = (.java g :: mid) ++ below := by rw [State.frames_setTop' g h.top, hmid]; rfl
  obtain ⟨o, s₂, hsteps, -, hend, hq⟩ := Jvm.Free.Steps.callFree hM p X.admits X.cas X.clock (acts := []) hfr happ (hblind _ _ _ _ hPc) trivial
  obtain ⟨hq1, L, ⟨hW₂, e2, q2, q3, q4, q5, q6⟩, hL⟩ : Qc a (U.calling g mk a) o s₂ ∧ ∃ L, im_fe (U.calling g mk a) s₂ L mc ms ∧ ∀ q ∈ L, free q.base := hq
  rw [State.frames_setTop' g h.top] at hend
  have e3 : s₂ = ({ (U.calling g mk a).setFrames s₂.frames with heap := s₂.heap, slotsUsed := s₂.slotsUsed } : State).setVm s₂.vm := by
    have : s₂ = ({ s₂ with vm := (U.calling g mk a).vm } : State).setVm s₂.vm := rfl
    rw [e2] at this
    exact this
  have hW' : U.WarmedH s₂.vm := hW₂
  obtain ⟨g₀, hg0⟩ := Option.isSome_iff_exists.mp h.top
  obtain ⟨r, hr⟩ := State.topJava?_eq_some.mp hg0
  have hr' : (({ U with heap := s₂.heap, slotsUsed := s₂.slotsUsed } : State).setVm s₂.vm).frames = .java g₀ :: r := hr
  have hsame : U.sameButNew ({ U with heap := s₂.heap, slotsUsed := s₂.slotsUsed } : State) L mc ms := by
    refine ⟨?_, q2, q3, q4, q5, q6⟩
    obtain ⟨t, ht, -⟩ := State.frames_cons hr
    show ({ U with heap := s₂.heap, slotsUsed := s₂.slotsUsed } : State) = { U.setFrames U.frames with heap := s₂.heap, slotsUsed := s₂.slotsUsed }
    rw [State.setFrames_self ht]
  have hs₂ : s₂ = im_aft (({ U with heap := s₂.heap, slotsUsed := s₂.slotsUsed } : State).setVm s₂.vm) g len o := by
    cases o with
    | returned v =>
      obtain ⟨c₂, i₂, len₂, hc₂, hd₂, hf₂⟩ := hend
      have hcc : c₂ = c := by
        have h1 : s₂.code? g.method = U.code? g.method := by
          rw [State.code?_eq, State.code?_eq, hW'.alike.method?]
        exact Option.some.inj (hc₂.symm.trans (h1.trans h.code))
      subst hcc
      have hlen : len₂ = len := by rw [hdg] at hd₂; cases hd₂; rfl
      subst hlen
      refine e3.trans ?_
      show _ = State.setTop _ _
      rw [hf₂, State.calling_eq h.top, State.setFrames_setFrames, State.setTop_of_frames _ hr', hr]
      rfl
    | threw x =>
      have hf₂ : s₂.frames = .throwing x :: .java g :: U.frames.tail := hend
      refine e3.trans ?_
      show _ = State.pushFrame _ _
      have hcur : (({ U with heap := s₂.heap, slotsUsed := s₂.slotsUsed } : State).setVm s₂.vm).cur < (({ U with heap := s₂.heap, slotsUsed := s₂.slotsUsed } : State).setVm s₂.vm).threads.size := State.cur_lt_of_frames hr'
      rw [hf₂, State.calling_eq h.top, State.setFrames_setFrames, State.pushFrame, State.setTop_of_frames _ hr', State.setFrames_setFrames, State.frames_setFrames _ hcur, hr]
      rfl
  subst hg
  refine ⟨o, U.calling g mk a, s₂, (({ U with heap := s₂.heap, slotsUsed := s₂.slotsUsed } : State).setVm s₂.vm), L,
    ⟨X.admits, X.cas, X.clock, X.frames, X.room, X.hears, X.method, X.code, (X.here.setHeapUsed s₂.heap s₂.slotsUsed).setVm hW'.alike, X.tail, State.WarmedH.trans X.warmed hW', X.limits, X.bytes, X.same.trans (hsame.setVm s.vm)⟩, rfl, rfl, rfl, X.warmed.alike, hq1, hL, ?_⟩
  rw [← hs₂]
  exact hsteps
end PAY
section CALLS
variable {p : Program} {l : Launch} {e : Env} {R : Room} {s : State} {m : MethodId} {args : Array Value} {below : List Frame} {meth : Method} {c : Code} {T : State} {locs : List Loc} {cells slots : Nat}
variable {y : MethodName} {mc ms W : Nat} {Pc : Array Value → State → Prop} {Qc : Array Value → State → Outcome → State → Prop} {free : Addr → Prop}
/-- what a call gives -/
def im_Cr (p : Program) (l : Launch) (e : Env) (R : Room) (s : State) (m : MethodId) (args : Array Value) (below : List Frame) (meth : Method) (c : Code) (T : State) (locs : List Loc) (cells slots mc ms : Nat) (g : JFrame) (rest : List Value) (a : Array Value) (Qc : Array Value → State → Outcome → State → Prop) (free : Addr → Prop) : Prop :=
  ∃ (o : Outcome) (st t V : State) (L : List Loc), Stand p l e R s m args below meth c V (locs ++ L) (cells + mc) (slots + ms) ∧ V.heap = t.heap ∧ V.vm = t.vm ∧ st.heap = T.heap ∧ s.vm.Alike st.vm ∧ Qc a st o t ∧ (∀ q ∈ L, free q.base) ∧
    ∀ target, Steps p.tables e below (im_aft V { g with stack := rest } 3 o) target → Steps p.tables e below (T.setTop g) target
variable {own C : String} {index : Nat} {g : JFrame} {argsL rest : List Value} {b : Addr}
theorem im_cV (X : Stand p l e R s m args below meth c T locs cells slots) (hexec : p.tables.exec = Jvm.exec) (hK : im_Bk l R p e below s args y 3 W mc ms Pc Qc free) {host : Option String}
    (hown : s.vm.findClass own = some m.cls) (hlink : (match host with | none => Cond.methodLink own index y | some h => Cond.methodLinkNest own index y h).before args s = true) (hinst : (Cond.instanceMethod y).before args s = true) (hsel : (Cond.selects C y y).before args s = true)
    {bytes : ByteArray} {maxL : Nat} {ret : Option FieldType} (hcode : (Cond.code y bytes maxL ret).before args s = true)
    (hy : y.cls ≠ "java/lang/invoke/MethodHandle" ∧ y.cls ≠ "java/lang/invoke/VarHandle") (hlen : (parseMethodDescriptor y.desc).map (fun d => d.parameters.length) = some argsL.length)
    {cellB : Cell} (hcell : T.heap[b]? = some cellB) (hobj : cellB.vm.isStatics = false) (hcls : s.vm.findClass C = some cellB.cls) (hg : g.method = m) (hsize : g.locals.size = c.maxLocals)
    (hstack : g.stack = argsL.reverse ++ .ref b :: rest) (hW : 2 * g.monitorRoom + (rest.map fun v => v.category).sum ≤ W) (hdg : decode c.code g.pc = .ok (.invokevirtual index, 3)) (hc : cells + mc ≤ R.cells) (hs : slots + ms ≤ R.slots)
    (hpre : ∀ vm₁, s.WarmedH vm₁ → Pc (Value.ref b :: argsL).toArray (T.setVm vm₁)) : im_Cr p l e R s m args below meth c T locs cells slots mc ms g rest (Value.ref b :: argsL).toArray Qc free := by
  obtain ⟨mk, methM, hnamed, hmethM, hstM, habM⟩ := Cond.instanceMethod_spec hinst
  obtain ⟨c2, r2, m2, q1, q2, q3, q4, kP, hkP, hkPi⟩ := Cond.selects_spec hsel
  cases hcls.symm.trans q1
  cases (State.methodFound?_of_named hnamed hy).symm.trans q2
  cases hnamed.symm.trans q3
  have hselP : selectMethod e.platform s.vm cellB.cls mk = .method mk := by rw [Launch.admits_selectMethod X.admits]; exact q4
  obtain ⟨methM', cM, hmethM', -, -, -, -, -, -, hsigM⟩ := Cond.code_spec hnamed hcode
  cases hmethM.symm.trans hmethM'
  have hsig : argsL.length = methM.sig.parameters.length := by
    rw [hsigM] at hlen
    exact (Option.some.inj hlen).symm
  obtain ⟨vm₁, X₁, hstep₁⟩ : ∃ vm₁, Stand p l e R s m args below meth c (T.setVm vm₁) locs cells slots ∧ ∀ target, (∀ acts, Steps p.tables e below (doInvoke e ((T.setVm vm₁).setTop { g with stack := rest }) acts mk (Value.ref b :: argsL).toArray).1 target) → Steps p.tables e below (T.setTop g) target := by
    cases host with
    | none => exact X.invokevirtual hexec hown hlink hnamed hmethM hstM hkP hkPi hy (a := b) (cell := cellB) hcell (fun z h => by rw [h] at hobj; cases hobj) hselP hmethM habM hkP hkPi (g := g) hg (argsL := argsL) (rest := rest) hsig hstack hdg
    | some h => exact X.invokevirtualNest hexec hown hlink hnamed hmethM hstM hkP hkPi hy (a := b) (cell := cellB) hcell (fun z h => by rw [h] at hobj; cases hobj) hselP hmethM habM hkP hkPi (g := g) hg (argsL := argsL) (rest := rest) hsig hstack hdg
  obtain ⟨o, st, t, V, L, X', hv1, hv2, hv3, hv4, hq, hL, hsteps⟩ := hK m meth c (T.setVm vm₁) locs cells slots { g with stack := rest } (.invokevirtual index) mk (Value.ref b :: argsL).toArray X₁ hg hsize hdg hW (X₁.named hnamed) hc hs (hpre vm₁ X₁.warmed)
  exact ⟨o, st, t, V, L, X', hv1, hv2, hv3, hv4, hq, hL, fun target h => hstep₁ _ fun acts => by rw [doInvoke_state]; exact hsteps.trans h⟩
theorem im_cS (X : Stand p l e R s m args below meth c T locs cells slots) (hexec : p.tables.exec = Jvm.exec) (hK : im_Bk l R p e below s args y 3 W mc ms Pc Qc free) {host : Option String}
    (hown : s.vm.findClass own = some m.cls) (hlink : (match host with | none => Cond.methodLink own index y | some h => Cond.methodLinkNest own index y h).before args s = true) (hstat : (Cond.static y).before args s = true) (hinit : (Cond.initialized y.cls).before args s = true)
    {bytes : ByteArray} {maxL : Nat} {ret : Option FieldType} (hcode : (Cond.code y bytes maxL ret).before args s = true ∨ ∃ hh, (Cond.codeWith y bytes maxL ret hh).before args s = true)
    (hy : y.cls ≠ "java/lang/invoke/MethodHandle" ∧ y.cls ≠ "java/lang/invoke/VarHandle") (hlen : (parseMethodDescriptor y.desc).map (fun d => d.parameters.length) = some argsL.length) (hg : g.method = m) (hsize : g.locals.size = c.maxLocals)
    (hstack : g.stack = argsL.reverse ++ rest) (hW : 2 * g.monitorRoom + (rest.map fun v => v.category).sum ≤ W) (hdg : decode c.code g.pc = .ok (.invokestatic index, 3)) (hc : cells + mc ≤ R.cells) (hs : slots + ms ≤ R.slots)
    (hpre : ∀ vm₁, s.WarmedH vm₁ → Pc argsL.toArray (T.setVm vm₁)) : im_Cr p l e R s m args below meth c T locs cells slots mc ms g rest argsL.toArray Qc free := by
  obtain ⟨mk, methM, hnamed, hmethM, hsigM⟩ : ∃ mk methM, s.methodNamed? y = some mk ∧ s.vm.method? mk = some methM ∧ parseMethodDescriptor y.desc = some methM.sig := by
    rcases hcode with hcode | ⟨hh, hcode⟩
    · obtain ⟨mk, hnamed⟩ := Cond.code_named hcode
      obtain ⟨methM, cM, hmethM, -, -, -, -, -, -, hsigM⟩ := Cond.code_spec hnamed hcode
      exact ⟨mk, methM, hnamed, hmethM, hsigM⟩
    · obtain ⟨mk, methM, cM, hnamed, hmethM, -, -, -, -, -, -, hsigM⟩ := Cond.codeWith_spec hcode
      exact ⟨mk, methM, hnamed, hmethM, hsigM⟩
  have hstatic : methM.isStatic = true := Cond.static_spec hnamed hmethM hstat
  obtain ⟨kP, hkP, -⟩ := className_of_methodNamed hnamed
  have hinitP : kP.init = .initialized := Cond.initialized_spec (findClass_of_methodNamed hnamed) hkP hinit
  have hsig : argsL.length = methM.sig.parameters.length := by
    rw [hsigM] at hlen
    exact (Option.some.inj hlen).symm
  obtain ⟨vm₁, X₁, hstep₁⟩ : ∃ vm₁, Stand p l e R s m args below meth c (T.setVm vm₁) locs cells slots ∧ ∀ target, (∀ acts, Steps p.tables e below (doInvoke e ((T.setVm vm₁).setTop { g with stack := rest }) acts mk argsL.toArray).1 target) → Steps p.tables e below (T.setTop g) target := by
    cases host with
    | none => exact X.invokestatic hexec hown hlink hnamed hmethM hstatic hkP hinitP hy (g := g) hg (argsL := argsL) (rest := rest) hsig hstack hdg
    | some h => exact X.invokestaticNest hexec hown hlink hnamed hmethM hstatic hkP hinitP hy (g := g) hg (argsL := argsL) (rest := rest) hsig hstack hdg
  obtain ⟨o, st, t, V, L, X', hv1, hv2, hv3, hv4, hq, hL, hsteps⟩ := hK m meth c (T.setVm vm₁) locs cells slots { g with stack := rest } (.invokestatic index) mk argsL.toArray X₁ hg hsize hdg hW (X₁.named hnamed) hc hs (hpre vm₁ X₁.warmed)
  exact ⟨o, st, t, V, L, X', hv1, hv2, hv3, hv4, hq, hL, fun target h => hstep₁ _ fun acts => by rw [doInvoke_state]; exact hsteps.trans h⟩
theorem im_cI (X : Stand p l e R s m args below meth c T locs cells slots) (hexec : p.tables.exec = Jvm.exec) (hK : im_Bk l R p e below s args y 3 W mc ms Pc Qc free) {host : Option String}
    (hown : s.vm.findClass own = some m.cls) (hy1 : y.name = "<init>") (hlink : (match host with | none => Cond.methodLink own index y | some h => Cond.methodLinkNest own index y h).before args s = true) (hinst : (Cond.instanceMethod y).before args s = true)
    {bytes : ByteArray} {maxL : Nat} (hcode : (Cond.code y bytes maxL none).before args s = true)
    (hy : y.cls ≠ "java/lang/invoke/MethodHandle" ∧ y.cls ≠ "java/lang/invoke/VarHandle") (hlen : (parseMethodDescriptor y.desc).map (fun d => d.parameters.length) = some argsL.length) (hg : g.method = m) (hsize : g.locals.size = c.maxLocals)
    (hstack : g.stack = argsL.reverse ++ .ref b :: rest) (hW : 2 * g.monitorRoom + (rest.map fun v => v.category).sum ≤ W) (hdg : decode c.code g.pc = .ok (.invokespecial index, 3)) (hc : cells + mc ≤ R.cells) (hs : slots + ms ≤ R.slots)
    (hpre : ∀ vm₁, s.WarmedH vm₁ → Pc (Value.ref b :: argsL).toArray (T.setVm vm₁)) : im_Cr p l e R s m args below meth c T locs cells slots mc ms g rest (Value.ref b :: argsL).toArray Qc free := by
  subst hg
  have hpl : e.platform.magicAccessors = ({} : Platform).magicAccessors := by rw [X.admits.platform]
  have hlen' : ∀ sig, parseMethodDescriptor y.desc = some sig → argsL.length = sig.parameters.length := fun sig h => by
    rw [h] at hlen
    exact (Option.some.inj hlen).symm
  cases host with
  | none =>
    obtain ⟨mk, methM, cM, kP, vm₁, hnamed, hmethM, hcodeM, -, hlocalsM, -, hkP, -, hW₁, hstep₁⟩ := Steps.initColdArgs (e := e) X.here hexec X.warmed hpl hown hy1 hy hlink hinst hcode (f := g) rfl hlen' hstack hdg
    have X₁ := X.noted hW₁
    obtain ⟨o, st, t, V, L, X', hv1, hv2, hv3, hv4, hq, hL, hsteps⟩ := hK g.method meth c (T.setVm vm₁) locs cells slots { g with stack := rest } (.invokespecial index) mk (Value.ref b :: argsL).toArray X₁ rfl hsize hdg hW (X₁.named hnamed) hc hs (hpre vm₁ X₁.warmed)
    exact ⟨o, st, t, V, L, X', hv1, hv2, hv3, hv4, hq, hL, fun target h => hstep₁ _ fun acts => by rw [doInvoke_state]; exact hsteps.trans h⟩
  | some hst =>
    obtain ⟨mk, methM, cM, kP, vm₁, hnamed, hmethM, hcodeM, -, hlocalsM, -, hkP, -, hW₁, hstep₁⟩ := Steps.initColdArgsNest (e := e) X.here hexec X.warmed hpl hown hy1 hy hlink hinst hcode (f := g) rfl hlen' hstack hdg
    have X₁ := X.noted hW₁
    obtain ⟨o, st, t, V, L, X', hv1, hv2, hv3, hv4, hq, hL, hsteps⟩ := hK g.method meth c (T.setVm vm₁) locs cells slots { g with stack := rest } (.invokespecial index) mk (Value.ref b :: argsL).toArray X₁ rfl hsize hdg hW (X₁.named hnamed) hc hs (hpre vm₁ X₁.warmed)
    exact ⟨o, st, t, V, L, X', hv1, hv2, hv3, hv4, hq, hL, fun target h => hstep₁ _ fun acts => by rw [doInvoke_state]; exact hsteps.trans h⟩
end CALLS
end
section
/-! new int[3][3] -/
section MULTI
theorem im_wpn {E : CtlPost} {e : Env} {d : Bool} {acts : List Action} {S : State} {c comp : ClassId} {k : Class} {type : FieldType} {len : Nat} {init : Value} (hk : S.vm.classes[c]? = some k) (hkind : k.kind = .array comp type)
    (hlimit : ¬ len > e.platform.arrayLengthLimit) (hheap : ¬ len * componentBytes type > e.platform.maxHeapBytes) (hfit : fits type init = true) (hdef : init.isDefault = true) {Qa : Addr → Pre}
    (h1 : S.heap.size < e.platform.maxCells) (h2 : S.slotsUsed + len ≤ e.platform.maxSlots)
    (hq : Qa S.heap.size d acts (S.pushCell { cls := c, slots := Array.replicate len init, vm := .none })) :
    wp (Jvm.newArray c len init) Qa E e d acts S := by
  have hfits : ∀ (i : Nat) v, (Array.replicate len init)[i]? = some v → S.fitsSlot c .none i v = true := by
    intro i v hv
    rw [Array.getElem?_replicate] at hv
    split at hv
    · cases hv; simp [State.fitsSlot, State.slotType?, hk, hkind, hfit]
    · cases hv
  have hda : allocActs (Array.replicate len init) S.heap.size acts = acts := by
    have hall : ((Array.replicate len init).all (·.isDefault)) = true := by
      rw [Array.all_replicate]; split <;> simp [hdef]
    unfold allocActs; rw [if_pos hall]
  simp only [Jvm.newArray, Jvm.arrayFits, wp_bind', W.ask, W.ite, hlimit, if_false, wp_pure', W.theClass, hk, hkind, hheap, W.alloc, W.stop, Option.some.injEq, exists_eq_left', Array.size_replicate, hda]
  rw [if_neg (by omega)]
  exact ⟨h1, h2, hfits, hq⟩
def im_in (comp : ClassId) : Cell := { cls := comp, slots := Array.replicate 3 (.int 0), vm := .none }
def im_o0 (cA : ClassId) : Cell := { cls := cA, slots := Array.replicate 3 .null, vm := .none }
theorem im_mk1 {E : CtlPost} {e : Env} {d : Bool} {acts : List Action} {S : State} {comp cc : ClassId} {kc : Class} (hkc : S.vm.classes[comp]? = some kc) (hkind : kc.kind = .array cc .int) (hl : ¬ 3 > e.platform.arrayLengthLimit) (hh : ¬ 3 * 4 > e.platform.maxHeapBytes)
    (h1 : S.heap.size < e.platform.maxCells) (h2 : S.slotsUsed + 3 ≤ e.platform.maxSlots) {Qa : Addr → Pre} (hq : Qa S.heap.size d acts (S.pushCell (im_in comp))) : wp (Op.multianewarray.make comp [3]) Qa E e d acts S := by
  rw [Op.multianewarray.make]
  simp only [wp_bind', W.ite, show ¬ (3 : Int32) < 0 by decide, if_false, wp_pure', W.theClass, hkc, hkind, Option.some.injEq, exists_eq_left']
  exact im_wpn (len := 3) hkc hkind hl hh rfl rfl h1 h2 hq
/-- one row more -/
def im_nx (S : State) (h0 i : Nat) (cell : Cell) (comp : ClassId) : State := (S.pushCell (im_in comp)).setCell h0 (cell.setSlot i (.ref S.heap.size))
theorem im_mkw {E : CtlPost} {e : Env} {d : Bool} {acts : List Action} {S : State} {c comp cc : ClassId} {k kc : Class} {h0 i : Nat} {cell : Cell} (hk : S.vm.classes[c]? = some k) (hkind : k.kind = .array comp (.array .int)) (hkc : S.vm.classes[comp]? = some kc) (hkindc : kc.kind = .array cc .int) (hl : ¬ 3 > e.platform.arrayLengthLimit) (hh : ¬ 3 * 4 > e.platform.maxHeapBytes)
    (hcell : S.heap[h0]? = some cell) (hc1 : cell.cls = c) (hc2 : cell.vm = .none) (hc3 : cell.slots.size = 3) (hi : i < 3) (h1 : S.heap.size < e.platform.maxCells) (h2 : S.slotsUsed + 3 ≤ e.platform.maxSlots) {Qa : ForInStep PUnit → Pre} (hq : ∀ d' acts', Qa (.yield PUnit.unit) d' acts' (im_nx S h0 i cell comp)) :
    wp (do let a ← Op.multianewarray.make comp [3]; writeLoc h0 i (.ref a); Pure.pure (ForInStep.yield PUnit.unit)) Qa E e d acts S := by
  simp only [wp_bind']
  refine im_mk1 hkc hkindc hl hh h1 h2 ?_
  have hlt : h0 < S.heap.size := (Array.getElem?_eq_some_iff.mp hcell).1
  have hcell' : (S.pushCell (im_in comp)).heap[h0]? = some cell := by rw [State.heap_pushCell_of_lt (h := hlt)]; exact hcell
  simp only [wp_bind', W.writeLoc, wp_pure']
  refine ⟨cell, hcell', by rw [hc2]; simp, by rw [hc3]; exact hi, ?_, hq _ _⟩
  rw [hc1, hc2]
  have hvm : (S.pushCell (im_in comp)).vm = S.vm := rfl
  simp [State.fitsSlot, State.slotType?, hvm, hk, hkind, fits]
theorem im_nx_facts {S : State} {h0 i : Nat} {cell : Cell} {comp : ClassId} (hcell : S.heap[h0]? = some cell) : (im_nx S h0 i cell comp).heap[h0]? = some (cell.setSlot i (.ref S.heap.size)) ∧ (im_nx S h0 i cell comp).heap.size = S.heap.size + 1 ∧ (im_nx S h0 i cell comp).heap[S.heap.size]? = some (im_in comp) ∧ (∀ q, q < S.heap.size → q ≠ h0 → (im_nx S h0 i cell comp).heap[q]? = S.heap[q]?) ∧ (im_nx S h0 i cell comp).vm = S.vm ∧ (im_nx S h0 i cell comp).slotsUsed = S.slotsUsed + 3 := by
  have hlt : h0 < S.heap.size := (Array.getElem?_eq_some_iff.mp hcell).1
  have hcell' : (S.pushCell (im_in comp)).heap[h0]? = some cell := by rw [State.heap_pushCell_of_lt (h := hlt)]; exact hcell
  refine ⟨State.heap_setCell_self hcell', by simp [im_nx, State.setCell], ?_, fun q hq hne => ?_, rfl, by simp [im_nx, im_in]⟩
  · show ((S.pushCell (im_in comp)).setCell h0 _).heap[S.heap.size]? = _
    rw [State.heap_setCell_other (Nat.ne_of_lt hlt)]
    exact State.heap_pushCell_size _ _
  · show ((S.pushCell (im_in comp)).setCell h0 _).heap[q]? = _
    rw [State.heap_setCell_other (Ne.symm hne), State.heap_pushCell_of_lt (h := hq)]
def im_o1 (cA : ClassId) (h0 : Nat) : Cell := (im_o0 cA).setSlot 0 (.ref (h0 + 1))
def im_o2 (cA : ClassId) (h0 : Nat) : Cell := (im_o1 cA h0).setSlot 1 (.ref (h0 + 2))
def im_o3 (cA : ClassId) (h0 : Nat) : Cell := (im_o2 cA h0).setSlot 2 (.ref (h0 + 3))
def im_s1 (S : State) (cA comp : ClassId) : State := im_nx (S.pushCell (im_o0 cA)) S.heap.size 0 (im_o0 cA) comp
def im_s2 (S : State) (cA comp : ClassId) : State := im_nx (im_s1 S cA comp) S.heap.size 1 (im_o1 cA S.heap.size) comp
def im_s3 (S : State) (cA comp : ClassId) : State := im_nx (im_s2 S cA comp) S.heap.size 2 (im_o2 cA S.heap.size) comp
theorem im_s1_facts (S : State) (cA comp : ClassId) : (im_s1 S cA comp).heap[S.heap.size]? = some (im_o1 cA S.heap.size) ∧ (im_s1 S cA comp).heap.size = S.heap.size + 2 ∧ (im_s1 S cA comp).heap[S.heap.size + 1]? = some (im_in comp) ∧ (∀ q, q < S.heap.size → (im_s1 S cA comp).heap[q]? = S.heap[q]?) ∧ (im_s1 S cA comp).vm = S.vm ∧ (im_s1 S cA comp).slotsUsed = S.slotsUsed + 6 := by
  have hz : (S.pushCell (im_o0 cA)).heap.size = S.heap.size + 1 := by simp
  obtain ⟨a1, a2, a3, a4, a5, a6⟩ := im_nx_facts (S := S.pushCell (im_o0 cA)) (h0 := S.heap.size) (i := 0) (cell := im_o0 cA) (comp := comp) (State.heap_pushCell_size _ _)
  rw [hz] at a1 a2 a3 a4
  refine ⟨a1, a2, a3, fun q hq => ?_, a5, ?_⟩
  · rw [show (im_s1 S cA comp).heap[q]? = _ from a4 q (by omega) (by omega), State.heap_pushCell_of_lt (h := hq)]
  · show (im_nx _ _ _ _ _).slotsUsed = _
    rw [a6]; simp [im_o0]
theorem im_s2_facts (S : State) (cA comp : ClassId) : (im_s2 S cA comp).heap[S.heap.size]? = some (im_o2 cA S.heap.size) ∧ (im_s2 S cA comp).heap.size = S.heap.size + 3 ∧ (im_s2 S cA comp).heap[S.heap.size + 1]? = some (im_in comp) ∧ (im_s2 S cA comp).heap[S.heap.size + 2]? = some (im_in comp) ∧ (∀ q, q < S.heap.size → (im_s2 S cA comp).heap[q]? = S.heap[q]?) ∧ (im_s2 S cA comp).vm = S.vm ∧ (im_s2 S cA comp).slotsUsed = S.slotsUsed + 9 := by
  obtain ⟨b1, b2, b3, b4, b5, b6⟩ := im_s1_facts S cA comp
  obtain ⟨a1, a2, a3, a4, a5, a6⟩ := im_nx_facts (S := im_s1 S cA comp) (h0 := S.heap.size) (i := 1) (cell := im_o1 cA S.heap.size) (comp := comp) b1
  rw [b2] at a1 a2 a3 a4
  refine ⟨a1, a2, ?_, a3, fun q hq => ?_, a5.trans b5, a6.trans (by rw [b6])⟩
  · rw [show (im_s2 S cA comp).heap[S.heap.size + 1]? = _ from a4 _ (by omega) (by omega)]; exact b3
  · rw [show (im_s2 S cA comp).heap[q]? = _ from a4 q (by omega) (by omega)]; exact b4 q hq
theorem im_s3_facts (S : State) (cA comp : ClassId) : (im_s3 S cA comp).heap[S.heap.size]? = some (im_o3 cA S.heap.size) ∧ (im_s3 S cA comp).heap.size = S.heap.size + 4 ∧ (im_s3 S cA comp).heap[S.heap.size + 1]? = some (im_in comp) ∧ (im_s3 S cA comp).heap[S.heap.size + 2]? = some (im_in comp) ∧ (im_s3 S cA comp).heap[S.heap.size + 3]? = some (im_in comp) ∧ (∀ q, q < S.heap.size → (im_s3 S cA comp).heap[q]? = S.heap[q]?) ∧ (im_s3 S cA comp).vm = S.vm ∧ (im_s3 S cA comp).slotsUsed = S.slotsUsed + 12 := by
  obtain ⟨b1, b2, b3, b3', b4, b5, b6⟩ := im_s2_facts S cA comp
  obtain ⟨a1, a2, a3, a4, a5, a6⟩ := im_nx_facts (S := im_s2 S cA comp) (h0 := S.heap.size) (i := 2) (cell := im_o2 cA S.heap.size) (comp := comp) b1
  rw [b2] at a1 a2 a3 a4
  refine ⟨a1, a2, ?_, ?_, a3, fun q hq => ?_, a5.trans b5, a6.trans (by rw [b6])⟩
  · rw [show (im_s3 S cA comp).heap[S.heap.size + 1]? = _ from a4 _ (by omega) (by omega)]; exact b3
  · rw [show (im_s3 S cA comp).heap[S.heap.size + 2]? = _ from a4 _ (by omega) (by omega)]; exact b3'
  · rw [show (im_s3 S cA comp).heap[q]? = _ from a4 q (by omega) (by omega)]; exact b4 q hq
theorem im_mk2 {E : CtlPost} {e : Env} {d : Bool} {acts : List Action} {S : State} {c comp cc : ClassId} {k kc : Class} (hk : S.vm.classes[c]? = some k) (hkind : k.kind = .array comp (.array .int)) (hkc : S.vm.classes[comp]? = some kc) (hkindc : kc.kind = .array cc .int) (hl : ¬ 3 > e.platform.arrayLengthLimit) (hh : ¬ 3 * 4 > e.platform.maxHeapBytes)
    (h1 : S.heap.size + 4 ≤ e.platform.maxCells) (h2 : S.slotsUsed + 12 ≤ e.platform.maxSlots) {Qa : Addr → Pre} (hq : ∀ d' acts', Qa S.heap.size d' acts' (im_s3 S c comp)) : wp (Op.multianewarray.make c [3, 3]) Qa E e d acts S := by
  have hz : (S.pushCell (im_o0 c)).heap.size = S.heap.size + 1 := by simp
  have hu : (S.pushCell (im_o0 c)).slotsUsed = S.slotsUsed + 3 := by simp [im_o0]
  obtain ⟨a1, a2, a3, a4, a5, a6⟩ := im_s1_facts S c comp
  obtain ⟨b1, b2, b3, b3', b4, b5, b6⟩ := im_s2_facts S c comp
  rw [Op.multianewarray.make]
  simp only [wp_bind', W.ite, show ¬ (3 : Int32) < 0 by decide, if_false, wp_pure', W.theClass, hk, hkind, Option.some.injEq, exists_eq_left']
  refine im_wpn (len := 3) hk hkind hl hh rfl rfl (by omega) (by omega) ?_
  simp only [show ((3 : Int32) == 0) = false by decide, if_false, Bool.false_eq_true]
  rw [wp_bind', Std.Legacy.Range.forIn_eq_forIn_range']
  show wp (forIn (List.range' 0 3 1) PUnit.unit _) _ E e d acts _
  simp only [List.range'_succ, List.range'_zero, List.forIn_cons, List.forIn_nil]
  rw [wp_bind']
  refine im_mkw (S := S.pushCell (im_o0 c)) (h0 := S.heap.size) (i := 0) (c := c) (k := k) (cell := im_o0 c) hk hkind hkc hkindc hl hh (State.heap_pushCell_size _ _) rfl rfl rfl (by omega) (by rw [hz]; omega) (by rw [hu]; omega) fun d1 ac1 => ?_
  simp only
  rw [wp_bind']
  refine im_mkw (S := im_s1 S c comp) (h0 := S.heap.size) (i := 0 + 1) (c := c) (k := k) (cell := im_o1 c S.heap.size) (by rw [a5]; exact hk) hkind (by rw [a5]; exact hkc) hkindc hl hh a1 rfl rfl (by simp [im_o1, im_o0, Cell.setSlot]) (by omega) (by rw [a2]; omega) (by rw [a6]; omega) fun d2 ac2 => ?_
  simp only
  rw [wp_bind']
  refine im_mkw (S := im_s2 S c comp) (h0 := S.heap.size) (i := 0 + 1 + 1) (c := c) (k := k) (cell := im_o2 c S.heap.size) (by rw [b5]; exact hk) hkind (by rw [b5]; exact hkc) hkindc hl hh b1 rfl rfl (by simp [im_o2, im_o1, im_o0, Cell.setSlot]) (by omega) (by rw [b2]; omega) (by rw [b6]; omega) fun d3 ac3 => ?_
  simp only [wp_pure']
  exact hq _ _
theorem im_nx_top (S : State) (f : JFrame) (h0 i : Nat) (cell : Cell) (comp : ClassId) : im_nx (S.setTop f) h0 i cell comp = (im_nx S h0 i cell comp).setTop f := by
  simp only [im_nx, State.heap_setTop, State.pushCell_setTop, State.setCell_setTop]
theorem im_s3_top (S : State) (f : JFrame) (cA comp : ClassId) : im_s3 (S.setTop f) cA comp = (im_s3 S cA comp).setTop f := by
  simp only [im_s3, im_s2, im_s1, State.heap_setTop, State.pushCell_setTop, im_nx_top]
variable {p : Program} {l : Launch} {e : Env} {R : Room} {s : State} {m : MethodId} {args : Array Value} {below : List Frame} {meth : Method} {c : Code} {T : State} {locs : List Loc} {cells slots : Nat}
theorem im_nx_stand (X : Stand p l e R s m args below meth c T locs cells slots) {h0 i : Nat} {cell : Cell} {comp : ClassId} (hcell : T.heap[h0]? = some cell) : Stand p l e R s m args below meth c (im_nx T h0 i cell comp) (locs ++ [⟨h0, i⟩]) (cells + 1) (slots + 3) := by
  have hlt : h0 < T.heap.size := (Array.getElem?_eq_some_iff.mp hcell).1
  have hcell' : (T.pushCell (im_in comp)).heap[h0]? = some cell := by rw [State.heap_pushCell_of_lt (h := hlt)]; exact hcell
  have h := (X.pushed (im_in comp)).stored hcell' i (.ref T.heap.size)
  exact h
theorem im_multi (X : Stand p l e R s m args below meth c T locs cells slots) (hexec : p.tables.exec = Jvm.exec) {own : String} {index : Nat} (hown : s.vm.findClass own = some m.cls) (hclink : (Cond.classLink own index "[[I").before args s = true) (hover : (Cond.arrayOver (.array .int)).before args s = true) (harr : (Cond.arrayClass .int).before args s = true)
    {g : JFrame} (hg : g.method = m) (hdg : decode c.code g.pc = .ok (.multianewarray index 2, 4)) {rest : List Value} (hstack : g.stack = .int 3 :: .int 3 :: rest) (hcells : cells + 4 ≤ R.cells) (hslots : slots + 12 ≤ R.slots) :
    ∃ (vm₁ : Vm) (cA comp : ClassId), s.vm.findClass ("[" ++ (FieldType.array .int).toString) = some cA ∧ s.vm.findClass (FieldType.array .int).toString = some comp ∧
      Stand p l e R s m args below meth c (im_s3 (T.setVm vm₁) cA comp) (locs ++ [⟨T.heap.size, 0⟩] ++ [⟨T.heap.size, 1⟩] ++ [⟨T.heap.size, 2⟩]) (cells + 4) (slots + 12) ∧
      ∀ target, Steps p.tables e below ((im_s3 (T.setVm vm₁) cA comp).setTop { g with pc := g.pc + 4, stack := .ref T.heap.size :: rest }) target → Steps p.tables e below (T.setTop g) target := by
  subst hg
  have hpl : e.platform.magicAccessors = ({} : Platform).magicAccessors := by rw [X.admits.platform]
  obtain ⟨comp, cA, kA, hcomp, -, hkA, hkindA, hnameA⟩ := arrayOverA_spec hover
  obtain ⟨comp', kC, cc, hcomp', hkC, hkindC⟩ := Cond.arrayClass_spec harr
  have ecomp : comp' = comp := Option.some.inj (hcomp'.symm.trans hcomp)
  subst ecomp
  obtain ⟨c0, hfc0, hcl⟩ := Cond.classLink_spec hown hclink e.platform hpl
  cases hnameA.symm.trans hfc0
  obtain ⟨hg₁, hwarm₁, hready₁⟩ := State.classEntry (e := e) X.warmed hcl
  generalize T.vm.noted g.method.cls index (.cls cA) = vm₁ at hg₁ hwarm₁ hready₁
  have hal : s.vm.Alike vm₁ := hwarm₁.alike
  obtain ⟨kA₁, hkA₁, heA⟩ := hal.2.2 _ _ hkA
  obtain ⟨kC₁, hkC₁, heC⟩ := hal.2.2 _ _ hkC
  have hkindA₁ : kA₁.kind = .array comp' (.array .int) := by rw [heA]; exact hkindA
  have hkindC₁ : kC₁.kind = .array cc .int := by rw [heC]; exact hkindC
  have X₁ := X.noted hwarm₁
  obtain ⟨hr1, hr2⟩ := X.roomAbove hcells hslots
  have Y0 := X₁.pushed (im_o0 cA)
  have Y1 := im_nx_stand Y0 (h0 := T.heap.size) (i := 0) (cell := im_o0 cA) (comp := comp') (State.heap_pushCell_size _ _)
  have Y2 := im_nx_stand Y1 (h0 := T.heap.size) (i := 1) (cell := im_o1 cA T.heap.size) (comp := comp') (im_s1_facts (T.setVm vm₁) cA comp').1
  have Y3 := im_nx_stand Y2 (h0 := T.heap.size) (i := 2) (cell := im_o2 cA T.heap.size) (comp := comp') (im_s2_facts (T.setVm vm₁) cA comp').1
  have XF : Stand p l e R s g.method args below meth c (im_s3 (T.setVm vm₁) cA comp') (locs ++ [⟨T.heap.size, 0⟩] ++ [⟨T.heap.size, 1⟩] ++ [⟨T.heap.size, 2⟩]) (cells + 4) (slots + 12) := by
    have e1 : (im_o0 cA).slots.size = 3 := by simp [im_o0]
    rw [e1] at Y3
    exact Y3
  refine ⟨vm₁, cA, comp', hnameA, hcomp, XF, fun target hrest => ?_⟩
  have hl1 : ¬ 3 > e.platform.arrayLengthLimit := by rw [Launch.admits_arrayLengthLimit X.admits]; decide
  have hh1 : ¬ 3 * 4 > e.platform.maxHeapBytes := by rw [Launch.admits_maxHeapBytes X.admits]; decide
  jvm_step X.here [hexec, hdg]
  simp only [Op.multianewarray.sem, wp_bind', W.resolveClassAt_links (State.method?_setTop g X.here.top) hg₁]
  rw [W.popN, if_neg (by decide)]
  refine ⟨g, State.topJava?_setTop' (s := T.setVm vm₁) g X.here.top, [.int 3, .int 3], rest, rfl, hstack, ?_⟩
  simp only [List.mapM_cons, List.mapM_nil, wp_bind', wp_pure']
  refine im_mk2 (k := kA₁) (kc := kC₁) (comp := comp') (cc := cc) hkA₁ hkindA₁ hkC₁ hkindC₁ hl1 hh1 (by show T.heap.size + 4 ≤ _; omega) (by show T.slotsUsed + 12 ≤ _; omega) (fun d' acts' => ?_)
  have eS : ((T.setTop g).setVm vm₁).setTop { g with stack := rest } = (T.setVm vm₁).setTop { g with stack := rest } := by
    show ((T.setVm vm₁).setTop g).setTop _ = _
    rw [State.setTop_setTop]
  rw [eS, im_s3_top]
  simp only [wp_bind', W.mark, W.pushRef, State.topJava?_setTop' _ XF.here.top, Option.some.injEq, exists_eq_left', State.setTop_setTop, State.heap_setTop]
  intro acts
  simp [jvm, XF.here.top]
  exact hrest
theorem im_o3_slots (cA : ClassId) (h0 : Nat) : (im_o3 cA h0).slots[0]? = some (.ref (h0 + 1)) ∧ (im_o3 cA h0).slots[1]? = some (.ref (h0 + 2)) ∧ (im_o3 cA h0).slots[2]? = some (.ref (h0 + 3)) ∧ (im_o3 cA h0).slots.size = 3 ∧ (im_o3 cA h0).cls = cA ∧ (im_o3 cA h0).vm = .none := by
  refine ⟨?_, ?_, ?_, ?_, rfl, rfl⟩ <;> simp [im_o3, im_o2, im_o1, im_o0, Cell.setSlot]
end MULTI
end
section
-- ===== PART A: goes FIRST, ahead of the names: the tables' words, and 'selects' of the private methods out of them =====
/-- a private method of a class that the tables say can be made, by its rows of tables_1 -/
def lw_okq (q : MethodName × Nat) : Prop := (q.1.cls ≠ "java/lang/invoke/MethodHandle" ∧ q.1.cls ≠ "java/lang/invoke/VarHandle") ∧ Cond.instantiable q.1.cls q.2 ∈ tables_1 ∧ Cond.privateMethod q.1 ∈ tables_1 ∧ Cond.instanceMethod q.1 ∈ tables_1
theorem lw_p0 : lw_okq (⟨"IssueFold$Fold", "earliest", "([ILIssueFold$Log;)I"⟩, 7) := ⟨⟨by decide +kernel, by decide +kernel⟩, List.mem_of_getElem? (i := 184) (by decide +kernel), List.mem_of_getElem? (i := 384) (by decide +kernel), List.mem_of_getElem? (i := 385) (by decide +kernel)⟩
theorem lw_p1 : lw_okq (⟨"java/lang/Throwable", "fillInStackTrace", "(I)Ljava/lang/Throwable;"⟩, 6) := ⟨⟨by decide +kernel, by decide +kernel⟩, List.mem_of_getElem? (i := 528) (by decide +kernel), List.mem_of_getElem? (i := 526) (by decide +kernel), List.mem_of_getElem? (i := 527) (by decide +kernel)⟩
theorem lw_p2 : lw_okq (⟨"IssueFold$Reader", "readRule", "(LIssueFold$Workflow;)Z"⟩, 6) := ⟨⟨by decide +kernel, by decide +kernel⟩, List.mem_of_getElem? (i := 35) (by decide +kernel), List.mem_of_getElem? (i := 561) (by decide +kernel), List.mem_of_getElem? (i := 562) (by decide +kernel)⟩
theorem lw_p3 : lw_okq (⟨"IssueFold$Reader", "readState", "()I"⟩, 6) := ⟨⟨by decide +kernel, by decide +kernel⟩, List.mem_of_getElem? (i := 35) (by decide +kernel), List.mem_of_getElem? (i := 565) (by decide +kernel), List.mem_of_getElem? (i := 566) (by decide +kernel)⟩
theorem lw_p4 : lw_okq (⟨"IssueFold$Reader", "peek", "()C"⟩, 6) := ⟨⟨by decide +kernel, by decide +kernel⟩, List.mem_of_getElem? (i := 35) (by decide +kernel), List.mem_of_getElem? (i := 569) (by decide +kernel), List.mem_of_getElem? (i := 570) (by decide +kernel)⟩
theorem lw_p5 : lw_okq (⟨"IssueFold$Reader", "skip", "(C)Z"⟩, 6) := ⟨⟨by decide +kernel, by decide +kernel⟩, List.mem_of_getElem? (i := 35) (by decide +kernel), List.mem_of_getElem? (i := 574) (by decide +kernel), List.mem_of_getElem? (i := 575) (by decide +kernel)⟩
theorem lw_p6 : lw_okq (⟨"IssueFold$Reader", "readCondition", "(LIssueFold$Code;I)Z"⟩, 6) := ⟨⟨by decide +kernel, by decide +kernel⟩, List.mem_of_getElem? (i := 35) (by decide +kernel), List.mem_of_getElem? (i := 578) (by decide +kernel), List.mem_of_getElem? (i := 579) (by decide +kernel)⟩
theorem lw_p7 : lw_okq (⟨"IssueFold$Reader", "readAlternative", "(LIssueFold$Code;I)Z"⟩, 6) := ⟨⟨by decide +kernel, by decide +kernel⟩, List.mem_of_getElem? (i := 35) (by decide +kernel), List.mem_of_getElem? (i := 582) (by decide +kernel), List.mem_of_getElem? (i := 583) (by decide +kernel)⟩
theorem lw_p8 : lw_okq (⟨"IssueFold$Reader", "readTest", "(LIssueFold$Code;I)Z"⟩, 6) := ⟨⟨by decide +kernel, by decide +kernel⟩, List.mem_of_getElem? (i := 35) (by decide +kernel), List.mem_of_getElem? (i := 586) (by decide +kernel), List.mem_of_getElem? (i := 587) (by decide +kernel)⟩
theorem lw_p9 : lw_okq (⟨"IssueFold$Reader", "readFact", "(LIssueFold$Code;)Z"⟩, 6) := ⟨⟨by decide +kernel, by decide +kernel⟩, List.mem_of_getElem? (i := 35) (by decide +kernel), List.mem_of_getElem? (i := 590) (by decide +kernel), List.mem_of_getElem? (i := 591) (by decide +kernel)⟩
theorem lw_p10 : lw_okq (⟨"IssueFold$Reader", "factKind", "(CC)I"⟩, 6) := ⟨⟨by decide +kernel, by decide +kernel⟩, List.mem_of_getElem? (i := 35) (by decide +kernel), List.mem_of_getElem? (i := 678) (by decide +kernel), List.mem_of_getElem? (i := 679) (by decide +kernel)⟩
theorem lw_p11 : lw_okq (⟨"IssueFold$Finds", "insert", "(I[I)V"⟩, 2) := ⟨⟨by decide +kernel, by decide +kernel⟩, List.mem_of_getElem? (i := 304) (by decide +kernel), List.mem_of_getElem? (i := 814) (by decide +kernel), List.mem_of_getElem? (i := 815) (by decide +kernel)⟩
theorem lw_p12 : lw_okq (⟨"IssueFoldModel", "fail", "(I)I"⟩, 47) := ⟨⟨by decide +kernel, by decide +kernel⟩, List.mem_of_getElem? (i := 818) (by decide +kernel), List.mem_of_getElem? (i := 985) (by decide +kernel), List.mem_of_getElem? (i := 986) (by decide +kernel)⟩
theorem lw_p13 : lw_okq (⟨"IssueFoldModel", "takeText", "([CI)V"⟩, 47) := ⟨⟨by decide +kernel, by decide +kernel⟩, List.mem_of_getElem? (i := 818) (by decide +kernel), List.mem_of_getElem? (i := 989) (by decide +kernel), List.mem_of_getElem? (i := 990) (by decide +kernel)⟩
theorem lw_p14 : lw_okq (⟨"IssueFoldModel", "readRule", "()V"⟩, 47) := ⟨⟨by decide +kernel, by decide +kernel⟩, List.mem_of_getElem? (i := 818) (by decide +kernel), List.mem_of_getElem? (i := 993) (by decide +kernel), List.mem_of_getElem? (i := 994) (by decide +kernel)⟩
theorem lw_p15 : lw_okq (⟨"IssueFoldModel", "want", "(CC)I"⟩, 47) := ⟨⟨by decide +kernel, by decide +kernel⟩, List.mem_of_getElem? (i := 818) (by decide +kernel), List.mem_of_getElem? (i := 997) (by decide +kernel), List.mem_of_getElem? (i := 998) (by decide +kernel)⟩
def lw_privs_1 : List (MethodName × Nat) := [(⟨"IssueFold$Fold", "earliest", "([ILIssueFold$Log;)I"⟩, 7), (⟨"java/lang/Throwable", "fillInStackTrace", "(I)Ljava/lang/Throwable;"⟩, 6), (⟨"IssueFold$Reader", "readRule", "(LIssueFold$Workflow;)Z"⟩, 6), (⟨"IssueFold$Reader", "readState", "()I"⟩, 6), (⟨"IssueFold$Reader", "peek", "()C"⟩, 6), (⟨"IssueFold$Reader", "skip", "(C)Z"⟩, 6), (⟨"IssueFold$Reader", "readCondition", "(LIssueFold$Code;I)Z"⟩, 6), (⟨"IssueFold$Reader", "readAlternative", "(LIssueFold$Code;I)Z"⟩, 6), (⟨"IssueFold$Reader", "readTest", "(LIssueFold$Code;I)Z"⟩, 6), (⟨"IssueFold$Reader", "readFact", "(LIssueFold$Code;)Z"⟩, 6), (⟨"IssueFold$Reader", "factKind", "(CC)I"⟩, 6), (⟨"IssueFold$Finds", "insert", "(I[I)V"⟩, 2), (⟨"IssueFoldModel", "fail", "(I)I"⟩, 47), (⟨"IssueFoldModel", "takeText", "([CI)V"⟩, 47), (⟨"IssueFoldModel", "readRule", "()V"⟩, 47), (⟨"IssueFoldModel", "want", "(CC)I"⟩, 47)]
theorem lw_r1 : ∀ q ∈ lw_privs_1, lw_okq q := List.forall_mem_cons.mpr ⟨lw_p0, List.forall_mem_cons.mpr ⟨lw_p1, List.forall_mem_cons.mpr ⟨lw_p2, List.forall_mem_cons.mpr ⟨lw_p3, List.forall_mem_cons.mpr ⟨lw_p4, List.forall_mem_cons.mpr ⟨lw_p5, List.forall_mem_cons.mpr ⟨lw_p6, List.forall_mem_cons.mpr ⟨lw_p7, List.forall_mem_cons.mpr ⟨lw_p8, List.forall_mem_cons.mpr ⟨lw_p9, List.forall_mem_cons.mpr ⟨lw_p10, List.forall_mem_cons.mpr ⟨lw_p11, List.forall_mem_cons.mpr ⟨lw_p12, List.forall_mem_cons.mpr ⟨lw_p13, List.forall_mem_cons.mpr ⟨lw_p14, List.forall_mem_cons.mpr ⟨lw_p15, fun _ h => absurd h List.not_mem_nil⟩⟩⟩⟩⟩⟩⟩⟩⟩⟩⟩⟩⟩⟩⟩⟩
theorem lw_p16 : lw_okq (⟨"IssueFoldModel", "look", "()C"⟩, 47) := ⟨⟨by decide +kernel, by decide +kernel⟩, List.mem_of_getElem? (i := 818) (by decide +kernel), List.mem_of_getElem? (i := 1001) (by decide +kernel), List.mem_of_getElem? (i := 1002) (by decide +kernel)⟩
theorem lw_p17 : lw_okq (⟨"IssueFoldModel", "readCondition", "()V"⟩, 47) := ⟨⟨by decide +kernel, by decide +kernel⟩, List.mem_of_getElem? (i := 818) (by decide +kernel), List.mem_of_getElem? (i := 1005) (by decide +kernel), List.mem_of_getElem? (i := 1006) (by decide +kernel)⟩
theorem lw_p18 : lw_okq (⟨"IssueFoldModel", "readFact", "()V"⟩, 47) := ⟨⟨by decide +kernel, by decide +kernel⟩, List.mem_of_getElem? (i := 818) (by decide +kernel), List.mem_of_getElem? (i := 1009) (by decide +kernel), List.mem_of_getElem? (i := 1010) (by decide +kernel)⟩
theorem lw_p19 : lw_okq (⟨"IssueFoldModel", "isFact", "(C)Z"⟩, 47) := ⟨⟨by decide +kernel, by decide +kernel⟩, List.mem_of_getElem? (i := 818) (by decide +kernel), List.mem_of_getElem? (i := 1013) (by decide +kernel), List.mem_of_getElem? (i := 1014) (by decide +kernel)⟩
theorem lw_p20 : lw_okq (⟨"IssueFoldModel", "ended", "(I)I"⟩, 47) := ⟨⟨by decide +kernel, by decide +kernel⟩, List.mem_of_getElem? (i := 818) (by decide +kernel), List.mem_of_getElem? (i := 1017) (by decide +kernel), List.mem_of_getElem? (i := 1018) (by decide +kernel)⟩
theorem lw_p21 : lw_okq (⟨"IssueFoldModel", "fold", "(I)V"⟩, 47) := ⟨⟨by decide +kernel, by decide +kernel⟩, List.mem_of_getElem? (i := 818) (by decide +kernel), List.mem_of_getElem? (i := 1043) (by decide +kernel), List.mem_of_getElem? (i := 1044) (by decide +kernel)⟩
theorem lw_p22 : lw_okq (⟨"IssueFoldModel", "apply", "(I)V"⟩, 47) := ⟨⟨by decide +kernel, by decide +kernel⟩, List.mem_of_getElem? (i := 818) (by decide +kernel), List.mem_of_getElem? (i := 1047) (by decide +kernel), List.mem_of_getElem? (i := 1048) (by decide +kernel)⟩
theorem lw_p23 : lw_okq (⟨"IssueFoldModel", "canBe", "(IIII)Z"⟩, 47) := ⟨⟨by decide +kernel, by decide +kernel⟩, List.mem_of_getElem? (i := 818) (by decide +kernel), List.mem_of_getElem? (i := 1051) (by decide +kernel), List.mem_of_getElem? (i := 1052) (by decide +kernel)⟩
theorem lw_p24 : lw_okq (⟨"IssueFoldModel", "hasRule", "(III)Z"⟩, 47) := ⟨⟨by decide +kernel, by decide +kernel⟩, List.mem_of_getElem? (i := 818) (by decide +kernel), List.mem_of_getElem? (i := 1055) (by decide +kernel), List.mem_of_getElem? (i := 1056) (by decide +kernel)⟩
theorem lw_p25 : lw_okq (⟨"IssueFoldModel", "holds", "([CIIII)Z"⟩, 47) := ⟨⟨by decide +kernel, by decide +kernel⟩, List.mem_of_getElem? (i := 818) (by decide +kernel), List.mem_of_getElem? (i := 1059) (by decide +kernel), List.mem_of_getElem? (i := 1060) (by decide +kernel)⟩
theorem lw_p26 : lw_okq (⟨"IssueFoldModel", "fact", "([CIII)Z"⟩, 47) := ⟨⟨by decide +kernel, by decide +kernel⟩, List.mem_of_getElem? (i := 818) (by decide +kernel), List.mem_of_getElem? (i := 1063) (by decide +kernel), List.mem_of_getElem? (i := 1064) (by decide +kernel)⟩
theorem lw_p27 : lw_okq (⟨"IssueFoldModel", "comes", "(II)I"⟩, 47) := ⟨⟨by decide +kernel, by decide +kernel⟩, List.mem_of_getElem? (i := 818) (by decide +kernel), List.mem_of_getElem? (i := 1078) (by decide +kernel), List.mem_of_getElem? (i := 1079) (by decide +kernel)⟩
theorem lw_p28 : lw_okq (⟨"IssueFoldModel", "drop", "(I)V"⟩, 47) := ⟨⟨by decide +kernel, by decide +kernel⟩, List.mem_of_getElem? (i := 818) (by decide +kernel), List.mem_of_getElem? (i := 1082) (by decide +kernel), List.mem_of_getElem? (i := 1083) (by decide +kernel)⟩
theorem lw_p29 : lw_okq (⟨"IssueFoldModel", "isFound", "(I)Z"⟩, 47) := ⟨⟨by decide +kernel, by decide +kernel⟩, List.mem_of_getElem? (i := 818) (by decide +kernel), List.mem_of_getElem? (i := 1098) (by decide +kernel), List.mem_of_getElem? (i := 1099) (by decide +kernel)⟩
theorem lw_p30 : lw_okq (⟨"IssueFoldModel", "insert", "(I)V"⟩, 47) := ⟨⟨by decide +kernel, by decide +kernel⟩, List.mem_of_getElem? (i := 818) (by decide +kernel), List.mem_of_getElem? (i := 1102) (by decide +kernel), List.mem_of_getElem? (i := 1103) (by decide +kernel)⟩
def lw_privs_2 : List (MethodName × Nat) := [(⟨"IssueFoldModel", "look", "()C"⟩, 47), (⟨"IssueFoldModel", "readCondition", "()V"⟩, 47), (⟨"IssueFoldModel", "readFact", "()V"⟩, 47), (⟨"IssueFoldModel", "isFact", "(C)Z"⟩, 47), (⟨"IssueFoldModel", "ended", "(I)I"⟩, 47), (⟨"IssueFoldModel", "fold", "(I)V"⟩, 47), (⟨"IssueFoldModel", "apply", "(I)V"⟩, 47), (⟨"IssueFoldModel", "canBe", "(IIII)Z"⟩, 47), (⟨"IssueFoldModel", "hasRule", "(III)Z"⟩, 47), (⟨"IssueFoldModel", "holds", "([CIIII)Z"⟩, 47), (⟨"IssueFoldModel", "fact", "([CIII)Z"⟩, 47), (⟨"IssueFoldModel", "comes", "(II)I"⟩, 47), (⟨"IssueFoldModel", "drop", "(I)V"⟩, 47), (⟨"IssueFoldModel", "isFound", "(I)Z"⟩, 47), (⟨"IssueFoldModel", "insert", "(I)V"⟩, 47)]
theorem lw_r2 : ∀ q ∈ lw_privs_2, lw_okq q := List.forall_mem_cons.mpr ⟨lw_p16, List.forall_mem_cons.mpr ⟨lw_p17, List.forall_mem_cons.mpr ⟨lw_p18, List.forall_mem_cons.mpr ⟨lw_p19, List.forall_mem_cons.mpr ⟨lw_p20, List.forall_mem_cons.mpr ⟨lw_p21, List.forall_mem_cons.mpr ⟨lw_p22, List.forall_mem_cons.mpr ⟨lw_p23, List.forall_mem_cons.mpr ⟨lw_p24, List.forall_mem_cons.mpr ⟨lw_p25, List.forall_mem_cons.mpr ⟨lw_p26, List.forall_mem_cons.mpr ⟨lw_p27, List.forall_mem_cons.mpr ⟨lw_p28, List.forall_mem_cons.mpr ⟨lw_p29, List.forall_mem_cons.mpr ⟨lw_p30, fun _ h => absurd h List.not_mem_nil⟩⟩⟩⟩⟩⟩⟩⟩⟩⟩⟩⟩⟩⟩⟩
def lw_privs : List (MethodName × Nat) := lw_privs_1 ++ (lw_privs_2)
def lw_tbl : List Cond := k2_sels lw_privs ++ tables_1
theorem lw_privs_ok : ∀ q ∈ lw_privs, lw_okq q := by
  show ∀ q ∈ lw_privs_1 ++ (lw_privs_2), lw_okq q
  exact List.forall_mem_append.mpr ⟨lw_r1, lw_r2⟩
end
section
/-! Tables of the abstract machine, printed by wip/whole/gen/tables.py out of the program's listing and the words of tables_1. -/
abbrev it_Me : Type := MethodName × ByteArray × Nat × Option FieldType × List (Nat × Nat × Nat × Nat)
def it_ows : List String := ["IssueFoldLaw", "IssueFold", "IssueFold$Reader", "IssueFold$Code", "IssueFold$Law", "IssueFold$Workflow", "IssueFold$Log", "IssueFold$Site", "IssueFold$Fold", "IssueFold$Subject", "IssueFold$Post", "IssueFold$Message", "IssueFold$Finds", "IssueFoldModel"]
def it_mes : List it_Me := [
  (⟨"IssueFoldLaw", "law", "([I)Z"⟩, code, 7, some .boolean, []),
  (⟨"IssueFold", "<init>", "()V"⟩, prog_1_method_1_code, 2, none, []),
  (⟨"IssueFold$Reader", "<init>", "(IZ)V"⟩, prog_9_method_1_code, 3, none, []),
  (⟨"IssueFold$Code", "<init>", "(I)V"⟩, prog_2_method_1_code, 2, none, []),
  (⟨"IssueFold$Law", "<init>", "()V"⟩, prog_5_method_1_code, 1, none, []),
  (⟨"IssueFold$Workflow", "<init>", "()V"⟩, prog_12_method_1_code, 1, none, []),
  (⟨"IssueFold$Log", "<init>", "()V"⟩, prog_6_method_1_code, 1, none, []),
  (⟨"IssueFold$Site", "<init>", "()V"⟩, prog_10_method_1_code, 1, none, []),
  (⟨"IssueFold$Fold", "<init>", "()V"⟩, prog_4_method_1_code, 1, none, []),
  (⟨"IssueFold$Subject", "<init>", "()V"⟩, prog_11_method_1_code, 1, none, []),
  (⟨"IssueFold$Post", "<init>", "()V"⟩, prog_8_method_1_code, 2, none, []),
  (⟨"IssueFold$Message", "<init>", "()V"⟩, prog_7_method_1_code, 1, none, []),
  (⟨"IssueFold$Finds", "<init>", "()V"⟩, prog_3_method_1_code, 1, none, []),
  (⟨"IssueFold", "write", "(C)Z"⟩, prog_1_method_2_code, 2, some .boolean, []),
  (⟨"IssueFold$Reader", "append", "(C)Z"⟩, prog_9_method_2_code, 2, some .boolean, []),
  (⟨"IssueFold", "place", "()I"⟩, prog_1_method_4_code, 1, some .int, []),
  (⟨"IssueFold", "deliver", "(I)I"⟩, prog_1_method_9_code, 5, some .int, []),
  (⟨"IssueFold", "isBelow", "(II)Z"⟩, prog_1_method_21_code, 2, some .boolean, []),
  (⟨"IssueFold$Post", "remove", "(I)LIssueFold$Message;"⟩, prog_8_method_3_code, 4, some (.object "IssueFold$Message"), []),
  (⟨"IssueFold$Site", "receive", "(LIssueFold$Message;LIssueFold$Log;)I"⟩, prog_10_method_2_code, 7, some .int, []),
  (⟨"IssueFold", "codeOf", "(II)I"⟩, prog_1_method_23_code, 2, some .int, []),
  (⟨"IssueFold$Fold", "rebuild", "([ILIssueFold$Log;LIssueFold$Law;)V"⟩, prog_4_method_4_code, 6, none, []),
  (⟨"IssueFold$Fold", "earliest", "([ILIssueFold$Log;)I"⟩, prog_4_method_5_code, 7, some .int, []),
  (⟨"IssueFold$Fold", "take", "(ILIssueFold$Log;LIssueFold$Law;)V"⟩, prog_4_method_6_code, 6, none, []),
  (⟨"IssueFold$Fold", "skips", "(ILIssueFold$Log;LIssueFold$Law;)Z"⟩, prog_4_method_7_code, 8, some .boolean, []),
  (⟨"IssueFold$Law", "permits", "(II)Z"⟩, prog_5_method_2_code, 3, some .boolean, []),
  (⟨"IssueFold$Fold", "has", "(I)Z"⟩, prog_4_method_2_code, 2, some .boolean, []),
  (⟨"IssueFold$Fold", "lookAt", "(I)LIssueFold$Subject;"⟩, prog_4_method_3_code, 2, some (.object "IssueFold$Subject"), []),
  (⟨"IssueFold$Workflow", "allows", "(LIssueFold$Subject;I)Z"⟩, prog_12_method_6_code, 4, some .boolean, []),
  (⟨"IssueFold$Code", "holds", "(IILIssueFold$Subject;)Z"⟩, prog_2_method_4_code, 7, some .boolean, []),
  (⟨"IssueFold$Subject", "fits", "(II)Z"⟩, prog_11_method_2_code, 3, some .boolean, []),
  (⟨"IssueFold$Workflow", "firstState", "()I"⟩, prog_12_method_5_code, 1, some .int, []),
  (⟨"IssueFold", "lose", "(I)Z"⟩, prog_1_method_10_code, 2, some .boolean, []),
  (⟨"IssueFold", "crash", "(I)Z"⟩, prog_1_method_11_code, 2, some .boolean, []),
  (⟨"IssueFold$Site", "forgetViews", "()V"⟩, prog_10_method_3_code, 3, none, []),
  (⟨"IssueFold", "ask", "(C)Z"⟩, prog_1_method_12_code, 2, some .boolean, []),
  (⟨"IssueFold", "result", "(I)I"⟩, prog_1_method_14_code, 2, some .int, []),
  (⟨"IssueFold", "issue", "(III)I"⟩, prog_1_method_15_code, 5, some .int, []),
  (⟨"IssueFold", "event", "(II)I"⟩, prog_1_method_16_code, 3, some .int, []),
  (⟨"IssueFold", "isAmong", "(I[I)Z"⟩, prog_1_method_24_code, 2, some .boolean, []),
  (⟨"IssueFold", "skipped", "(II)I"⟩, prog_1_method_17_code, 3, some .int, []),
  (⟨"IssueFold", "known", "(III)I"⟩, prog_1_method_18_code, 4, some .int, []),
  (⟨"IssueFold", "clock", "(I)I"⟩, prog_1_method_19_code, 2, some .int, []),
  (⟨"IssueFold", "messages", "()I"⟩, prog_1_method_20_code, 1, some .int, []),
  (⟨"IssueFoldLaw", "compile", "(LIssueFold;[J)I"⟩, method_3_code, 3, some .int, [(0, 8, 11, 13), (0, 8, 14, 15)]),
  (⟨"IssueFold", "compile", "()I"⟩, prog_1_method_3_code, 1, some .int, []),
  (⟨"IssueFold$Workflow", "isThere", "()Z"⟩, prog_12_method_2_code, 1, some .boolean, []),
  (⟨"IssueFold$Reader", "clear", "()V"⟩, prog_9_method_3_code, 1, none, []),
  (⟨"IssueFold$Reader", "readWorkflow", "(LIssueFold$Workflow;)I"⟩, prog_9_method_4_code, 4, some .int, []),
  (⟨"IssueFold$Reader", "readRule", "(LIssueFold$Workflow;)Z"⟩, prog_9_method_6_code, 5, some .boolean, []),
  (⟨"IssueFold$Reader", "readState", "()I"⟩, prog_9_method_7_code, 2, some .int, []),
  (⟨"IssueFold$Reader", "peek", "()C"⟩, prog_9_method_14_code, 1, some .char, []),
  (⟨"IssueFold$Reader", "skip", "(C)Z"⟩, prog_9_method_13_code, 2, some .boolean, []),
  (⟨"IssueFold$Reader", "readCondition", "(LIssueFold$Code;I)Z"⟩, prog_9_method_8_code, 4, some .boolean, []),
  (⟨"IssueFold$Reader", "readAlternative", "(LIssueFold$Code;I)Z"⟩, prog_9_method_9_code, 4, some .boolean, []),
  (⟨"IssueFold$Reader", "readTest", "(LIssueFold$Code;I)Z"⟩, prog_9_method_10_code, 4, some .boolean, []),
  (⟨"IssueFold$Reader", "readFact", "(LIssueFold$Code;)Z"⟩, prog_9_method_11_code, 5, some .boolean, []),
  (⟨"IssueFold$Reader", "factKind", "(CC)I"⟩, prog_9_method_12_code, 3, some .int, []),
  (⟨"IssueFold$Code", "add", "(II)V"⟩, prog_2_method_3_code, 3, none, []),
  (⟨"IssueFold$Workflow", "addRule", "(III)V"⟩, prog_12_method_4_code, 4, none, []),
  (⟨"IssueFold$Workflow", "clear", "()V"⟩, prog_12_method_3_code, 1, none, []),
  (⟨"IssueFold$Code", "clear", "()V"⟩, prog_2_method_2_code, 1, none, []),
  (⟨"IssueFoldLaw", "role", "(LIssueFold;II)I"⟩, method_4_code, 4, some .int, [(0, 6, 9, 15), (0, 6, 12, 13)]),
  (⟨"IssueFold", "role", "(II)V"⟩, prog_1_method_5_code, 3, none, []),
  (⟨"IssueFoldLaw", "needs", "(LIssueFold;II)I"⟩, method_5_code, 4, some .int, [(0, 6, 9, 15), (0, 6, 12, 13)]),
  (⟨"IssueFold", "needs", "(II)V"⟩, prog_1_method_6_code, 3, none, []),
  (⟨"IssueFoldLaw", "act", "(LIssueFold;IIIII[J)I"⟩, method_6_code, 8, some .int, [(0, 16, 19, 15), (0, 16, 23, 13), (0, 16, 27, 28)]),
  (⟨"IssueFold", "act", "(IIIII)I"⟩, prog_1_method_7_code, 8, some .int, []),
  (⟨"IssueFold", "isValue", "(II)Z"⟩, prog_1_method_22_code, 2, some .boolean, []),
  (⟨"IssueFold$Log", "draft", "(IIIIII)I"⟩, prog_6_method_2_code, 8, some .int, []),
  (⟨"IssueFold$Log", "keepDraft", "(I)V"⟩, prog_6_method_3_code, 2, none, []),
  (⟨"IssueFoldLaw", "send", "(LIssueFold;II[J)I"⟩, method_7_code, 5, some .int, [(0, 10, 13, 15), (0, 10, 17, 13)]),
  (⟨"IssueFold", "send", "(II)I"⟩, prog_1_method_8_code, 4, some .int, []),
  (⟨"IssueFold$Post", "add", "()LIssueFold$Message;"⟩, prog_8_method_2_code, 1, some (.object "IssueFold$Message"), []),
  (⟨"IssueFold$Message", "fill", "(IILIssueFold$Site;)I"⟩, prog_7_method_2_code, 7, some .int, []),
  (⟨"IssueFoldLaw", "query", "(LIssueFold;I[J)I"⟩, method_8_code, 4, some .int, [(0, 9, 12, 15)]),
  (⟨"IssueFold", "query", "(I)I"⟩, prog_1_method_13_code, 2, some .int, []),
  (⟨"IssueFold$Finds", "clear", "()V"⟩, prog_3_method_2_code, 1, none, []),
  (⟨"IssueFold$Reader", "readQuery", "(LIssueFold$Code;)I"⟩, prog_9_method_5_code, 3, some .int, []),
  (⟨"IssueFold$Finds", "search", "(LIssueFold$Fold;LIssueFold$Code;)V"⟩, prog_3_method_3_code, 4, none, []),
  (⟨"IssueFold$Finds", "insert", "(I[I)V"⟩, prog_3_method_4_code, 4, none, []),
  (⟨"IssueFoldModel", "<init>", "()V"⟩, prog_14_method_1_code, 1, none, []),
  (⟨"IssueFoldModel", "thrown", "()I"⟩, prog_14_method_2_code, 1, some .int, []),
  (⟨"IssueFoldModel", "write", "(C)Z"⟩, prog_14_method_6_code, 2, some .boolean, []),
  (⟨"IssueFoldModel", "isCharacter", "(C)Z"⟩, prog_14_method_5_code, 1, some .boolean, []),
  (⟨"IssueFoldModel", "ask", "(C)Z"⟩, prog_14_method_7_code, 2, some .boolean, []),
  (⟨"IssueFoldModel", "compile", "()I"⟩, prog_14_method_16_code, 3, some .int, []),
  (⟨"IssueFoldModel", "fail", "(I)I"⟩, prog_14_method_3_code, 2, some .int, []),
  (⟨"IssueFoldModel", "takeText", "([CI)V"⟩, prog_14_method_14_code, 4, none, []),
  (⟨"IssueFoldModel", "readRule", "()V"⟩, prog_14_method_15_code, 4, none, []),
  (⟨"IssueFoldModel", "want", "(CC)I"⟩, prog_14_method_9_code, 4, some .int, []),
  (⟨"IssueFoldModel", "look", "()C"⟩, prog_14_method_8_code, 1, some .char, []),
  (⟨"IssueFoldModel", "readCondition", "()V"⟩, prog_14_method_12_code, 5, none, []),
  (⟨"IssueFoldModel", "readFact", "()V"⟩, prog_14_method_11_code, 2, none, []),
  (⟨"IssueFoldModel", "isFact", "(C)Z"⟩, prog_14_method_10_code, 2, some .boolean, []),
  (⟨"IssueFoldModel", "ended", "(I)I"⟩, prog_14_method_13_code, 3, some .int, []),
  (⟨"IssueFoldModel", "place", "()I"⟩, prog_14_method_17_code, 1, some .int, []),
  (⟨"IssueFoldModel", "role", "(II)V"⟩, prog_14_method_21_code, 3, none, []),
  (⟨"IssueFoldModel", "within", "(II)Z"⟩, prog_14_method_4_code, 2, some .boolean, []),
  (⟨"IssueFoldModel", "needs", "(II)V"⟩, prog_14_method_22_code, 3, none, []),
  (⟨"IssueFoldModel", "act", "(IIIII)I"⟩, prog_14_method_28_code, 8, some .int, []),
  (⟨"IssueFoldModel", "isValue", "(II)Z"⟩, prog_14_method_27_code, 2, some .boolean, []),
  (⟨"IssueFoldModel", "fold", "(I)V"⟩, prog_14_method_26_code, 7, none, []),
  (⟨"IssueFoldModel", "apply", "(I)V"⟩, prog_14_method_25_code, 3, none, []),
  (⟨"IssueFoldModel", "canBe", "(IIII)Z"⟩, prog_14_method_24_code, 5, some .boolean, []),
  (⟨"IssueFoldModel", "hasRule", "(III)Z"⟩, prog_14_method_23_code, 6, some .boolean, []),
  (⟨"IssueFoldModel", "holds", "([CIIII)Z"⟩, prog_14_method_20_code, 13, some .boolean, []),
  (⟨"IssueFoldModel", "fact", "([CIII)Z"⟩, prog_14_method_19_code, 8, some .boolean, []),
  (⟨"IssueFoldModel", "compares", "(ICI)Z"⟩, prog_14_method_18_code, 3, some .boolean, []),
  (⟨"IssueFoldModel", "send", "(II)I"⟩, prog_14_method_29_code, 7, some .int, []),
  (⟨"IssueFoldModel", "deliver", "(I)I"⟩, prog_14_method_32_code, 4, some .int, []),
  (⟨"IssueFoldModel", "comes", "(II)I"⟩, prog_14_method_31_code, 7, some .int, []),
  (⟨"IssueFoldModel", "drop", "(I)V"⟩, prog_14_method_30_code, 4, none, []),
  (⟨"IssueFoldModel", "lose", "(I)Z"⟩, prog_14_method_33_code, 2, some .boolean, []),
  (⟨"IssueFoldModel", "crash", "(I)Z"⟩, prog_14_method_34_code, 3, some .boolean, []),
  (⟨"IssueFoldModel", "query", "(I)I"⟩, prog_14_method_37_code, 3, some .int, []),
  (⟨"IssueFoldModel", "isFound", "(I)Z"⟩, prog_14_method_35_code, 2, some .boolean, []),
  (⟨"IssueFoldModel", "insert", "(I)V"⟩, prog_14_method_36_code, 3, none, []),
  (⟨"IssueFoldModel", "result", "(I)I"⟩, prog_14_method_38_code, 2, some .int, []),
  (⟨"IssueFoldModel", "issue", "(III)I"⟩, prog_14_method_39_code, 4, some .int, []),
  (⟨"IssueFoldModel", "event", "(II)I"⟩, prog_14_method_40_code, 3, some .int, []),
  (⟨"IssueFoldModel", "skipped", "(II)I"⟩, prog_14_method_41_code, 3, some .int, []),
  (⟨"IssueFoldModel", "known", "(III)I"⟩, prog_14_method_42_code, 4, some .int, []),
  (⟨"IssueFoldModel", "clock", "(I)I"⟩, prog_14_method_43_code, 2, some .int, []),
  (⟨"IssueFoldModel", "messages", "()I"⟩, prog_14_method_44_code, 1, some .int, [])]
def it_owl : List Nat := [0, 1, 2, 3, 4, 5, 6, 7, 8, 9, 10, 11, 12, 1, 2, 1, 1, 1, 10, 7, 1, 8, 8, 8, 8, 4, 8, 8, 5, 3, 9, 5, 1, 1, 7, 1, 1, 1, 1, 1, 1, 1, 1, 1, 0, 1, 5, 2, 2, 2, 2, 2, 2, 2, 2, 2, 2, 2, 3, 5, 5, 3, 0, 1, 0, 1, 0, 1, 1, 6, 6, 0, 1, 10, 11, 0, 1, 12, 2, 12, 12, 13, 13, 13, 13, 13, 13, 13, 13, 13, 13, 13, 13, 13, 13, 13, 13, 13, 13, 13, 13, 13, 13, 13, 13, 13, 13, 13, 13, 13, 13, 13, 13, 13, 13, 13, 13, 13, 13, 13, 13, 13, 13, 13, 13]
def it_met (y : Nat) : Option it_Me := it_mes[y]?
def it_ow (y : Nat) : Nat := it_owl.getD y 999
def it_T0 : u_T := fun k => [("IssueFold$Reader", "letters", "[C", true), ("IssueFold$Reader", "asksQueries", "Z", true), ("IssueFold$Reader", "facts", "Ljava/lang/String;", true), ("IssueFold$Reader", "written", "I", false), ("IssueFold$Reader", "length", "I", false), ("IssueFold$Reader", "at", "I", false)].getD k ("", "", "", false)
def it_T1 : u_T := fun k => [("IssueFold$Code", "kinds", "[I", true), ("IssueFold$Code", "values", "[I", true), ("IssueFold$Code", "size", "I", false)].getD k ("", "", "", false)
def it_T2 : u_T := fun k => [("IssueFold$Workflow", "froms", "[I", true), ("IssueFold$Workflow", "tos", "[I", true), ("IssueFold$Workflow", "starts", "[I", true), ("IssueFold$Workflow", "ends", "[I", true), ("IssueFold$Workflow", "code", "LIssueFold$Code;", true), ("IssueFold$Workflow", "rules", "I", false)].getD k ("", "", "", false)
def it_T3 : u_T := fun k => [("IssueFold$Law", "workflow", "LIssueFold$Workflow;", true), ("IssueFold$Law", "roles", "[I", true), ("IssueFold$Law", "needed", "[I", true)].getD k ("", "", "", false)
def it_T4 : u_T := fun k => [("IssueFold$Log", "kinds", "[I", true), ("IssueFold$Log", "stamps", "[I", true), ("IssueFold$Log", "users", "[I", true), ("IssueFold$Log", "issues", "[I", true), ("IssueFold$Log", "values", "[I", true), ("IssueFold$Log", "counts", "[I", true), ("IssueFold$Log", "total", "I", false)].getD k ("", "", "", false)
def it_T5 : u_T := fun k => [("IssueFold$Subject", "state", "I", false), ("IssueFold$Subject", "priority", "I", false), ("IssueFold$Subject", "owner", "I", false), ("IssueFold$Subject", "actor", "I", false), ("IssueFold$Subject", "actorsRole", "I", false)].getD k ("", "", "", false)
def it_T6 : u_T := fun k => [("IssueFold$Fold", "states", "[I", true), ("IssueFold$Fold", "priorities", "[I", true), ("IssueFold$Fold", "owners", "[I", true), ("IssueFold$Fold", "deeds", "[I", true), ("IssueFold$Fold", "leftOut", "[Z", true), ("IssueFold$Fold", "next", "[I", true), ("IssueFold$Fold", "subject", "LIssueFold$Subject;", true)].getD k ("", "", "", false)
def it_T7 : u_T := fun k => [("IssueFold$Site", "counts", "[I", true), ("IssueFold$Site", "views", "[[I", true), ("IssueFold$Site", "fold", "LIssueFold$Fold;", true), ("IssueFold$Site", "time", "I", false)].getD k ("", "", "", false)
def it_T8 : u_T := fun k => [("IssueFold$Message", "firsts", "[I", true), ("IssueFold$Message", "counts", "[I", true), ("IssueFold$Message", "from", "I", false), ("IssueFold$Message", "to", "I", false)].getD k ("", "", "", false)
def it_T9 : u_T := fun k => [("IssueFold$Post", "row", "[LIssueFold$Message;", true), ("IssueFold$Post", "size", "I", false)].getD k ("", "", "", false)
def it_T10 : u_T := fun k => [("IssueFold$Finds", "codes", "[I", true), ("IssueFold$Finds", "count", "I", false)].getD k ("", "", "", false)
def it_T11 : u_T := fun k => [("IssueFold", "workflowReader", "LIssueFold$Reader;", true), ("IssueFold", "queryReader", "LIssueFold$Reader;", true), ("IssueFold", "question", "LIssueFold$Code;", true), ("IssueFold", "law", "LIssueFold$Law;", true), ("IssueFold", "log", "LIssueFold$Log;", true), ("IssueFold", "sites", "[LIssueFold$Site;", true), ("IssueFold", "post", "LIssueFold$Post;", true), ("IssueFold", "finds", "LIssueFold$Finds;", true), ("IssueFold", "illPlace", "I", false)].getD k ("", "", "", false)
def it_T12 : u_T := fun k => [("IssueFoldModel", "code", "I", false), ("IssueFoldModel", "written", "I", false), ("IssueFoldModel", "draft", "[C", true), ("IssueFoldModel", "asked", "I", false), ("IssueFoldModel", "question", "[C", true), ("IssueFoldModel", "size", "I", false), ("IssueFoldModel", "text", "[C", true), ("IssueFoldModel", "at", "I", false), ("IssueFoldModel", "ill", "Z", false), ("IssueFoldModel", "inQuery", "Z", false), ("IssueFoldModel", "illAt", "I", false), ("IssueFoldModel", "open", "[C", true), ("IssueFoldModel", "some", "[Z", true), ("IssueFoldModel", "all", "[Z", true), ("IssueFoldModel", "turned", "[Z", true), ("IssueFoldModel", "compiled", "Z", false), ("IssueFoldModel", "rules", "I", false), ("IssueFoldModel", "ruleFrom", "[I", true), ("IssueFoldModel", "ruleTo", "[I", true), ("IssueFoldModel", "ruleAt", "[I", true), ("IssueFoldModel", "flowSize", "I", false), ("IssueFoldModel", "flow", "[C", true), ("IssueFoldModel", "roles", "[I", true), ("IssueFoldModel", "needed", "[I", true), ("IssueFoldModel", "made", "[I", true), ("IssueFoldModel", "kind", "[I", true), ("IssueFoldModel", "stamp", "[I", true), ("IssueFoldModel", "user", "[I", true), ("IssueFoldModel", "issue", "[I", true), ("IssueFoldModel", "value", "[I", true), ("IssueFoldModel", "known", "[I", true), ("IssueFoldModel", "view", "[I", true), ("IssueFoldModel", "clock", "[I", true), ("IssueFoldModel", "messages", "I", false), ("IssueFoldModel", "from", "[I", true), ("IssueFoldModel", "to", "[I", true), ("IssueFoldModel", "low", "[I", true), ("IssueFoldModel", "high", "[I", true), ("IssueFoldModel", "there", "[Z", true), ("IssueFoldModel", "state", "[I", true), ("IssueFoldModel", "priority", "[I", true), ("IssueFoldModel", "owner", "[I", true), ("IssueFoldModel", "done", "[I", true), ("IssueFoldModel", "left", "[Z", true), ("IssueFoldModel", "next", "[I", true), ("IssueFoldModel", "results", "I", false), ("IssueFoldModel", "result", "[I", true)].getD k ("", "", "", false)
def it_cl : List vw_C := [("IssueFold$Reader", it_T0, 6), ("IssueFold$Code", it_T1, 3), ("IssueFold$Workflow", it_T2, 6), ("IssueFold$Law", it_T3, 3), ("IssueFold$Log", it_T4, 7), ("IssueFold$Subject", it_T5, 5), ("IssueFold$Fold", it_T6, 7), ("IssueFold$Site", it_T7, 4), ("IssueFold$Message", it_T8, 4), ("IssueFold$Post", it_T9, 2), ("IssueFold$Finds", it_T10, 2), ("IssueFold", it_T11, 9), ("IssueFoldModel", it_T12, 47)]
def it_tys : List (List FieldType) := [[(.array .char), .boolean, (.object "java/lang/String"), .int, .int, .int],
  [(.array .int), (.array .int), .int],
  [(.array .int), (.array .int), (.array .int), (.array .int), (.object "IssueFold$Code"), .int],
  [(.object "IssueFold$Workflow"), (.array .int), (.array .int)],
  [(.array .int), (.array .int), (.array .int), (.array .int), (.array .int), (.array .int), .int],
  [.int, .int, .int, .int, .int],
  [(.array .int), (.array .int), (.array .int), (.array .int), (.array .boolean), (.array .int), (.object "IssueFold$Subject")],
  [(.array .int), (.array (.array .int)), (.object "IssueFold$Fold"), .int],
  [(.array .int), (.array .int), .int, .int],
  [(.array (.object "IssueFold$Message")), .int],
  [(.array .int), .int],
  [(.object "IssueFold$Reader"), (.object "IssueFold$Reader"), (.object "IssueFold$Code"), (.object "IssueFold$Law"), (.object "IssueFold$Log"), (.array (.object "IssueFold$Site")), (.object "IssueFold$Post"), (.object "IssueFold$Finds"), .int],
  [.int, .int, (.array .char), .int, (.array .char), .int, (.array .char), .int, .boolean, .boolean, .int, (.array .char), (.array .boolean), (.array .boolean), (.array .boolean), .boolean, .int, (.array .int), (.array .int), (.array .int), .int, (.array .char), (.array .int), (.array .int), (.array .int), (.array .int), (.array .int), (.array .int), (.array .int), (.array .int), (.array .int), (.array .int), (.array .int), .int, (.array .int), (.array .int), (.array .int), (.array .int), (.array .boolean), (.array .int), (.array .int), (.array .int), (.array .int), (.array .boolean), (.array .int), .int, (.array .int)]]
def it_ty (ci k : Nat) : FieldType := (it_tys.getD ci []).getD k .int
def it_nf (ci : Nat) : Nat := match it_cl[ci]? with | some r => r.2.2 | none => 0
def it_nsl (ci : Nat) : Nat := it_nf ci
def it_aty (kd : Nat) : Option FieldType := match kd with
  | 30 => some .int
  | 31 => some .char
  | 32 => some .boolean
  | 33 => some .long
  | 34 => some (.object "IssueFold$Message")
  | 35 => some (.object "IssueFold$Site")
  | 36 => some (.array .int)
  | 39 => some .int
  | _ => none
def it_nak (a : ArrayType) : Option Nat := match newarray.typeOf a with | .int => some 30 | .char => some 31 | .boolean => some 32 | .long => some 33 | _ => none
def it_acp (kd : Nat) : Option Nat := match kd with | 34 => some 8 | 35 => some 7 | _ => none
abbrev it_Fl : Type := (Nat × Nat) × (Nat × Nat × Option String)
def it_fls : List (it_Fl × Nat) := [
  (((2, 9), (0, 0, none)), 73),
  (((2, 15), (0, 1, none)), 74),
  (((2, 23), (0, 2, none)), 75),
  (((2, 27), (0, 3, none)), 76),
  (((2, 31), (0, 4, none)), 77),
  (((2, 34), (0, 5, none)), 78),
  (((3, 7), (1, 0, none)), 100),
  (((3, 13), (1, 1, none)), 101),
  (((3, 16), (1, 2, none)), 102),
  (((12, 25), (1, 2, some "IssueFold")), 103),
  (((5, 40), (1, 2, some "IssueFold")), 104),
  (((2, 57), (1, 2, some "IssueFold")), 105),
  (((5, 9), (2, 0, none)), 128),
  (((5, 15), (2, 1, none)), 129),
  (((5, 18), (2, 2, none)), 130),
  (((5, 21), (2, 3, none)), 131),
  (((5, 29), (2, 4, none)), 132),
  (((2, 53), (2, 4, some "IssueFold")), 133),
  (((5, 33), (2, 5, none)), 134),
  (((1, 102), (2, 5, some "IssueFold")), 135),
  (((4, 12), (3, 0, none)), 149),
  (((1, 73), (3, 0, some "IssueFold")), 150),
  (((8, 78), (3, 0, some "IssueFold")), 151),
  (((4, 18), (3, 1, none)), 152),
  (((1, 116), (3, 1, some "IssueFold")), 153),
  (((8, 108), (3, 1, some "IssueFold")), 154),
  (((4, 22), (3, 2, none)), 155),
  (((1, 122), (3, 2, some "IssueFold")), 156),
  (((6, 9), (4, 0, none)), 170),
  (((8, 75), (4, 0, some "IssueFold")), 171),
  (((1, 241), (4, 0, some "IssueFold")), 172),
  (((6, 15), (4, 1, none)), 173),
  (((7, 40), (4, 1, some "IssueFold")), 174),
  (((8, 60), (4, 1, some "IssueFold")), 175),
  (((1, 244), (4, 1, some "IssueFold")), 176),
  (((6, 18), (4, 2, none)), 177),
  (((8, 90), (4, 2, some "IssueFold")), 178),
  (((1, 247), (4, 2, some "IssueFold")), 179),
  (((6, 21), (4, 3, none)), 180),
  (((8, 69), (4, 3, some "IssueFold")), 181),
  (((1, 250), (4, 3, some "IssueFold")), 182),
  (((6, 24), (4, 4, none)), 183),
  (((8, 72), (4, 4, some "IssueFold")), 184),
  (((1, 253), (4, 4, some "IssueFold")), 185),
  (((6, 27), (4, 5, none)), 186),
  (((1, 132), (4, 5, some "IssueFold")), 187),
  (((6, 34), (4, 6, none)), 188),
  (((1, 111), (4, 6, some "IssueFold")), 189),
  (((9, 24), (5, 0, none)), 226),
  (((8, 38), (5, 0, some "IssueFold")), 227),
  (((5, 43), (5, 0, some "IssueFold")), 228),
  (((9, 9), (5, 1, none)), 229),
  (((8, 42), (5, 1, some "IssueFold")), 230),
  (((9, 15), (5, 2, none)), 231),
  (((8, 45), (5, 2, some "IssueFold")), 232),
  (((9, 18), (5, 3, none)), 233),
  (((8, 105), (5, 3, some "IssueFold")), 234),
  (((9, 21), (5, 4, none)), 235),
  (((8, 111), (5, 4, some "IssueFold")), 236),
  (((8, 9), (6, 0, none)), 249),
  (((1, 225), (6, 0, some "IssueFold")), 250),
  (((8, 15), (6, 1, none)), 251),
  (((12, 38), (6, 1, some "IssueFold")), 252),
  (((1, 228), (6, 1, some "IssueFold")), 253),
  (((8, 18), (6, 2, none)), 254),
  (((1, 231), (6, 2, some "IssueFold")), 255),
  (((8, 21), (6, 3, none)), 256),
  (((1, 234), (6, 3, some "IssueFold")), 257),
  (((8, 24), (6, 4, none)), 258),
  (((1, 256), (6, 4, some "IssueFold")), 259),
  (((8, 28), (6, 5, none)), 260),
  (((8, 34), (6, 6, none)), 261),
  (((7, 9), (7, 0, none)), 277),
  (((11, 31), (7, 0, some "IssueFold")), 278),
  (((1, 162), (7, 0, some "IssueFold")), 279),
  (((7, 17), (7, 1, none)), 280),
  (((11, 25), (7, 1, some "IssueFold")), 281),
  (((1, 260), (7, 1, some "IssueFold")), 282),
  (((7, 23), (7, 2, none)), 283),
  (((1, 144), (7, 2, some "IssueFold")), 284),
  (((7, 37), (7, 3, none)), 285),
  (((1, 137), (7, 3, some "IssueFold")), 286),
  (((11, 9), (8, 0, none)), 309),
  (((7, 34), (8, 0, some "IssueFold")), 310),
  (((11, 15), (8, 1, none)), 311),
  (((7, 33), (8, 1, some "IssueFold")), 312),
  (((11, 18), (8, 2, none)), 313),
  (((7, 27), (8, 2, some "IssueFold")), 314),
  (((11, 22), (8, 3, none)), 315),
  (((1, 188), (8, 3, some "IssueFold")), 316),
  (((10, 11), (9, 0, none)), 326),
  (((10, 18), (9, 1, none)), 327),
  (((1, 169), (9, 1, some "IssueFold")), 328),
  (((12, 9), (10, 0, none)), 340),
  (((1, 218), (10, 0, some "IssueFold")), 341),
  (((12, 15), (10, 1, none)), 342),
  (((1, 215), (10, 1, some "IssueFold")), 343),
  (((1, 14), (11, 0, none)), 349),
  (((1, 18), (11, 1, none)), 350),
  (((1, 26), (11, 2, none)), 351),
  (((1, 33), (11, 3, none)), 352),
  (((1, 40), (11, 4, none)), 353),
  (((1, 46), (11, 5, none)), 354),
  (((1, 54), (11, 6, none)), 355),
  (((1, 61), (11, 7, none)), 356),
  (((1, 65), (11, 8, none)), 357),
  (((13, 118), (12, 0, none)), 854),
  (((13, 125), (12, 1, none)), 855),
  (((13, 7), (12, 2, none)), 856),
  (((13, 128), (12, 3, none)), 857),
  (((13, 13), (12, 4, none)), 858),
  (((13, 134), (12, 5, none)), 859),
  (((13, 16), (12, 6, none)), 860),
  (((13, 131), (12, 7, none)), 861),
  (((13, 141), (12, 8, none)), 862),
  (((13, 145), (12, 9, none)), 863),
  (((13, 19), (12, 10, none)), 864),
  (((13, 23), (12, 11, none)), 865),
  (((13, 26), (12, 12, none)), 866),
  (((13, 30), (12, 13, none)), 867),
  (((13, 33), (12, 14, none)), 868),
  (((13, 168), (12, 15, none)), 869),
  (((13, 165), (12, 16, none)), 870),
  (((13, 36), (12, 17, none)), 871),
  (((13, 40), (12, 18, none)), 872),
  (((13, 43), (12, 19, none)), 873),
  (((13, 181), (12, 20, none)), 874),
  (((13, 46), (12, 21, none)), 875),
  (((13, 49), (12, 22, none)), 876),
  (((13, 52), (12, 23, none)), 877),
  (((13, 55), (12, 24, none)), 878),
  (((13, 58), (12, 25, none)), 879),
  (((13, 61), (12, 26, none)), 880),
  (((13, 64), (12, 27, none)), 881),
  (((13, 67), (12, 28, none)), 882),
  (((13, 70), (12, 29, none)), 883),
  (((13, 73), (12, 30, none)), 884),
  (((13, 76), (12, 31, none)), 885),
  (((13, 79), (12, 32, none)), 886),
  (((13, 218), (12, 33, none)), 887),
  (((13, 82), (12, 34, none)), 888),
  (((13, 85), (12, 35, none)), 889),
  (((13, 88), (12, 36, none)), 890),
  (((13, 91), (12, 37, none)), 891),
  (((13, 94), (12, 38, none)), 892),
  (((13, 97), (12, 39, none)), 893),
  (((13, 100), (12, 40, none)), 894),
  (((13, 103), (12, 41, none)), 895),
  (((13, 106), (12, 42, none)), 896),
  (((13, 109), (12, 43, none)), 897),
  (((13, 112), (12, 44, none)), 898),
  (((13, 228), (12, 45, none)), 899),
  (((13, 115), (12, 46, none)), 900)]
def it_fld (y idx : Nat) : Option (Nat × Nat × Option String) := (it_fls.map (·.1)).lookup (it_ow y, idx)
def it_pok (y idx : Nat) : Bool := match it_fld y idx, it_met y with | some q, some me => (match it_cl[q.1]? with | some r => !(r.2.1 q.2.1).2.2.2 || (q.2.2 == none && me.1.cls == r.1 && me.1.name == "<init>") | none => false) | _, _ => false
abbrev it_Ca : Type := (Nat × Nat) × (Nat × Nat × Nat × Option String)
def it_cas : List (it_Ca × Nat × Nat × Nat) := [
  (((0, 38), (2, 1, 0, none)), 59, 60, 0),
  (((1, 11), (2, 2, 2, none)), 67, 68, 0),
  (((1, 23), (2, 3, 1, none)), 96, 97, 0),
  (((1, 32), (2, 4, 0, some "IssueFold")), 116, 117, 0),
  (((4, 11), (2, 5, 0, some "IssueFold")), 122, 123, 0),
  (((5, 26), (2, 3, 1, none)), 127, 97, 0),
  (((1, 39), (2, 6, 0, some "IssueFold")), 166, 167, 0),
  (((1, 50), (2, 7, 0, some "IssueFold")), 208, 209, 0),
  (((7, 22), (2, 8, 0, some "IssueFold")), 216, 217, 0),
  (((8, 33), (2, 9, 0, some "IssueFold")), 222, 223, 0),
  (((1, 53), (2, 10, 0, none)), 298, 299, 0),
  (((10, 17), (2, 11, 0, some "IssueFold")), 305, 306, 0),
  (((1, 60), (2, 12, 0, some "IssueFold")), 336, 337, 0),
  (((0, 42), (0, 13, 1, none)), 377, 378, 379),
  (((1, 69), (0, 14, 1, none)), 381, 382, 383),
  (((0, 56), (0, 15, 0, none)), 385, 386, 387),
  (((0, 75), (0, 16, 1, none)), 389, 390, 391),
  (((1, 105), (1, 17, 2, none)), 393, 394, 0),
  (((1, 184), (0, 18, 1, none)), 396, 397, 398),
  (((1, 191), (0, 19, 2, none)), 400, 401, 402),
  (((7, 45), (1, 20, 2, some "IssueFold")), 404, 405, 0),
  (((1, 195), (0, 21, 3, none)), 410, 411, 412),
  (((8, 48), (0, 22, 2, none)), 414, 416, 0),
  (((8, 52), (1, 20, 2, some "IssueFold")), 418, 405, 0),
  (((8, 56), (0, 23, 3, none)), 419, 420, 421),
  (((8, 65), (0, 24, 3, none)), 423, 424, 425),
  (((8, 93), (0, 25, 2, none)), 427, 428, 429),
  (((8, 97), (0, 26, 1, none)), 431, 432, 433),
  (((8, 101), (0, 27, 1, none)), 435, 436, 437),
  (((8, 114), (0, 28, 2, none)), 439, 440, 441),
  (((5, 48), (0, 29, 3, none)), 443, 444, 445),
  (((3, 20), (0, 30, 2, none)), 447, 448, 449),
  (((8, 84), (0, 31, 0, none)), 451, 452, 453),
  (((0, 79), (0, 32, 1, none)), 455, 456, 457),
  (((0, 84), (0, 33, 1, none)), 459, 460, 461),
  (((1, 199), (0, 34, 0, none)), 463, 464, 465),
  (((0, 88), (0, 35, 1, none)), 467, 468, 469),
  (((0, 96), (0, 36, 1, none)), 471, 472, 473),
  (((0, 100), (0, 37, 3, none)), 475, 476, 477),
  (((1, 221), (0, 26, 1, none)), 479, 432, 433),
  (((0, 105), (0, 38, 2, none)), 480, 481, 482),
  (((1, 237), (1, 39, 2, none)), 484, 485, 0),
  (((0, 109), (0, 40, 2, none)), 487, 488, 489),
  (((0, 113), (0, 41, 3, none)), 491, 492, 493),
  (((0, 117), (0, 42, 1, none)), 495, 496, 497),
  (((0, 121), (0, 43, 0, none)), 499, 500, 501),
  (((0, 47), (1, 44, 2, none)), 503, 504, 0),
  (((0, 7), (0, 45, 0, none)), 508, 509, 510),
  (((1, 77), (0, 46, 0, none)), 512, 513, 514),
  (((1, 83), (0, 47, 0, none)), 516, 517, 518),
  (((1, 93), (0, 48, 1, none)), 587, 588, 589),
  (((2, 37), (0, 49, 1, none)), 591, 593, 2),
  (((2, 60), (0, 50, 0, none)), 595, 597, 3),
  (((2, 72), (0, 51, 0, none)), 599, 601, 4),
  (((2, 76), (1, 17, 2, some "IssueFold")), 603, 394, 0),
  (((2, 64), (0, 52, 1, none)), 604, 606, 5),
  (((2, 49), (0, 53, 2, none)), 608, 610, 6),
  (((2, 80), (0, 54, 2, none)), 612, 614, 7),
  (((2, 87), (0, 55, 2, none)), 616, 618, 8),
  (((2, 90), (0, 56, 1, none)), 620, 622, 9),
  (((2, 100), (0, 57, 2, none)), 708, 710, 10),
  (((2, 83), (0, 58, 2, none)), 712, 713, 714),
  (((2, 68), (0, 59, 3, none)), 716, 717, 718),
  (((2, 41), (0, 60, 0, none)), 720, 721, 722),
  (((5, 37), (0, 61, 0, none)), 724, 725, 726),
  (((0, 60), (1, 62, 3, none)), 744, 745, 0),
  (((0, 17), (0, 63, 2, none)), 747, 748, 749),
  (((0, 64), (1, 64, 3, none)), 753, 754, 0),
  (((0, 21), (0, 65, 2, none)), 756, 757, 758),
  (((0, 67), (1, 66, 7, none)), 761, 762, 0),
  (((0, 24), (0, 67, 5, none)), 765, 766, 767),
  (((1, 125), (1, 68, 2, none)), 769, 770, 0),
  (((1, 140), (0, 69, 6, none)), 775, 776, 777),
  (((6, 30), (1, 20, 2, some "IssueFold")), 779, 405, 0),
  (((1, 148), (0, 24, 3, none)), 780, 424, 425),
  (((1, 159), (0, 70, 1, none)), 797, 798, 799),
  (((1, 163), (0, 23, 3, none)), 801, 420, 421),
  (((0, 71), (1, 71, 4, none)), 802, 803, 0),
  (((0, 30), (0, 72, 2, none)), 805, 806, 807),
  (((1, 174), (0, 73, 0, none)), 811, 812, 813),
  (((1, 178), (0, 74, 3, none)), 815, 816, 817),
  (((0, 92), (1, 75, 3, none)), 819, 820, 0),
  (((0, 34), (0, 76, 1, none)), 822, 823, 824),
  (((1, 202), (0, 77, 0, none)), 826, 827, 828),
  (((1, 205), (0, 78, 1, none)), 831, 832, 833),
  (((2, 46), (0, 61, 0, none)), 835, 725, 726),
  (((1, 211), (0, 79, 2, none)), 837, 838, 839),
  (((12, 19), (0, 26, 1, none)), 841, 432, 433),
  (((12, 30), (0, 27, 1, none)), 842, 436, 437),
  (((12, 34), (0, 29, 3, none)), 843, 444, 445),
  (((12, 41), (0, 80, 2, none)), 844, 846, 11),
  (((0, 41), (2, 81, 0, none)), 850, 851, 0),
  (((0, 53), (0, 82, 0, none)), 996, 997, 998),
  (((0, 46), (0, 83, 1, none)), 1000, 1001, 1002),
  (((13, 121), (1, 84, 1, none)), 1004, 1005, 0),
  (((0, 91), (0, 85, 1, none)), 1007, 1008, 1009),
  (((0, 52), (0, 86, 0, none)), 1011, 1012, 1013),
  (((13, 171), (0, 87, 1, none)), 1015, 1017, 12),
  (((13, 174), (0, 88, 2, none)), 1019, 1021, 13),
  (((13, 178), (0, 89, 0, none)), 1023, 1025, 14),
  (((13, 151), (0, 90, 2, none)), 1027, 1029, 15),
  (((13, 137), (0, 91, 0, none)), 1031, 1033, 16),
  (((13, 162), (0, 92, 0, none)), 1035, 1037, 17),
  (((13, 155), (0, 93, 0, none)), 1039, 1041, 18),
  (((13, 148), (0, 94, 1, none)), 1043, 1045, 19),
  (((13, 158), (0, 95, 1, none)), 1047, 1049, 20),
  (((0, 59), (0, 96, 0, none)), 1051, 1052, 1053),
  (((0, 63), (0, 97, 2, none)), 1055, 1056, 1057),
  (((13, 192), (1, 98, 2, none)), 1059, 1060, 0),
  (((0, 66), (0, 99, 2, none)), 1062, 1063, 1064),
  (((0, 70), (0, 100, 5, none)), 1066, 1067, 1068),
  (((13, 212), (1, 101, 2, none)), 1070, 1071, 0),
  (((13, 215), (0, 102, 1, none)), 1073, 1075, 21),
  (((13, 208), (0, 103, 1, none)), 1077, 1079, 22),
  (((13, 204), (0, 104, 4, none)), 1081, 1083, 23),
  (((13, 200), (0, 105, 3, none)), 1085, 1087, 24),
  (((13, 196), (0, 106, 5, none)), 1089, 1091, 25),
  (((13, 188), (0, 107, 4, none)), 1093, 1095, 26),
  (((13, 184), (1, 108, 3, none)), 1097, 1098, 0),
  (((0, 74), (0, 109, 2, none)), 1100, 1101, 1102),
  (((0, 78), (0, 110, 1, none)), 1104, 1105, 1106),
  (((13, 221), (0, 111, 2, none)), 1108, 1110, 27),
  (((13, 225), (0, 112, 1, none)), 1112, 1114, 28),
  (((0, 83), (0, 113, 1, none)), 1116, 1117, 1118),
  (((0, 87), (0, 114, 1, none)), 1120, 1121, 1122),
  (((0, 95), (0, 115, 1, none)), 1124, 1125, 1126),
  (((13, 231), (0, 116, 1, none)), 1128, 1130, 29),
  (((13, 235), (0, 117, 1, none)), 1132, 1134, 30),
  (((0, 99), (0, 118, 1, none)), 1136, 1137, 1138),
  (((0, 104), (0, 119, 3, none)), 1140, 1141, 1142),
  (((0, 108), (0, 120, 2, none)), 1144, 1145, 1146),
  (((0, 112), (0, 121, 2, none)), 1148, 1149, 1150),
  (((0, 116), (0, 122, 3, none)), 1152, 1153, 1154),
  (((0, 120), (0, 123, 1, none)), 1156, 1157, 1158),
  (((0, 124), (0, 124, 0, none)), 1160, 1161, 1162)]
def it_cal (y idx : Nat) : Option (Nat × Nat × Nat × Option String) := (it_cas.map (·.1)).lookup (it_ow y, idx)
def it_obs : List ((Nat × Nat) × Nat) := [((1, 3), 62), ((2, 3), 70), ((3, 1), 99), ((4, 3), 119), ((5, 3), 125), ((6, 3), 169), ((7, 3), 211), ((8, 3), 219), ((9, 3), 225), ((10, 3), 301), ((11, 3), 308), ((12, 3), 339), ((13, 1), 853)]
def it_obi (y idx : Nat) : Bool := (it_obs.map (·.1)).contains (it_ow y, idx)
def it_ixs : List ((Nat × Nat) × Nat) := [((2, 94), 624)]
def it_ixo (y idx : Nat) : Bool := (it_ixs.map (·.1)).contains (it_ow y, idx)
def it_mxs : List ((Nat × Nat) × Nat) := [((7, 49), 407)]
def it_mxx (y idx : Nat) : Bool := (it_mxs.map (·.1)).contains (it_ow y, idx)
/-- the class of an instance method's receiver -/
def it_mcl (z : Nat) : Option Nat := match it_met z with | some me => it_cl.findIdx? (fun r => r.1 == me.1.cls) | none => none
def it_nws : List (((Nat × Nat) × Nat) × Nat × Nat × Nat) := [(((0, 8), 11), 57, 58, 32), (((1, 9), 0), 65, 66, 33), (((1, 21), 1), 94, 95, 34), (((1, 30), 3), 114, 115, 35), (((4, 9), 2), 120, 121, 36), (((5, 24), 1), 126, 95, 34), (((1, 37), 4), 164, 165, 37), (((1, 44), 7), 205, 207, 38), (((7, 20), 6), 214, 215, 39), (((8, 31), 5), 220, 221, 40), (((1, 51), 9), 296, 297, 41), (((10, 9), 8), 302, 304, 42), (((1, 58), 10), 334, 335, 43), (((0, 39), 12), 848, 849, 44)]
def it_nwc (y idx : Nat) : Option Nat := (it_nws.map (·.1)).lookup (it_ow y, idx)
def it_ans : List (((Nat × Nat) × (Nat × String)) × Nat × Nat) := [(((1, 44), (35, "IssueFold$Site")), 205, 206), (((10, 9), (34, "IssueFold$Message")), 302, 303)]
def it_anw (y idx : Nat) : Option Nat := ((it_ans.map (·.1)).lookup (it_ow y, idx)).map (·.1)
def it_mas : List ((Nat × Nat) × Nat × Nat) := [((7, 15), 212, 213)]
def it_man (y idx : Nat) : Bool := (it_mas.map (·.1)).contains (it_ow y, idx)
def it_sts : List (((Nat × Nat) × (Nat × String)) × Nat) := [(((2, 19), (2, "pnus")), 71), (((2, 21), (1, "pnuro")), 72)]
def it_str (y idx : Nat) : Option Nat := ((it_sts.map (·.1)).lookup (it_ow y, idx)).map (·.1)
def it_txt (k : Nat) : Option (List Int32) := match k with | 1 => some [112, 110, 117, 114, 111] | 2 => some [112, 110, 117, 115] | _ => none
def im_idx (t : List Int32) (x : Int32) : Int32 := match t.findIdx? (fun c => c == x) with | some i => nI i | none => -1
def it_ecs : List String := ["java/lang/IllegalStateException", "java/lang/IllegalArgumentException", "java/lang/UnsupportedOperationException"]
def it_ecn (ec : Nat) : String := it_ecs.getD ec ""
def it_ths : List (((Nat × Nat) × (Nat × Nat × Nat × Nat × String)) × Nat × Nat × Nat) := [
  (((45, 20), (0, 86, 88, 90, "there is a workflow")), 520, 48, 561),
  (((45, 63), (1, 97, 99, 101, "the workflow is ill")), 728, 55, 737),
  (((63, 16), (1, 97, 109, 101, "no such user or role")), 728, 55, 751),
  (((63, 36), (0, 86, 114, 90, "there is an event")), 520, 48, 752),
  (((65, 16), (1, 97, 120, 101, "no such kind or role")), 728, 55, 760),
  (((65, 36), (0, 86, 114, 90, "there is an event")), 520, 48, 752),
  (((67, 25), (1, 97, 128, 101, "no such place, kind, user or value")), 728, 55, 772),
  (((67, 49), (1, 97, 130, 101, "no such issue")), 728, 55, 773),
  (((67, 86), (0, 86, 135, 90, "no workflow, or no room for an event")), 520, 48, 774),
  (((67, 148), (2, 154, 156, 158, "it would be skipped")), 781, 56, 790),
  (((72, 21), (1, 97, 167, 101, "no such pair of places")), 728, 55, 809),
  (((72, 43), (0, 86, 172, 90, "too many messages on their way")), 520, 48, 810),
  (((76, 27), (1, 97, 203, 101, "no such place")), 728, 55, 830),
  (((76, 67), (1, 97, 209, 101, "the query is ill")), 728, 55, 836)]
def it_thr (y pc : Nat) : Option Nat := ((it_ths.map (·.1)).lookup (y, pc)).map (·.1)
def it_cts : List (Nat × Nat × Nat) := [(13, 0, 506), (15, 1, 507), (28, 2, 764)]
def it_cat (y ct ec : Nat) : Bool := match it_cts.lookup ct with | some q => q.1 == ec | none => false
def it_cas2 : List (Nat × Nat) := [(0, 522), (1, 730), (2, 783)]
end
section
/-! What the tables say is among the words. -/
def it_mv : Cond → Bool
  | .fieldLinkNest .. => true
  | .methodLinkNest .. => true
  | .declares _ => true
  | .castable .. => true
  | .arrayOver (.object _) => true
  | .arrayOver (.array .int) => true
  | .stringRef .. => true
  | w => goodWord w
def it_all : List Cond := Cond.code x code maxLocals ret :: lw_tbl
def it_tb : List Cond := it_all.filter it_mv
theorem it_in {w : Cond} (i : Nat) (h : lw_tbl[i]? = some w) (hm : it_mv w = true) : w ∈ it_tb := List.mem_filter.mpr ⟨List.mem_cons_of_mem _ (List.mem_of_getElem? h), hm⟩
/-- a String constant's address -/
theorem im_strref {own tx : String} {k : Nat} {s : State} (h : (Cond.stringRef own k tx).before #[] s = true) : ∃ a, vk_R own k tx a s := by
  have hcur : ∃ cur, s.vm.findClass own = some cur := by
    have h1 := h
    simp only [Cond.before, Cond.holds, Cond.value] at h1
    cases hc : s.vm.findClass own with
    | none => simp [hc] at h1
    | some cur => exact ⟨cur, rfl⟩
  obtain ⟨cur, hcur⟩ := hcur
  obtain ⟨k9, cf, i, a, -, -, -, -, -, ha⟩ := Cond.stringRef_spec hcur h
  exact ⟨a, h, ha⟩
theorem im_AOA {u U : State} {A A' : Array Value} (hvm : u.vm.Alike U.vm) (h : (Cond.arrayOver (.array .int)).before A u = true) : (Cond.arrayOver (.array .int)).before A' U = true := by
  obtain ⟨comp, c, k, h1, h2, h3, h4, h5⟩ := arrayOverA_spec h
  obtain ⟨k', hk', he⟩ := hvm.2.2 _ _ h3
  have hi : (U.vm.classes.findIdx? fun (x : Class) => match x.kind with | .array component _ => component == comp | _ => false) = some c := by
    rw [hvm.findIdx?_eq _ (fun _ => rfl)]; exact h2
  have hkind : k'.kind = .array comp (.array .int) := by rw [he]; exact h4
  have f1 : U.vm.findClass (FieldType.array .int).toString = some comp := by rw [hvm.findClass]; exact h1
  have f2 : U.vm.findClass ("[" ++ (FieldType.array .int).toString) = some c := by rw [hvm.findClass]; exact h5
  unfold Cond.before Cond.holds
  simp only [Cond.value]
  rw [f1, Option.bind_some]
  refine (congrArg (fun o : Option Nat => (o.bind (fun c => (U.vm.classes[c]?).map fun (k : Class) => match k.kind with | .array _ ty => decide (ty = FieldType.array .int) && decide (U.vm.findClass ("[" ++ (FieldType.array .int).toString) = some c) | _ => false) == some true)) hi).trans ?_
  simp [hk', hkind, f2]
/-- the words go along where the tables grow warmer -/
theorem it_mv_word {s U : State} {A A' : Array Value} {w : Cond} (hW : s.WarmedH U.vm) (hm : it_mv w = true) (h : w.before A s = true) : w.before A' U = true := by
  have good : ∀ {w : Cond}, goodWord w = true → w.before A s = true → w.before A' U = true := fun hg h => word_at hW (good_of_word hg) h
  unfold it_mv at hm
  split at hm
  · exact va_Nw.use rfl (va_Nw.warmF hW (va_Nw.of rfl h))
  · exact va_Nw.use rfl (va_Nw.warmM hW (va_Nw.of rfl h))
  · exact va_Nw.use rfl (va_Nw.warmD hW (va_Nw.of rfl h))
  · exact va_Nw.use rfl (va_Nw.warmC hW (va_Nw.of rfl h))
  · exact va_AO.use (va_AO.moved hW.alike (va_AO.of h))
  · exact im_AOA hW.alike h
  · obtain ⟨a, ha⟩ := im_strref h
    exact (vk_R.warm hW ha).1
  · exact good hm h
theorem it_tb_word {s U : State} {A A' : Array Value} {w : Cond} (hW : s.WarmedH U.vm) (hw : w ∈ it_tb) (h : w.before A s = true) : w.before A' U = true := it_mv_word hW (List.mem_filter.mp hw).2 h
theorem it_lk {α β : Type} [BEq α] [LawfulBEq α] {k : α} {v : β} : ∀ {L : List (α × β)}, L.lookup k = some v → (k, v) ∈ L
  | [], h => by cases h
  | (a, b) :: L, h => by
    rw [List.lookup_cons] at h
    split at h
    · rename_i e
      cases h
      rw [eq_of_beq e]
      exact List.mem_cons_self
    · exact List.mem_cons_of_mem _ (it_lk h)
def it_own (o : Nat) : String := it_ows.getD o ""
theorem it_met_lt {y : Nat} {me : it_Me} (h : it_met y = some me) : y < 125 := (List.getElem?_eq_some_iff.mp h).1
theorem it_own_all : (List.range 125).all (fun y => match it_met y with | some me => decide (it_own (it_ow y) = me.1.cls) | none => false) = true := by decide +kernel
theorem it_own_ok {y : Nat} {me : it_Me} (h : it_met y = some me) : it_own (it_ow y) = me.1.cls := by
  have h1 := List.all_eq_true.mp it_own_all y (List.mem_range.mpr (it_met_lt h))
  rw [h] at h1
  exact of_decide_eq_true h1
/-- a word at a place of lw_tbl -/
def it_wd (i : Nat) (w : Cond) : Bool := decide (lw_tbl[i]? = some w) && it_mv w
theorem it_wd_in {i : Nat} {w : Cond} (h : it_wd i w = true) : w ∈ it_tb := by
  unfold it_wd at h
  rw [Bool.and_eq_true] at h
  exact it_in i (of_decide_eq_true h.1) h.2
def it_flc (r : it_Fl × Nat) : Bool := match it_cl[r.1.2.1]? with
  | some q => decide (r.1.2.1 < 30) && decide (r.1.2.2.1 < q.2.2) && decide ((q.2.1 r.1.2.2.1).1 = q.1) && it_wd r.2 (im_lk (it_own r.1.1.1) r.1.1.2 q.1 q.2.1 r.1.2.2.1 r.1.2.2.2)
  | none => false
theorem it_fls_all : it_fls.all it_flc = true := by decide +kernel
theorem it_fld_ok {y idx : Nat} {q : Nat × Nat × Option String} {me : it_Me} (h : it_fld y idx = some q) (hme : it_met y = some me) : ∃ C T N, it_cl[q.1]? = some (C, T, N) ∧ q.1 < 30 ∧ q.2.1 < N ∧ (T q.2.1).1 = C ∧ im_lk me.1.cls idx C T q.2.1 q.2.2 ∈ it_tb := by
  obtain ⟨r, hr, he⟩ := List.mem_map.mp (it_lk h)
  have h1 := List.all_eq_true.mp it_fls_all r hr
  unfold it_flc at h1
  rw [he] at h1
  simp only at h1
  split at h1
  · rename_i c hc
    simp only [Bool.and_eq_true, decide_eq_true_eq] at h1
    obtain ⟨⟨⟨h2, h3⟩, h4⟩, h5⟩ := h1
    refine ⟨c.1, c.2.1, c.2.2, hc, h2, h3, h4, ?_⟩
    rw [← it_own_ok hme]
    exact it_wd_in h5
  · cases h1
def it_clc (ci : Nat) : Bool := match it_cl[ci]? with
  | some q => decide (it_nf ci = q.2.2) && (List.range q.2.2).all (fun k => decide (parseFieldDescriptor (q.2.1 k).2.2.1 = some (it_ty ci k)) && (List.range q.2.2).all (fun j => decide (k = j) || decide ((q.2.1 k).2.1 ≠ (q.2.1 j).2.1)))
  | none => false
theorem it_cl_all : (List.range 13).all it_clc = true := by decide +kernel
/-- where the words lie that lay the fields -/
def it_lys : List (List Nat) := [[79, 81, 83, 85, 87, 89], [106, 108, 110], [136, 138, 140, 142, 144, 146], [157, 159, 161], [190, 192, 194, 196, 198, 200, 202], [237, 239, 241, 243, 245], [262, 264, 266, 268, 270, 272, 274], [287, 289, 291, 293], [317, 319, 321, 323], [329, 331], [344, 346], [358, 360, 362, 364, 366, 368, 370, 372, 374], [901, 903, 905, 907, 909, 911, 913, 915, 917, 919, 921, 923, 925, 927, 929, 931, 933, 935, 937, 939, 941, 943, 945, 947, 949, 951, 953, 955, 957, 959, 961, 963, 965, 967, 969, 971, 973, 975, 977, 979, 981, 983, 985, 987, 989, 991, 993]]
theorem it_lys_all : (List.range 13).all (fun ci => match it_cl[ci]? with | some q => (List.range q.2.2).all (fun k => it_wd ((it_lys.getD ci []).getD k 99999) (u_lay q.1 q.2.1 k)) | none => false) = true := by decide +kernel
theorem it_cl_ok {ci : Nat} {C : String} {T : u_T} {N : Nat} (h : it_cl[ci]? = some (C, T, N)) : (∀ k, k < N → u_lay C T k ∈ it_tb ∧ parseFieldDescriptor (T k).2.2.1 = some (it_ty ci k)) ∧ (∀ a, a < N → ∀ b, b < N → a ≠ b → (T a).2.1 ≠ (T b).2.1) ∧ it_nf ci = N := by
  have hlt : ci < 13 := (List.getElem?_eq_some_iff.mp h).1
  have h1 := List.all_eq_true.mp it_cl_all ci (List.mem_range.mpr hlt)
  have h2 := List.all_eq_true.mp it_lys_all ci (List.mem_range.mpr hlt)
  unfold it_clc at h1
  simp only [h, Bool.and_eq_true, decide_eq_true_eq, List.all_eq_true, List.mem_range, Bool.or_eq_true] at h1 h2
  exact ⟨fun k hk => ⟨it_wd_in (h2 k hk), (h1.2 k hk).1⟩, fun a ha b hb hne => ((h1.2 a ha).2 b hb).elim (fun e => absurd e hne) id, h1.1⟩
theorem it_pok_ok {y idx : Nat} {q : Nat × Nat × Option String} {me : it_Me} {C : String} {T : u_T} {N : Nat} (h : it_pok y idx = true) (hq : it_fld y idx = some q) (hme : it_met y = some me) (hc : it_cl[q.1]? = some (C, T, N)) : (T q.2.1).2.2.2 = false ∨ (q.2.2 = none ∧ me.1.cls = C ∧ me.1.name = "<init>") := by
  unfold it_pok at h
  simp only [hq, hme, hc, Bool.or_eq_true, Bool.and_eq_true, Bool.not_eq_true', beq_iff_eq] at h
  rcases h with h | ⟨⟨h1, h2⟩, h3⟩
  · exact Or.inl h
  · exact Or.inr ⟨h1, h2, h3⟩
/-- methods: where their code words lie, and those that say that their classes are there -/
def it_cds : List (Nat × Nat) := [(99999, 31), (61, 32), (69, 33), (98, 34), (118, 35), (124, 36), (168, 37), (210, 38), (218, 39), (224, 40), (300, 41), (307, 42), (338, 43), (380, 32), (384, 33), (388, 32), (392, 32), (395, 32), (399, 41), (403, 38), (406, 32), (413, 39), (417, 39), (422, 39), (426, 39), (430, 35), (434, 39), (438, 39), (442, 36), (446, 34), (450, 40), (454, 36), (458, 32), (462, 32), (466, 38), (470, 32), (474, 32), (478, 32), (483, 32), (486, 32), (490, 32), (494, 32), (498, 32), (502, 32), (505, 31), (511, 32), (515, 36), (519, 33), (590, 33), (594, 33), (598, 33), (602, 33), (607, 33), (611, 33), (615, 33), (619, 33), (623, 33), (711, 33), (715, 34), (719, 36), (723, 36), (727, 34), (746, 31), (750, 32), (755, 31), (759, 32), (763, 31), (768, 32), (771, 32), (778, 37), (800, 37), (804, 31), (808, 32), (814, 41), (818, 42), (821, 31), (825, 32), (829, 43), (834, 33), (840, 43), (847, 43), (852, 44), (999, 44), (1003, 44), (1006, 44), (1010, 44), (1014, 44), (1018, 44), (1022, 44), (1026, 44), (1030, 44), (1034, 44), (1038, 44), (1042, 44), (1046, 44), (1050, 44), (1054, 44), (1058, 44), (1061, 44), (1065, 44), (1069, 44), (1072, 44), (1076, 44), (1080, 44), (1084, 44), (1088, 44), (1092, 44), (1096, 44), (1099, 44), (1103, 44), (1107, 44), (1111, 44), (1115, 44), (1119, 44), (1123, 44), (1127, 44), (1131, 44), (1135, 44), (1139, 44), (1143, 44), (1147, 44), (1151, 44), (1155, 44), (1159, 44), (1163, 44)]
def it_bts : Cond → Option ByteArray
  | .code _ b _ _ => some b
  | .codeWith _ b _ _ _ => some b
  | _ => none
set_option maxRecDepth 100000 in
theorem it_bt : (it_cds.drop 1).map (fun q => (lw_tbl[q.1]?).bind it_bts) = (it_mes.drop 1).map (fun me => some me.2.1) := rfl
/-- the code word at a place is a method's, but for the bytes -/
def it_cwb (i : Nat) (me : it_Me) : Bool := match lw_tbl[i]? with
  | some (.code n _ mx r) => decide (n = me.1) && decide (mx = me.2.2.1) && decide (r = me.2.2.2.1) && decide (me.2.2.2.2 = [])
  | some (.codeWith n _ mx r hs) => decide (n = me.1) && decide (mx = me.2.2.1) && decide (r = me.2.2.2.1) && decide (me.2.2.2.2 = hs) && decide (¬ hs = [])
  | _ => false
def it_mec (y : Nat) : Bool := match it_met y with
  | some me => (decide (y = 0) || it_cwb (it_cds.getD y (99999, 0)).1 me) && it_wd (it_cds.getD y (99999, 0)).2 (.initialized me.1.cls) && plainName me.1.cls && decide (me.1.cls ≠ "java/lang/invoke/MethodHandle") && decide (me.1.cls ≠ "java/lang/invoke/VarHandle") && decide (me.2.2.1 ≤ 60)
  | none => false
theorem it_me_all : (List.range 125).all it_mec = true := by decide +kernel
theorem it_law : it_met 0 = some (x, code, maxLocals, ret, []) := rfl
theorem it_cds_len : it_cds.length = 125 := by decide +kernel
theorem it_bt_at {y : Nat} {me : it_Me} (h : it_met y = some me) (h0 : y ≠ 0) : (lw_tbl[(it_cds.getD y (99999, 0)).1]?).bind it_bts = some me.2.1 := by
  have hlt := it_met_lt h
  obtain ⟨k, rfl⟩ : ∃ k, y = k + 1 := ⟨y - 1, by omega⟩
  have h1 := congrArg (fun L => L[k]?) it_bt
  simp only [List.getElem?_map, List.getElem?_drop] at h1
  have hk : it_cds[1 + k]? = some (it_cds.getD (k + 1) (99999, 0)) := by
    rw [Nat.add_comm 1 k, List.getD_eq_getElem?_getD, List.getElem?_eq_getElem (by rw [it_cds_len]; omega)]
    rfl
  have hm : it_mes[1 + k]? = some me := by rw [Nat.add_comm 1 k]; exact h
  rw [hk, hm] at h1
  simpa using h1
theorem it_met_ok {y : Nat} {me : it_Me} (h : it_met y = some me) : (if me.2.2.2.2 = [] then Cond.code me.1 me.2.1 me.2.2.1 me.2.2.2.1 else Cond.codeWith me.1 me.2.1 me.2.2.1 me.2.2.2.1 me.2.2.2.2) ∈ it_tb ∧ Cond.initialized me.1.cls ∈ it_tb ∧ plainName me.1.cls = true ∧ (me.1.cls ≠ "java/lang/invoke/MethodHandle" ∧ me.1.cls ≠ "java/lang/invoke/VarHandle") ∧ me.2.2.1 ≤ 60 := by
  have h1 := List.all_eq_true.mp it_me_all y (List.mem_range.mpr (it_met_lt h))
  unfold it_mec at h1
  rw [h] at h1
  simp only [Bool.and_eq_true, Bool.or_eq_true, decide_eq_true_eq] at h1
  obtain ⟨⟨⟨⟨⟨h2, h3⟩, h4⟩, h5⟩, h6⟩, h7⟩ := h1
  refine ⟨?_, it_wd_in h3, h4, ⟨h5, h6⟩, h7⟩
  by_cases h0 : y = 0
  · subst h0
    rw [it_law] at h
    cases h
    exact List.mem_filter.mpr ⟨List.mem_cons_self, rfl⟩
  · have h8 := h2.resolve_left h0
    have h9 := it_bt_at h h0
    unfold it_cwb at h8
    split at h8
    · rename_i n b mx r hw
      rw [hw] at h9
      simp only [Bool.and_eq_true, decide_eq_true_eq] at h8
      obtain ⟨⟨⟨rfl, rfl⟩, rfl⟩, hnil⟩ := h8
      cases h9
      rw [if_pos hnil]
      exact it_in _ hw rfl
    · rename_i n b mx r hs hw
      rw [hw] at h9
      simp only [Bool.and_eq_true, decide_eq_true_eq] at h8
      obtain ⟨⟨⟨⟨rfl, rfl⟩, rfl⟩, rfl⟩, hnil⟩ := h8
      cases h9
      rw [if_neg hnil]
      exact it_in _ hw rfl
    · cases h8
def it_nwk (r : ((Nat × Nat) × Nat) × Nat × Nat × Nat) : Bool := match it_cl[r.1.2]? with
  | some q => decide (r.1.2 < 30) && it_wd r.2.1 (.classLink (it_own r.1.1.1) r.1.1.2 q.1) && it_wd r.2.2.1 (.instantiable q.1 (it_nsl r.1.2)) && it_wd r.2.2.2 (.initialized q.1)
  | none => false
theorem it_nw_all : it_nws.all it_nwk = true := by decide +kernel
theorem it_nwc_ok {y idx ci : Nat} {me : it_Me} (h : it_nwc y idx = some ci) (hme : it_met y = some me) : ∃ C T N, it_cl[ci]? = some (C, T, N) ∧ ci < 30 ∧ Cond.classLink me.1.cls idx C ∈ it_tb ∧ Cond.instantiable C (it_nsl ci) ∈ it_tb ∧ Cond.initialized C ∈ it_tb := by
  obtain ⟨r, hr, he⟩ := List.mem_map.mp (it_lk h)
  have h1 := List.all_eq_true.mp it_nw_all r hr
  unfold it_nwk at h1
  rw [he] at h1
  simp only at h1
  split at h1
  · rename_i c hc
    simp only [Bool.and_eq_true, decide_eq_true_eq] at h1
    obtain ⟨⟨⟨h2, h3⟩, h4⟩, h5⟩ := h1
    rw [it_own_ok hme] at h3
    exact ⟨c.1, c.2.1, c.2.2, hc, h2, it_wd_in h3, it_wd_in h4, it_wd_in h5⟩
  · cases h1
theorem it_ac_all : (it_wd 113 (.arrayClass .int) && it_wd 92 (.arrayClass .char) && it_wd 248 (.arrayClass .boolean) && it_wd 1164 (.arrayClass .long)) = true := by decide +kernel
theorem it_nak_ok {a : ArrayType} {kd : Nat} (h : it_nak a = some kd) : 30 ≤ kd ∧ kd ≠ 39 ∧ it_aty kd = some (newarray.typeOf a) ∧ Cond.arrayClass (newarray.typeOf a) ∈ it_tb ∧ componentBytes (newarray.typeOf a) ≤ 8 ∧ ∀ ad, im_v ad (defaultValue (newarray.typeOf a)) = defaultValue (newarray.typeOf a) := by
  have hw := it_ac_all
  simp only [Bool.and_eq_true] at hw
  obtain ⟨⟨⟨w1, w2⟩, w3⟩, w4⟩ := hw
  unfold it_nak at h
  split at h <;> rename_i ht <;> (try cases h) <;> rw [ht]
  · exact ⟨by decide, by decide, rfl, it_wd_in w1, by decide, fun _ => rfl⟩
  · exact ⟨by decide, by decide, rfl, it_wd_in w2, by decide, fun _ => rfl⟩
  · exact ⟨by decide, by decide, rfl, it_wd_in w3, by decide, fun _ => rfl⟩
  · exact ⟨by decide, by decide, rfl, it_wd_in w4, by decide, fun _ => rfl⟩
def it_anc (r : ((Nat × Nat) × (Nat × String)) × Nat × Nat) : Bool := decide (it_aty r.1.2.1 = some (.object r.1.2.2)) && decide (30 ≤ r.1.2.1) && decide (r.1.2.1 ≠ 39) && it_wd r.2.1 (.classLink (it_own r.1.1.1) r.1.1.2 r.1.2.2) && it_wd r.2.2 (.arrayOver (.object r.1.2.2))
theorem it_an_all : it_ans.all it_anc = true := by decide +kernel
theorem it_anw_ok {y idx kd : Nat} {me : it_Me} (h : it_anw y idx = some kd) (hme : it_met y = some me) : ∃ C, it_aty kd = some (.object C) ∧ 30 ≤ kd ∧ kd ≠ 39 ∧ Cond.classLink me.1.cls idx C ∈ it_tb ∧ Cond.arrayOver (.object C) ∈ it_tb := by
  unfold it_anw at h
  rw [Option.map_eq_some_iff] at h
  obtain ⟨q, hq, rfl⟩ := h
  obtain ⟨r, hr, he⟩ := List.mem_map.mp (it_lk hq)
  have h1 := List.all_eq_true.mp it_an_all r hr
  unfold it_anc at h1
  rw [he] at h1
  simp only [Bool.and_eq_true, decide_eq_true_eq] at h1
  obtain ⟨⟨⟨⟨h2, h3⟩, h4⟩, h5⟩, h6⟩ := h1
  rw [it_own_ok hme] at h5
  exact ⟨q.2, h2, h3, h4, it_wd_in h5, it_wd_in h6⟩
theorem it_acp_ok {kd kv : Nat} {ty : FieldType} (h : it_acp kd = some kv) (ht : it_aty kd = some ty) : kv < 30 ∧ ∃ C T N, it_cl[kv]? = some (C, T, N) ∧ ty = .object C := by
  unfold it_acp at h
  split at h
  · cases h; cases ht; exact ⟨by decide, _, _, _, rfl, rfl⟩
  · cases h; cases ht; exact ⟨by decide, _, _, _, rfl, rfl⟩
  · cases h
theorem it_str_ok {y idx k : Nat} (h : it_str y idx = some k) : k < 8 := by
  unfold it_str at h
  rw [Option.map_eq_some_iff] at h
  obtain ⟨q, hq, rfl⟩ := h
  have h1 : (it_sts.map (·.1)).all (fun r => decide (r.2.1 < 8)) = true := by decide
  exact of_decide_eq_true (List.all_eq_true.mp h1 _ (it_lk hq))
def it_cac (r : it_Ca × Nat × Nat × Nat) : Bool := match it_met r.1.2.2.1 with
  | some mz => decide ((parseMethodDescriptor mz.1.desc).map (fun d => d.parameters.length) = some r.1.2.2.2.1) && it_wd r.2.1 (match r.1.2.2.2.2 with | none => .methodLink (it_own r.1.1.1) r.1.1.2 mz.1 | some h => .methodLinkNest (it_own r.1.1.1) r.1.1.2 mz.1 h) &&
    (if r.1.2.1 = 0 then it_wd r.2.2.1 (.instanceMethod mz.1) && it_wd r.2.2.2 (.selects mz.1.cls mz.1 mz.1) && decide (mz.2.2.2.2 = []) && (match it_mcl r.1.2.2.1 with | some ci => decide (ci < 30) && (match it_cl[ci]? with | some q => decide (q.1 = mz.1.cls) | none => false) | none => false)
     else if r.1.2.1 = 1 then it_wd r.2.2.1 (.static mz.1)
     else it_wd r.2.2.1 (.instanceMethod mz.1) && decide (mz.1.name = "<init>") && decide (mz.2.2.2.2 = []) && decide (mz.2.2.2.1 = none))
  | none => false
theorem it_ca_all : it_cas.all it_cac = true := by decide +kernel
theorem it_cal_ok {y idx : Nat} {q : Nat × Nat × Nat × Option String} {me : it_Me} (h : it_cal y idx = some q) (hme : it_met y = some me) : ∃ mz, it_met q.2.1 = some mz ∧ (parseMethodDescriptor mz.1.desc).map (fun d => d.parameters.length) = some q.2.2.1 ∧
    (match q.2.2.2 with | none => Cond.methodLink me.1.cls idx mz.1 | some h => Cond.methodLinkNest me.1.cls idx mz.1 h) ∈ it_tb ∧
    (q.1 = 0 → Cond.instanceMethod mz.1 ∈ it_tb ∧ Cond.selects mz.1.cls mz.1 mz.1 ∈ it_tb ∧ mz.2.2.2.2 = [] ∧ ∃ ci T N, it_mcl q.2.1 = some ci ∧ it_cl[ci]? = some (mz.1.cls, T, N) ∧ ci < 30) ∧
    (q.1 = 1 → Cond.static mz.1 ∈ it_tb) ∧ (q.1 = 2 → mz.1.name = "<init>" ∧ Cond.instanceMethod mz.1 ∈ it_tb ∧ mz.2.2.2.2 = [] ∧ mz.2.2.2.1 = none) := by
  obtain ⟨r, hr, he⟩ := List.mem_map.mp (it_lk h)
  have h1 := List.all_eq_true.mp it_ca_all r hr
  unfold it_cac at h1
  rw [he] at h1
  simp only at h1
  split at h1
  · rename_i mz hmz
    rw [it_own_ok hme] at h1
    simp only [Bool.and_eq_true, decide_eq_true_eq] at h1
    obtain ⟨⟨h2, h3⟩, h4⟩ := h1
    refine ⟨mz, hmz, h2, it_wd_in h3, fun h0 => ?_, fun h0 => ?_, fun h0 => ?_⟩
    · rw [if_pos h0] at h4
      simp only [Bool.and_eq_true, decide_eq_true_eq] at h4
      obtain ⟨⟨⟨h5, h6⟩, h7⟩, h8⟩ := h4
      refine ⟨it_wd_in h5, it_wd_in h6, h7, ?_⟩
      split at h8
      · rename_i ci hci
        simp only [Bool.and_eq_true, decide_eq_true_eq] at h8
        obtain ⟨h9, h10⟩ := h8
        split at h10
        · rename_i q2 hq2
          exact ⟨ci, q2.2.1, q2.2.2, hci, by rw [hq2, ← of_decide_eq_true h10], h9⟩
        · cases h10
      · cases h8
    · rw [if_neg (by omega), if_pos h0] at h4
      exact it_wd_in h4
    · rw [if_neg (by omega), if_neg (by omega)] at h4
      simp only [Bool.and_eq_true, decide_eq_true_eq] at h4
      exact ⟨h4.1.1.2, it_wd_in h4.1.1.1, h4.1.2, h4.2⟩
  · cases h1
theorem it_ob_all : (it_obs.all (fun r => it_wd r.2 (.methodLink (it_own r.1.1) r.1.2 Lib.objectInit)) && it_wd 63 (.instanceMethod Lib.objectInit) && it_wd 64 (.code Lib.objectInit ⟨#[0xb1]⟩ 1 none)) = true := by decide +kernel
theorem it_obi_ok {y idx : Nat} {me : it_Me} (h : it_obi y idx = true) (hme : it_met y = some me) : Cond.methodLink me.1.cls idx Lib.objectInit ∈ it_tb ∧ Cond.instanceMethod Lib.objectInit ∈ it_tb ∧ Cond.code Lib.objectInit ⟨#[0xb1]⟩ 1 none ∈ it_tb := by
  have hw := it_ob_all
  simp only [Bool.and_eq_true] at hw
  unfold it_obi at h
  obtain ⟨r, hr, he⟩ := List.mem_map.mp (List.contains_iff_mem.mp h)
  have h1 := List.all_eq_true.mp hw.1.1 r hr
  rw [he, it_own_ok hme] at h1
  exact ⟨it_wd_in h1, it_wd_in hw.1.2, it_wd_in hw.2⟩
theorem it_mx_all : (it_mxs.all (fun r => it_wd r.2 (.methodLink (it_own r.1.1) r.1.2 Lib.Math.max.name)) && it_wd 408 (.static Lib.Math.max.name) && it_wd 51 (.initialized "java/lang/Math") && it_wd 409 (.code Lib.Math.max.name Lib.Math.max.code 2 (some .int))) = true := by decide +kernel
theorem it_mxx_ok {y idx : Nat} {me : it_Me} (h : it_mxx y idx = true) (hme : it_met y = some me) : Cond.methodLink me.1.cls idx Lib.Math.max.name ∈ it_tb ∧ Cond.static Lib.Math.max.name ∈ it_tb ∧ Cond.initialized "java/lang/Math" ∈ it_tb ∧ Cond.code Lib.Math.max.name Lib.Math.max.code 2 (some .int) ∈ it_tb := by
  have hw := it_mx_all
  simp only [Bool.and_eq_true] at hw
  unfold it_mxx at h
  obtain ⟨r, hr, he⟩ := List.mem_map.mp (List.contains_iff_mem.mp h)
  have h1 := List.all_eq_true.mp hw.1.1.1 r hr
  rw [he, it_own_ok hme] at h1
  exact ⟨it_wd_in h1, it_wd_in hw.1.1.2, it_wd_in hw.1.2, it_wd_in hw.2⟩
end
section
/-! The abstract machine, whole. Tables (printed): it_met (methods), it_fld (fields), it_pok (may it be written here), it_cal (calls),
it_obi (Object.<init>), it_nwc (new), it_nak and it_anw (arrays), it_man (int[3][3]), it_acp (what an array of references takes), it_str (texts),
it_ixo (String.indexOf), it_thr (throw new E("..")). -/
/-- a field is read -/
def im_gf (y idx len : Nat) (st : List Value) (M : im_M) : Option (List Value) := if len = 3 then (match it_fld y idx with
  | some q => (match st with
    | .ref a :: r => if 8 ≤ a ∧ a < M.1.1 ∧ (M.2.1 a).1 = q.1 then some (M.2.2 a q.2.1 :: r) else none
    | _ => none)
  | none => none) else none
/-- a field is written -/
def im_pf (y idx len : Nat) (st : List Value) (M : im_M) : Option (List Value × im_M) := if len = 3 ∧ it_pok y idx = true then (match it_fld y idx with
  | some q => (match st with
    | v :: .ref a :: r => if 8 ≤ a ∧ a < M.1.1 ∧ (M.2.1 a).1 = q.1 ∧ narrow (it_ty q.1 q.2.1) v = v ∧ fits (it_ty q.1 q.2.1) v = true then some (r, im_set M a q.2.1 v) else none
    | _ => none)
  | none => none) else none
def im_nw (y idx len : Nat) (st : List Value) (M : im_M) : Option (List Value × im_M) := if len = 3 ∧ M.1.2.1 = 0 then (match it_nwc y idx with
  | some ci => some (.ref M.1.1 :: st, im_new M ci 0 (it_nsl ci) (fun j => defaultValue (it_ty ci j)))
  | none => none) else none
def im_na (at_ : ArrayType) (len : Nat) (st : List Value) (M : im_M) : Option (List Value × im_M) := if len = 2 ∧ M.1.2.1 = 0 then (match it_nak at_ with
  | some kd => (match st with
    | .int n :: r => if ¬ n < 0 ∧ n.toNatClampNeg ≤ 1000 then some (.ref M.1.1 :: r, im_new M kd n.toNatClampNeg n.toNatClampNeg (fun _ => defaultValue (newarray.typeOf at_))) else none
    | _ => none)
  | none => none) else none
def im_aw (y idx len : Nat) (st : List Value) (M : im_M) : Option (List Value × im_M) := if len = 3 ∧ M.1.2.1 = 0 then (match it_anw y idx with
  | some kd => (match st with
    | .int n :: r => if ¬ n < 0 ∧ n.toNatClampNeg ≤ 1000 then some (.ref M.1.1 :: r, im_new M kd n.toNatClampNeg n.toNatClampNeg (fun _ => .null)) else none
    | _ => none)
  | none => none) else none
/-- new int[3][3] -/
def im_mw (y idx dim len : Nat) (st : List Value) (M : im_M) : Option (List Value × im_M) := if len = 4 ∧ dim = 2 ∧ M.1.2.1 = 0 ∧ it_man y idx = true then (match st with
  | .int b :: .int a :: r => if a = 3 ∧ b = 3 then some (.ref M.1.1 :: r,
      im_new (im_new (im_new (im_new M 36 3 3 (fun j => .ref (M.1.1 + 1 + j))) 30 3 3 (fun _ => .int 0)) 30 3 3 (fun _ => .int 0)) 30 3 3 (fun _ => .int 0)) else none
  | _ => none) else none
def im_len (len : Nat) (st : List Value) (M : im_M) : Option (List Value) := if len = 1 then (match st with
  | .ref k :: r => if k < M.1.1 ∧ 30 ≤ (M.2.1 k).1 ∧ (it_aty (M.2.1 k).1).isSome = true then some (.int (M.2.1 k).2.toInt32 :: r) else none
  | _ => none) else none
/-- a reference is laid into an array -/
def im_aa (len : Nat) (st : List Value) (M : im_M) : Option (List Value × im_M) := match st with
  | .ref v :: .int j :: .ref k :: r => (match it_aty (M.2.1 k).1 with
    | some ty => if 8 ≤ v ∧ v < M.1.1 ∧ it_acp (M.2.1 k).1 = some (M.2.1 v).1 then (match im_as it_aty ty len j k (.ref v) M with | some M' => some (r, M') | none => none) else none
    | none => none)
  | _ => none
def im_ai (ty : FieldType) (len : Nat) (st : List Value) (M : im_M) : Option (List Value × im_M) := match st with
  | .int x :: .int j :: .ref k :: r => (match im_as it_aty ty len j k (narrow ty (.int x)) M with | some M' => some (r, M') | none => none)
  | _ => none
def im_al64 (len : Nat) (st : List Value) (M : im_M) : Option (List Value × im_M) := match st with
  | .long x :: .int j :: .ref k :: r => (match im_as it_aty .long len j k (.long x) M with | some M' => some (r, M') | none => none)
  | _ => none
def im_ar (M : im_M) (k : Nat) : Option FieldType := it_aty (M.2.1 k).1
/-- aaload: of whichever array of references -/
def im_al2 (len pc : Nat) (st : List Value) (M : im_M) : Option (List Value) := match st with
  | .int _ :: .ref k :: _ => (match im_ar M k with | some ty => if ty.isReference = true then im_al it_aty ty len pc st M else none | none => none)
  | _ => none
def im_rd (pc : Nat) (ls : List Value) (M : im_M) (L : Nat) : Option (List Value) → Option (im_S × im_M)
  | some st' => some ((pc + L, ls, st'), M)
  | none => none
def im_wr (pc : Nat) (ls : List Value) (L : Nat) : Option (List Value × im_M) → Option (im_S × im_M)
  | some q => some ((pc + L, ls, q.1), q.2)
  | none => none
/-- all instructions but calls, returns and throws -/
def im_ns (y : Nat) (i : Instr) (len pc : Nat) (ls st : List Value) (M : im_M) : Option (im_S × im_M) := match i with
  | .getfield idx => im_rd pc ls M 3 (im_gf y idx len st M)
  | .putfield idx => im_wr pc ls 3 (im_pf y idx len st M)
  | .new idx => im_wr pc ls 3 (im_nw y idx len st M)
  | .newarray a => im_wr pc ls 2 (im_na a len st M)
  | .anewarray idx => im_wr pc ls 3 (im_aw y idx len st M)
  | .multianewarray idx dim => im_wr pc ls 4 (im_mw y idx dim len st M)
  | .arraylength => im_rd pc ls M 1 (im_len len st M)
  | .iaload => im_rd pc ls M 1 (im_al it_aty .int len pc st M)
  | .caload => im_rd pc ls M 1 (im_al it_aty .char len pc st M)
  | .baload => im_rd pc ls M 1 (im_al it_aty .boolean len pc st M)
  | .laload => im_rd pc ls M 1 (im_al it_aty .long len pc st M)
  | .aaload => im_rd pc ls M 1 (im_al2 len pc st M)
  | .iastore => im_wr pc ls 1 (im_ai .int len st M)
  | .castore => im_wr pc ls 1 (im_ai .char len st M)
  | .bastore => im_wr pc ls 1 (im_ai .boolean len st M)
  | .lastore => im_wr pc ls 1 (im_al64 len st M)
  | .aastore => im_wr pc ls 1 (im_aa len st M)
  | .ldc idx => if len = 2 then (match it_str y idx with | some k => some ((pc + 2, ls, .ref k :: st), M) | none => none) else none
  | i => (match im_p i len pc ls st with | some r => some (r, M) | none => none)
/-- how a method ends -/
abbrev im_O : Type := Option Value ⊕ (Nat × Nat)
def im_ret (y : Nat) (i : Instr) (len : Nat) (st : List Value) : Option (Option Value) := match it_met y with
  | some me => (match i with
    | .ireturn => if len = 1 then (match st, me.2.2.2.1 with | [.int x], some ty => if narrow ty (.int x) = .int x ∧ ty.isReference = false ∧ fits ty (.int x) = true then some (some (.int x)) else none | _, _ => none) else none
    | .areturn => if len = 1 then (match st, me.2.2.2.1 with | [.ref k], some ty => if ty.isReference = true then some (some (.ref k)) else none | _, _ => none) else none
    | .return_ => if len = 1 then (match st, me.2.2.2.1 with | [], none => some none | _, _ => none) else none
    | _ => none)
  | none => none
/-- a call: what is called, its arguments, what stays on the stack -/
def im_call (y : Nat) (i : Instr) (len : Nat) (st : List Value) : Option (Nat × List Value × List Value) := if len = 3 then (match i with
  | .invokevirtual idx => (match it_cal y idx with
    | some q => if q.1 = 0 ∧ q.2.2.1 < st.length ∧ ((st.drop (q.2.2.1 + 1)).map Value.category).sum ≤ 8 then some (q.2.1, (st.take (q.2.2.1 + 1)).reverse, st.drop (q.2.2.1 + 1)) else none
    | none => none)
  | .invokestatic idx => (match it_cal y idx with
    | some q => if q.1 = 1 ∧ q.2.2.1 ≤ st.length ∧ ((st.drop q.2.2.1).map Value.category).sum ≤ 8 then some (q.2.1, (st.take q.2.2.1).reverse, st.drop q.2.2.1) else none
    | none => none)
  | .invokespecial idx => (match it_cal y idx with
    | some q => if q.1 = 2 ∧ q.2.2.1 < st.length ∧ ((st.drop (q.2.2.1 + 1)).map Value.category).sum ≤ 8 then some (q.2.1, (st.take (q.2.2.1 + 1)).reverse, st.drop (q.2.2.1 + 1)) else none
    | none => none)
  | _ => none) else none
/-- Object.<init> and Math.max (String.indexOf: not yet) -/
def im_prim (y : Nat) (i : Instr) (len : Nat) (st : List Value) (M : im_M) : Option (List Value) := if len = 3 then (match i with
  | .invokespecial idx => if it_obi y idx = true then (match st with | .ref k :: r => (if (r.map Value.category).sum ≤ 8 then some r else none) | _ => none) else none
  | .invokestatic idx => if it_mxx y idx = true then (match st with | .int b :: .int a :: r => (if (r.map Value.category).sum ≤ 8 then some (.int (if a < b then b else a) :: r) else none) | _ => none) else none
  | _ => none) else none
def im_hand (y pc ec : Nat) : Option Nat := match it_met y with
  | some me => (me.2.2.2.2.find? fun h => decide (h.1 ≤ pc) && decide (pc < h.2.1) && it_cat y h.2.2.2 ec).map fun h => h.2.2.1
  | none => none
def im_nohand (y : Nat) : Bool := match it_met y with | some me => me.2.2.2.2.isEmpty | none => false
/-- the receiver of an instance call is of the callee's class -/
def im_recv (i : Instr) (z : Nat) (as : List Value) (M : im_M) : Bool := match i with
  | .invokestatic _ => as.all im_c1
  | _ => as.all im_c1 && (match as with | .ref k :: _ => decide (8 ≤ k ∧ k < M.1.1 ∧ it_mcl z = some (M.2.1 k).1) | _ => false)
def im_dec (y pc : Nat) : Option (Instr × Nat) := match it_met y with
  | some me => (match decode me.2.1 pc with | .ok q => some q | .error _ => none)
  | none => none
def im_max (y : Nat) : Nat := match it_met y with | some me => me.2.2.1 | none => 0
/-- one step, what is called and what comes behind by f -/
def im_F (f : Nat → Nat → Nat → List Value → List Value → im_M → Option (im_O × im_M)) (d y pc : Nat) (ls st : List Value) (M : im_M) : Option (im_O × im_M) := match im_dec y pc with
    | none => none
    | some (i, len) => match im_ret y i len st with
      | some v => some (.inl v, M)
      | none => match it_thr y pc with
        | some ec => if ((st.map Value.category).sum ≤ 8) then some (.inr (ec, im_tot M), im_dead M 1 6) else none
        | none => match im_prim y i len st M with
          | some st' => f d y (pc + 3) ls st' M
          | none => match im_call y i len st with
            | some (z, as, rest) => (match d with
              | 0 => none
              | d' + 1 => if as.length ≤ im_max z ∧ im_recv i z as M = true then (match f d' z 0 (as ++ List.replicate (im_max z - as.length) (.retAddr 0)) [] M with
                | some (.inl v, M1) => f (d' + 1) y (pc + 3) ls (v.toList ++ rest) M1
                | some (.inr q, M1) => (match im_hand y pc q.1 with
                  | some h => f (d' + 1) y h ls [.ref q.2] M1
                  | none => if im_nohand y = true then some (.inr q, M1) else none)
                | none => none) else none)
            | none => match im_ns y i len pc ls st M with
              | some (r, M1) => f d y r.1 r.2.1 r.2.2 M1
              | none => none
def im_run : Nat → Nat → Nat → Nat → List Value → List Value → im_M → Option (im_O × im_M)
  | 0 => fun _ _ _ _ _ _ => none
  | n + 1 => im_F (im_run n)
end
section
/-! The abstract machine is right, first part: what a state must say, all instructions but calls, returns and throws. -/
section SOUND
variable {p : Program} {l : Launch} {e : Env} {R : Room} {s : State} {m : MethodId} {args : Array Value} {below : List Frame} {meth : Method} {c : Code} {H : Heap} {locs : List Loc} {cells slots : Nat} {Q : State → Prop}
variable {D : va_G} {E : Nat → ClassId} {base : Nat} {sp : Nat → Nat} {H0 : Heap} {M : im_M}
/-- the words hold, whatever the arguments -/
def im_T (s : State) : Prop := ∀ w ∈ it_tb, ∀ A : Array Value, w.before A s = true
/-- the two texts -/
def im_Y (sp : Nat → Nat) (s : State) : Prop := ∀ (y idx k : Nat) (me : it_Me), it_str y idx = some k → it_met y = some me → ∃ tx, vk_R me.1.cls idx tx (sp k) s
/-- exceptions that are none of another kind -/
def im_N (s : State) : Prop := ∀ a b, a < 3 → b < 3 → a ≠ b → va_Nc (it_ecn a) (it_ecn b) s
/-- where the two static fields lie that a throw reads, and that no cell of ours is a class's -/
def im_Sl (C n d : String) (H0 : Heap) (U : State) : Prop := va_Zq C n d (fun q => H0.size ≤ q) U H0 ∧ ∃ (c : ClassId) (k : Class) (i : Nat) (f : Field) (a : Nat) (cell : Cell), U.vm.findClass C = some c ∧ U.fieldFound? C n d = some (c, k, i, f) ∧ f.isStatic = true ∧ k.statics = some a ∧ H0[a]? = some cell ∧ cell.vm.isStatics = true ∧ cell.cls = c ∧ f.slot < cell.slots.size ∧ k.staticTypes[f.slot]? = some f.type
def im_Sf (H0 : Heap) (U : State) : Prop := im_Sl Jvm.Bundle.tN "UNASSIGNED_STACK" Jvm.Bundle.steD H0 U ∧ im_Sl Jvm.Bundle.tN "SUPPRESSED_SENTINEL" Jvm.Bundle.listD H0 U
def im_A (base : Nat) (H0 H : Heap) : Prop := H0.size = base ∧ (∀ q, q < base → H[q]? = H0[q]?) ∧ ∀ (q : Nat) (cell : Cell), base ≤ q → H[q]? = some cell → cell.vm.isStatics = false
def im_St (H0 : Heap) (base : Nat) (s : State) : Prop := im_A base H0 s.heap ∧ im_Sf H0 s
/-- where a method's body is walked -/
def im_Cx (D : va_G) (E : Nat → ClassId) (sp : Nat → Nat) (d y : Nat) (p : Program) (l : Launch) (R : Room) (s : State) (m : MethodId) (meth : Method) (c : Code) : Prop :=
  ∃ me : it_Me, it_met y = some me ∧ p.tables.exec = Jvm.exec ∧ c.code = me.2.1 ∧ c.maxLocals = me.2.2.1 ∧ s.vm.findClass me.1.cls = some m.cls ∧ meth.sig.returnType = me.2.2.2.1 ∧ meth.locks = false ∧ meth.name = me.1.name ∧
    c.exceptionTable.toList.map (fun h => (h.startPc, h.endPc, h.handlerPc, h.catchType)) = me.2.2.2.2 ∧ l.stackTraces = false ∧ im_T s ∧ im_K it_cl it_aty D E s ∧ (im_Y sp s ∧ im_N s) ∧ d + 40 ≤ R.frames ∧ 100 * d + 4000 ≤ R.locals
theorem im_v_narrow {ad : Nat → Nat} {ty : FieldType} {v : Value} (h : narrow ty v = v) : narrow ty (im_v ad v) = im_v ad v := by
  cases v with
  | ref k => cases ty <;> rfl
  | _ => exact h
theorem im_v_fits {ad : Nat → Nat} {ty : FieldType} {v : Value} (h : fits ty v = true) : fits ty (im_v ad v) = true := by
  cases v with
  | ref k => cases ty <;> exact h
  | _ => exact h
theorem it_ma_all : it_mas.all (fun r => it_wd r.2.1 (.classLink (it_own r.1.1) r.1.2 "[[I") && it_wd r.2.2 (.arrayOver (.array .int))) = true := by decide +kernel
theorem it_man_ok {y idx : Nat} {me : it_Me} (h : it_man y idx = true) (hme : it_met y = some me) : Cond.classLink me.1.cls idx "[[I" ∈ it_tb ∧ Cond.arrayOver (.array .int) ∈ it_tb ∧ Cond.arrayClass .int ∈ it_tb := by
  unfold it_man at h
  obtain ⟨r, hr, he⟩ := List.mem_map.mp (List.contains_iff_mem.mp h)
  have h1 := List.all_eq_true.mp it_ma_all r hr
  rw [he, it_own_ok hme] at h1
  simp only [Bool.and_eq_true] at h1
  have hw := it_ac_all
  simp only [Bool.and_eq_true] at hw
  exact ⟨it_wd_in h1.1, it_wd_in h1.2, it_wd_in hw.1.1.1⟩
theorem im_v_def {ad : Nat → Nat} (ty : FieldType) : im_v ad (defaultValue ty) = defaultValue ty := by cases ty <;> rfl
theorem im_mw_ok {y idx dim pc len nL : Nat} {me : it_Me} {ls st : List Value} {lr : Array Slot} {r : im_S} {M1 : im_M} (hx : p.tables.exec = Jvm.exec) (hb : c.code = me.2.1) (hdg : decode me.2.1 pc = .ok (.multianewarray idx dim, len)) (hme : it_met y = some me) (hown : s.vm.findClass me.1.cls = some m.cls) (hT : im_T s) (hK : im_K it_cl it_aty D E s) (hR : im_R it_nf D E base sp H0 M H) (hlo : ∀ q ∈ locs, base ≤ q.base) (hL : im_L (im_ad base sp) nL ls lr)
    (h : im_ns y (.multianewarray idx dim) len pc ls st M = some (r, M1)) (hcells : cells + im_tot M1 ≤ R.cells + im_tot M) (hslots : slots + M1.1.2.2 ≤ R.slots + M.1.2.2)
    (kk : ∀ (H' : Heap) (locs' : List Loc) (lr' : Array Slot) (cells' slots' : Nat), im_R it_nf D E base sp H0 M1 H' → (∀ q ∈ locs', base ≤ q.base) → im_L (im_ad base sp) nL r.2.1 lr' → cells' + im_tot M = cells + im_tot M1 → slots' + M.1.2.2 = slots + M1.1.2.2 →
      W p l e R s m args below meth c H' locs' cells' slots' Q (F0 m r.1 lr' (r.2.2.map (im_v (im_ad base sp))))) : W p l e R s m args below meth c H locs cells slots Q (F0 m pc lr (st.map (im_v (im_ad base sp)))) := by
  have h' : im_wr pc ls 4 (im_mw y idx dim len st M) = some (r, M1) := h
  cases hmw : im_mw y idx dim len st M with
  | none => rw [hmw] at h'; cases h'
  | some qq =>
    rw [hmw] at h'
    unfold im_mw at hmw
    split at hmw
    · rename_i hl
      obtain ⟨hl, hd, hg0, hman⟩ := hl
      subst hl; subst hd
      split at hmw
      · rename_i b a r'
        split at hmw
        · rename_i hab
          obtain ⟨rfl, rfl⟩ := hab
          cases hmw
          cases h'
          obtain ⟨w1, w2, w3⟩ := it_man_ok hman hme
          simp only [im_tot, im_new] at hcells hslots
          intro T hTH X
          obtain ⟨vm₁, cA, comp, f1, f2, XF, st⟩ := im_multi X hx hown (hT _ w1 _) (hT _ w2 _) (hT _ w3 _) (g := F0 m pc lr (.int 3 :: .int 3 :: r'.map (im_v (im_ad base sp)))) rfl (by rw [hb]; exact hdg) rfl (by omega) (by omega)
          obtain ⟨a1, a2, a3, a4, a5, a6, a7, a8⟩ := im_s3_facts (T.setVm vm₁) cA comp
          have hsz : (T.setVm vm₁).heap = H := hTH
          rw [hsz] at a1 a2 a3 a4 a5 a6
          obtain ⟨kA, cm, k1, k2, k3, -, k4⟩ := hK.2 36 (.array .int) rfl
          obtain ⟨kB, cn, j1, j2, j3, -, -⟩ := hK.2 30 .int rfl
          have hcA : cA = E 36 := Option.some.inj (f1.symm.trans (k3 (by decide)))
          have hco : comp = E 30 := Option.some.inj (f2.symm.trans (j3 (by decide)))
          have hin : ∀ kd, kd = 30 → im_cell it_nf D E (im_ad base sp) (kd, 3) (fun _ => .int 0) (im_in comp) := by
            intro kd hkd
            subst hkd
            rw [hco]
            have := im_arr_cell (nf := it_nf) (D := D) (E := E) (ad := im_ad base sp) (kd := 30) (n := 3) (v := .int 0) (by decide) rfl
            rwa [← arrV_new] at this
          have h8 := hR.1
          have h2 := hR.2.1
          unfold im_tot at h2
          have had : ∀ j, im_ad base sp (M.1.1 + 1 + j) = H.size + 1 + j := fun j => by rw [im_ad_own (by omega)]; omega
          have hout : im_cell it_nf D E (im_ad base sp) (36, 3) (fun j => .ref (M.1.1 + 1 + j)) (im_o3 cA H.size) := by
            obtain ⟨o1, o2, o3, o4, o5, o6⟩ := im_o3_slots cA H.size
            unfold im_cell
            rw [if_neg (by decide)]
            refine ⟨by rw [o5]; exact hcA, by rw [o6]; exact fun q => (by cases q), by rw [o6]; exact fun q hq => (by cases hq), o4, fun j hj => ?_⟩
            show _ = some (Value.ref (im_ad base sp (M.1.1 + 1 + j)))
            rw [had]
            match j, hj with
            | 0, _ => exact o1
            | 1, _ => exact o2
            | 2, _ => exact o3
          have p0 : ∀ (A : Heap) (c9 : Cell), (A.push c9)[A.size]? = some c9 ∧ (A.push c9).size = A.size + 1 ∧ ∀ q, q < A.size → (A.push c9)[q]? = A[q]? := fun A c9 => ⟨by simp, by simp, fun q hq => by rw [Array.getElem?_push, if_neg (Nat.ne_of_lt hq)]⟩
          obtain ⟨r1, d1⟩ := hR.new (H' := H.push (im_o3 cA H.size)) hg0 (sl := 3) (p0 _ _).1 (p0 _ _).2.1 (p0 _ _).2.2 hout
          obtain ⟨r2, d2⟩ := r1.new (H' := (H.push (im_o3 cA H.size)).push (im_in comp)) hg0 (sl := 3) (p0 _ _).1 (p0 _ _).2.1 (p0 _ _).2.2 (hin 30 rfl)
          obtain ⟨r3, d3⟩ := r2.new (H' := ((H.push (im_o3 cA H.size)).push (im_in comp)).push (im_in comp)) hg0 (sl := 3) (p0 _ _).1 (p0 _ _).2.1 (p0 _ _).2.2 (hin 30 rfl)
          obtain ⟨r4, d4⟩ := r3.new (H' := (((H.push (im_o3 cA H.size)).push (im_in comp)).push (im_in comp)).push (im_in comp)) hg0 (sl := 3) (p0 _ _).1 (p0 _ _).2.1 (p0 _ _).2.2 (hin 30 rfl)
          have hH : (im_s3 (T.setVm vm₁) cA comp).heap = (((H.push (im_o3 cA H.size)).push (im_in comp)).push (im_in comp)).push (im_in comp) := by
            apply Array.ext_getElem?
            intro q
            simp only [Array.getElem?_push, Array.size_push]
            by_cases q4 : q = H.size + 3
            · subst q4; rw [a5]; simp
            · by_cases q3 : q = H.size + 2
              · subst q3; rw [a4]; simp
              · by_cases q2 : q = H.size + 1
                · subst q2; rw [a3]; simp
                · by_cases q1 : q = H.size
                  · subst q1
                    rw [a1, if_neg (by omega), if_neg (by omega), if_neg (by omega), if_pos rfl]
                  · by_cases ql : q < H.size
                    · rw [a6 q ql]
                      simp [q1, show ¬ q = H.size + 1 + 1 + 1 by omega, show ¬ q = H.size + 1 + 1 by omega, show ¬ q = H.size + 1 by omega]
                    · rw [Array.getElem?_eq_none (by rw [a2]; omega)]
                      simp [q1, show ¬ q = H.size + 1 + 1 + 1 by omega, show ¬ q = H.size + 1 + 1 by omega, show ¬ q = H.size + 1 by omega]
                      omega
          have hd : im_ad base sp M.1.1 = T.heap.size := by rw [d1, hTH]
          have kkW := kk (im_s3 (T.setVm vm₁) cA comp).heap (locs ++ [⟨T.heap.size, 0⟩] ++ [⟨T.heap.size, 1⟩] ++ [⟨T.heap.size, 2⟩]) lr (cells + 4) (slots + 12) (by rw [hH]; exact r4) (fun q hq => by
            simp only [List.mem_append, List.mem_cons, List.not_mem_nil, or_false] at hq
            rcases hq with ((hq | rfl) | rfl) | rfl
            · exact hlo q hq
            all_goals (show base ≤ T.heap.size; rw [hTH]; omega)) hL (by simp only [im_tot, im_new]; omega) (by simp only [im_new]; omega)
          obtain ⟨t, b1, b2⟩ := kkW _ rfl XF
          refine ⟨t, st t ?_, b2⟩
          simpa only [List.map_cons, im_v, hd] using b1
        · cases hmw
      · cases hmw
    · cases hmw
theorem im_ns_ok {y d pc len nL : Nat} {i : Instr} {ls st : List Value} {lr : Array Slot} {r : im_S} {M1 : im_M} (hC : im_Cx D E sp d y p l R s m meth c) (hR : im_R it_nf D E base sp H0 M H) (hlo : ∀ q ∈ locs, base ≤ q.base) (hL : im_L (im_ad base sp) nL ls lr)
    (hdg : decode c.code pc = .ok (i, len)) (h : im_ns y i len pc ls st M = some (r, M1)) (hcells : cells + im_tot M1 ≤ R.cells + im_tot M) (hslots : slots + M1.1.2.2 ≤ R.slots + M.1.2.2)
    (kk : ∀ (H' : Heap) (locs' : List Loc) (lr' : Array Slot) (cells' slots' : Nat), im_R it_nf D E base sp H0 M1 H' → (∀ q ∈ locs', base ≤ q.base) → im_L (im_ad base sp) nL r.2.1 lr' → cells' + im_tot M = cells + im_tot M1 → slots' + M.1.2.2 = slots + M1.1.2.2 →
      W p l e R s m args below meth c H' locs' cells' slots' Q (F0 m r.1 lr' (r.2.2.map (im_v (im_ad base sp))))) : W p l e R s m args below meth c H locs cells slots Q (F0 m pc lr (st.map (im_v (im_ad base sp)))) := by
  obtain ⟨me, hme, hx, hb, hml, hown, hret, hlocks, hname, hexc, htr, hT, hK, hY, hfr, hlc⟩ := hC
  rw [hb] at hdg
  -- what stays as it is
  have rd : ∀ {L : Nat} {o : Option (List Value)}, im_rd pc ls M L o = some (r, M1) → (∀ st', o = some st' → W p l e R s m args below meth c H locs cells slots Q (F0 m (pc + L) lr (st'.map (im_v (im_ad base sp)))) → W p l e R s m args below meth c H locs cells slots Q (F0 m pc lr (st.map (im_v (im_ad base sp))))) →
      W p l e R s m args below meth c H locs cells slots Q (F0 m pc lr (st.map (im_v (im_ad base sp)))) := by
    intro L o ho k
    cases o with
    | none => cases ho
    | some st' =>
      cases ho
      exact k st' rfl (kk H locs lr cells slots hR hlo hL rfl rfl)
  have wr : ∀ {L : Nat} {o : Option (List Value × im_M)}, im_wr pc ls L o = some (r, M1) → (∀ st' M', o = some (st', M') → cells + im_tot M' ≤ R.cells + im_tot M → slots + M'.1.2.2 ≤ R.slots + M.1.2.2 →
        (∀ (H' : Heap) (locs' : List Loc) (cells' slots' : Nat), im_R it_nf D E base sp H0 M' H' → (∀ q ∈ locs', base ≤ q.base) → cells' + im_tot M = cells + im_tot M' → slots' + M.1.2.2 = slots + M'.1.2.2 → W p l e R s m args below meth c H' locs' cells' slots' Q (F0 m (pc + L) lr (st'.map (im_v (im_ad base sp))))) →
        W p l e R s m args below meth c H locs cells slots Q (F0 m pc lr (st.map (im_v (im_ad base sp))))) → W p l e R s m args below meth c H locs cells slots Q (F0 m pc lr (st.map (im_v (im_ad base sp)))) := by
    intro L o ho k
    cases o with
    | none => cases ho
    | some q =>
      obtain ⟨st', M'⟩ := q
      cases ho
      exact k st' M' rfl hcells hslots fun H' locs' c' s' h1 h2 h3 h4 => kk H' locs' lr c' s' h1 h2 hL h3 h4
  have pure_ : im_p i len pc ls st = some r → M1 = M → W p l e R s m args below meth c H locs cells slots Q (F0 m pc lr (st.map (im_v (im_ad base sp)))) := by
    intro h1 h2
    subst h2
    exact im_p_ok i hx hb hdg h1 hL fun lr' hL' => kk H locs lr' cells slots hR hlo hL' rfl rfl
  have other : (match im_p i len pc ls st with | some r => some (r, M) | none => none) = some (r, M1) → W p l e R s m args below meth c H locs cells slots Q (F0 m pc lr (st.map (im_v (im_ad base sp)))) := by
    intro h1
    cases hp : im_p i len pc ls st with
    | none => rw [hp] at h1; cases h1
    | some r' =>
      rw [hp] at h1
      cases h1
      exact pure_ hp rfl
  cases i with
  | getfield idx =>
    refine rd h fun st' ho kk => ?_
    unfold im_gf at ho
    split at ho
    · rename_i hl
      split at ho
      · rename_i q hq
        split at ho
        · rename_i a r'
          split at ho
          · rename_i hc
            obtain ⟨h8, hlt, hci⟩ := hc
            cases ho
            obtain ⟨C, T, N, g1, g2, g3, g4, g5⟩ := it_fld_ok hq hme
            obtain ⟨k1, k2, k3⟩ := it_cl_ok g1
            obtain ⟨cell, c1, c2⟩ := hR.at hlt (Or.inl h8)
            have c3 := c2.obj (by rw [hci]; exact g2)
            rw [hci, k3] at c3
            exact im_get_row (ci := q.1) hx hb (hK.1 _ _ g1) g3 (hT _ (k1 _ g3).1 _) hown (hT _ g5 _) g4 c1 c3 (by rw [hdg, hl]) kk
          · cases ho
        · cases ho
      · cases ho
    · cases ho
  | putfield idx =>
    refine wr h fun st' M' ho hc1 hs1 kk => ?_
    unfold im_pf at ho
    split at ho
    · rename_i hl
      obtain ⟨hl, hpok⟩ := hl
      split at ho
      · rename_i q hq
        split at ho
        · rename_i v a r'
          split at ho
          · rename_i hc
            obtain ⟨h8, hlt, hci, hn, hf⟩ := hc
            cases ho
            obtain ⟨C, T, N, g1, g2, g3, g4, g5⟩ := it_fld_ok hq hme
            obtain ⟨k1, k2, k3⟩ := it_cl_ok g1
            obtain ⟨cell, c1, c2⟩ := hR.at hlt (Or.inl h8)
            have c3 := c2.obj (by rw [hci]; exact g2)
            rw [hci, k3] at c3
            refine im_put_row (ci := q.1) (k := q.2.1) (f := M.2.2 a) hx hb (hK.1 _ _ g1) g3 (fun k hk => hT _ (k1 k hk).1 _) (it_ty q.1) (fun k hk => (k1 k hk).2) k2 hown (hT _ g5 _) g4 ?_ c1 c3 (im_v_narrow hn) (im_v_fits hf) (by rw [hdg, hl]) fun H' slot cell' e1 e2 e3 e4 => ?_
            · rcases it_pok_ok hpok hq hme g1 with h9 | ⟨h91, h92, h93⟩
              · exact Or.inl h9
              · exact Or.inr ⟨h91, h92, by rw [hname]; exact h93⟩
            · refine kk H' _ cells slots (hR.set hlt h8 e1 e2 e3 ?_) (t_lc (free := fun a => base ≤ a) hlo (by rw [im_ad_own h8]; exact Nat.le_add_right _ _)) rfl rfl
              unfold im_cell
              rw [if_pos (by rw [hci]; exact g2), hci, k3]
              exact e4
          · cases ho
        · cases ho
      · cases ho
    · cases ho
  | new idx =>
    refine wr h fun st' M' ho hc1 hs1 kk => ?_
    unfold im_nw at ho
    split at ho
    · rename_i hl
      obtain ⟨hl, hg0⟩ := hl
      split at ho
      · rename_i ci hq
        cases ho
        obtain ⟨C, T, N, g1, g2, g3, g4, g5⟩ := it_nwc_ok hq hme
        obtain ⟨k1, k2, k3⟩ := it_cl_ok g1
        simp only [im_tot, im_new] at hc1 hs1
        refine im_new_row (ci := ci) hx hb (hK.1 _ _ g1) (fun k hk => hT _ (k1 k hk).1 _) (it_ty ci) (fun k hk => (k1 k hk).2) hown (hT _ g3 _) (hT _ g4 _) (hT _ g5 _) (by omega) (by omega) (by rw [hdg, hl]) fun H' cell' e1 e2 e3 e4 => ?_
        obtain ⟨hR', had⟩ := hR.new (H' := H') hg0 (kd := ci) (len := 0) (sl := it_nsl ci) (f := fun j => defaultValue (it_ty ci j)) e1 e2 e3 (by
          unfold im_cell
          rw [if_pos g2, k3]
          refine ⟨e4.1, e4.2.1, fun j hj => ?_⟩
          rw [e4.2.2 j hj, im_v_def])
        have := kk H' locs (cells + 1) (slots + it_nsl ci) hR' hlo (by simp only [im_tot, im_new]; omega) (by simp only [im_new]; omega)
        simpa only [List.map_cons, im_v, had] using this
      · cases ho
    · cases ho
  | newarray at_ =>
    refine wr h fun st' M' ho hc1 hs1 kk => ?_
    unfold im_na at ho
    split at ho
    · rename_i hl
      obtain ⟨hl, hg0⟩ := hl
      split at ho
      · rename_i kd hq
        split at ho
        · rename_i n r'
          split at ho
          · rename_i hn
            cases ho
            obtain ⟨g1, g2, g3, g4, g5, g6⟩ := it_nak_ok hq
            simp only [im_tot, im_new] at hc1 hs1
            have hb9 : n.toNatClampNeg * componentBytes (newarray.typeOf at_) ≤ 536870912 := Nat.le_trans (Nat.mul_le_mul hn.2 g5) (by decide)
            refine im_newa_row hx hb (hT _ g4 _) hK g3 g2 hn.1 hb9 (by omega) (by omega) (by rw [hdg, hl]) fun H' e1 e2 e3 => ?_
            obtain ⟨hR', had⟩ := hR.new (H' := H') hg0 (kd := kd) (len := n.toNatClampNeg) (sl := n.toNatClampNeg) (f := fun _ => defaultValue (newarray.typeOf at_)) e1 e2 e3 (im_arr_cell g1 (g6 _))
            have := kk H' locs (cells + 1) (slots + n.toNatClampNeg) hR' hlo (by simp only [im_tot, im_new]; omega) (by simp only [im_new]; omega)
            simpa only [List.map_cons, im_v, had] using this
          · cases ho
        · cases ho
      · cases ho
    · cases ho
  | anewarray idx =>
    refine wr h fun st' M' ho hc1 hs1 kk => ?_
    unfold im_aw at ho
    split at ho
    · rename_i hl
      obtain ⟨hl, hg0⟩ := hl
      split at ho
      · rename_i kd hq
        split at ho
        · rename_i n r'
          split at ho
          · rename_i hn
            cases ho
            obtain ⟨C, g1, g2, g3, g4, g5⟩ := it_anw_ok hq hme
            simp only [im_tot, im_new] at hc1 hs1
            have hb9 : n.toNatClampNeg * 4 ≤ 536870912 := Nat.le_trans (Nat.mul_le_mul hn.2 (Nat.le_refl 4)) (by decide)
            refine im_newq_row hx hb hK g1 g3 hown (hT _ g4 _) (hT _ g5 _) hn.1 hb9 (by omega) (by omega) (by rw [hdg, hl]) fun H' e1 e2 e3 => ?_
            obtain ⟨hR', had⟩ := hR.new (H' := H') hg0 (kd := kd) (len := n.toNatClampNeg) (sl := n.toNatClampNeg) (f := fun _ => .null) e1 e2 e3 (im_arr_cell g2 rfl)
            have := kk H' locs (cells + 1) (slots + n.toNatClampNeg) hR' hlo (by simp only [im_tot, im_new]; omega) (by simp only [im_new]; omega)
            simpa only [List.map_cons, im_v, had] using this
          · cases ho
        · cases ho
      · cases ho
    · cases ho
  | multianewarray idx dim => exact im_mw_ok hx hb hdg hme hown hT hK hR hlo hL h hcells hslots kk
  | arraylength =>
    refine rd h fun st' ho kk => ?_
    unfold im_len at ho
    split at ho
    · rename_i hl
      split at ho
      · rename_i k r'
        split at ho
        · rename_i hc
          obtain ⟨h1, h30, hty⟩ := hc
          cases ho
          obtain ⟨ty, hty⟩ := Option.isSome_iff_exists.mp hty
          obtain ⟨cell, g1, g2⟩ := hR.at h1 (Or.inr h30)
          obtain ⟨a1, a2, a3, a4, a5⟩ := g2.arr h30
          exact W.alen hx hb g1 (im_isarr hK hty a1 a3) (by rw [a4]) rfl rfl (by rw [hdg, hl]) kk
        · cases ho
      · cases ho
    · cases ho
  | iaload => exact rd h fun st' ho kk => im_al_ok hK hR ho (fun a j cell v rest hl h1 h2 h3 h4 h5 k => W.iald hx hb h1 h2 h3 h4 h5 rfl rfl (by rw [hdg, hl]) k) kk
  | caload => exact rd h fun st' ho kk => im_al_ok hK hR ho (fun a j cell v rest hl h1 h2 h3 h4 h5 k => W.cald hx hb h1 h2 h3 h4 h5 rfl rfl (by rw [hdg, hl]) k) kk
  | baload => exact rd h fun st' ho kk => im_al_ok hK hR ho (fun a j cell v rest hl h1 h2 h3 h4 h5 k => W.zald hx hb h1 h2 h3 h4 h5 rfl rfl (by rw [hdg, hl]) k) kk
  | laload => exact rd h fun st' ho kk => im_al_ok hK hR ho (fun a j cell v rest hl h1 h2 h3 h4 h5 k => W.lald hx hb h1 h2 h3 h4 h5 rfl rfl (by rw [hdg, hl]) k) kk
  | aaload =>
    refine rd h fun st' ho kk => ?_
    unfold im_al2 at ho
    split at ho
    · rename_i j k r'
      split at ho
      · rename_i ty hty
        split at ho
        · rename_i hrf
          exact im_al_ok hK hR ho (fun a j cell v rest hl h1 h2 h3 h4 h5 k => W.aald hx hb h1 h2 hrf h3 h4 h5 rfl rfl (by rw [hdg, hl]) k) kk
        · cases ho
      · cases ho
    · cases ho
  | iastore =>
    refine wr h fun st' M' ho hc1 hs1 kk => ?_
    unfold im_ai at ho
    split at ho
    · rename_i x j k r'
      split at ho
      · rename_i M2 hM2
        cases ho
        exact im_as_ok hK hR hlo hM2 (w := .int x) rfl (fun cell hl h1 h2 h2' h3 h4 k => W.iast hx hb h1 h2 h3 h4 rfl rfl (by rw [hdg, hl]) k) fun H' locs' q1 q2 => kk H' locs' cells slots q1 q2 (by rw [im_as_tot hM2]) (by rw [im_as_z hM2])
      · cases ho
    · cases ho
  | castore =>
    refine wr h fun st' M' ho hc1 hs1 kk => ?_
    unfold im_ai at ho
    split at ho
    · rename_i x j k r'
      split at ho
      · rename_i M2 hM2
        cases ho
        exact im_as_ok hK hR hlo hM2 (w := narrow .char (.int x)) rfl (fun cell hl h1 h2 h2' h3 h4 k => W.cast hx hb h1 h2 h3 h4 rfl rfl (by rw [hdg, hl]) k) fun H' locs' q1 q2 => kk H' locs' cells slots q1 q2 (by rw [im_as_tot hM2]) (by rw [im_as_z hM2])
      · cases ho
    · cases ho
  | bastore =>
    refine wr h fun st' M' ho hc1 hs1 kk => ?_
    unfold im_ai at ho
    split at ho
    · rename_i x j k r'
      split at ho
      · rename_i M2 hM2
        cases ho
        exact im_as_ok hK hR hlo hM2 (w := narrow .boolean (.int x)) rfl (fun cell hl h1 h2 h2' h3 h4 k => W.zast hx hb h1 h2 h3 h4 rfl rfl (by rw [hdg, hl]) k) fun H' locs' q1 q2 => kk H' locs' cells slots q1 q2 (by rw [im_as_tot hM2]) (by rw [im_as_z hM2])
      · cases ho
    · cases ho
  | lastore =>
    refine wr h fun st' M' ho hc1 hs1 kk => ?_
    unfold im_al64 at ho
    split at ho
    · rename_i x j k r'
      split at ho
      · rename_i M2 hM2
        cases ho
        exact im_as_ok hK hR hlo hM2 (w := .long x) rfl (fun cell hl h1 h2 h2' h3 h4 k => W.last hx hb h1 h2 h3 h4 rfl rfl (by rw [hdg, hl]) k) fun H' locs' q1 q2 => kk H' locs' cells slots q1 q2 (by rw [im_as_tot hM2]) (by rw [im_as_z hM2])
      · cases ho
    · cases ho
  | aastore =>
    refine wr h fun st' M' ho hc1 hs1 kk => ?_
    unfold im_aa at ho
    split at ho
    · rename_i v j k r'
      split at ho
      · rename_i ty hty
        split at ho
        · rename_i hv
          obtain ⟨hv8, hvl, hacp⟩ := hv
          split at ho
          · rename_i M2 hM2
            cases ho
            obtain ⟨cv, v1, v2⟩ := hR.at hvl (Or.inl hv8)
            obtain ⟨h30, C, T, N, hcl, hC⟩ := it_acp_ok hacp hty
            obtain ⟨w1, w2, w3⟩ := v2.obj h30
            obtain ⟨kA, comp, a1, a2, -, a3, -⟩ := hK.2 _ _ hty
            obtain ⟨hS, hfc, kC, hkC, hkind⟩ := hK.1 _ _ hcl
            have hcomp : comp = D.1 (M.2.1 v).1 := Option.some.inj ((a3 C hC).symm.trans hfc)
            refine im_as_ok hK hR hlo hM2 (w := .ref (im_ad base sp v)) rfl (fun cell hl h1 h2 h2' h3 h4 k => W.aast hx hb (comp := comp) (k := kA) (kv := kC) (kcomp := kC) (t := ty) h1 h2.1 h3 (by rw [h2']; exact a1) a2 (by rw [hC]; rfl) (by rw [hcomp]; exact hkC) ⟨fun q => h4 (Or.inl q), Nat.not_le.mp fun q => h4 (Or.inr q)⟩ v1 (by rw [w2]; exact fun q h => by cases h) (by rw [w1]; exact hkC) (by rw [w1, hcomp]; exact va_asg _ _) rfl rfl (by rw [hdg, hl]) k) fun H' locs' q1 q2 => kk H' locs' cells slots q1 q2 (by rw [im_as_tot hM2]) (by rw [im_as_z hM2])
          · cases ho
        · cases ho
      · cases ho
    · cases ho
  | ldc idx =>
    have h' : (if len = 2 then (match it_str y idx with | some k => some (((pc + 2, ls, .ref k :: st) : im_S), M) | none => none) else none) = some (r, M1) := h
    split at h'
    · rename_i hl
      split at h'
      · rename_i k hk
        cases h'
        obtain ⟨tx, hZ⟩ := hY.1 y idx k me hk hme
        have h8 : k < 8 := it_str_ok hk
        refine va_ldcS hx hb hown hZ (by rw [hdg, hl]) ?_
        have := kk H locs lr cells slots hR hlo hL rfl rfl
        simpa only [List.map_cons, im_v, im_ad, h8, if_true] using this
      · cases h'
    · cases h'
  | _ => exact other h
end SOUND
end
section
/-! The abstract machine is right, second part: returns, calls, throws; the theorem. -/
theorem im_catsum {ad : Nat → Nat} {r : List Value} : ((r.map (im_v ad)).map fun v => v.category).sum = (r.map Value.category).sum := by
  rw [List.map_map]
  congr 1
  exact List.map_congr_left fun v _ => im_v_cat ad v
section SOUND2
variable {p : Program} {l : Launch} {e : Env} {R : Room} {s : State} {m : MethodId} {args : Array Value} {below : List Frame} {meth : Method} {c : Code} {H : Heap} {locs : List Loc} {cells slots : Nat} {Q : State → Prop}
variable {D : va_G} {E : Nat → ClassId} {base : Nat} {sp : Nat → Nat} {H0 : Heap} {M : im_M}
/-- how a method ends, in addresses -/
def im_oc (ad : Nat → Nat) : im_O → Outcome
  | .inl v => .returned (v.map (im_v ad))
  | .inr q => .threw (ad q.2)
/-- what is known behind a method -/
def im_Qc (D : va_G) (E : Nat → ClassId) (base : Nat) (sp : Nat → Nat) (H0 : Heap) (o : im_O) (M' : im_M) : Array Value → State → Outcome → State → Prop := fun _ st oc t =>
  oc = im_oc (im_ad base sp) o ∧ im_R it_nf D E base sp H0 M' t.heap ∧ ∀ q, o = .inr q → 8 ≤ q.2 ∧ q.1 < 3 ∧ ∃ cell : Cell, t.heap[im_ad base sp q.2]? = some cell ∧ cell.vm = .none ∧ st.vm.findClass (it_ecn q.1) = some cell.cls
/-- what is known ahead of a method -/
def im_Pc (D : va_G) (E : Nat → ClassId) (base : Nat) (sp : Nat → Nat) (H0 : Heap) (as : List Value) (M : im_M) : Array Value → State → Prop := fun a U =>
  a = (as.map (im_v (im_ad base sp))).toArray ∧ im_R it_nf D E base sp H0 M U.heap ∧ im_T U ∧ im_K it_cl it_aty D E U ∧ (im_Y sp U ∧ im_N U) ∧ im_St H0 base U
abbrev im_free (base : Nat) : Addr → Prop := fun q => base ≤ q
def im_ws (y : Nat) : List Cond := match it_met y with
  | some me => [if me.2.2.2.2 = [] then .code me.1 me.2.1 me.2.2.1 me.2.2.2.1 else .codeWith me.1 me.2.1 me.2.2.1 me.2.2.2.1 me.2.2.2.2]
  | none => []
def im_rm (d mc ms : Nat) : Room := { frames := d + 40, cells := mc, slots := ms, locals := 100 * d + 4000 }
/-- the machine's memory only grows -/
theorem im_rd_mono {pc L : Nat} {ls : List Value} {M M1 : im_M} {o : Option (List Value)} {r : im_S} (h : im_rd pc ls M L o = some (r, M1)) : im_tot M ≤ im_tot M1 ∧ M.1.2.2 ≤ M1.1.2.2 := by
  cases o with
  | none => cases h
  | some st => cases h; exact ⟨Nat.le_refl _, Nat.le_refl _⟩
theorem im_wr_mono {pc L : Nat} {ls : List Value} {M M1 : im_M} {o : Option (List Value × im_M)} {r : im_S} (h : im_wr pc ls L o = some (r, M1)) (k : ∀ st' M', o = some (st', M') → im_tot M ≤ im_tot M' ∧ M.1.2.2 ≤ M'.1.2.2) : im_tot M ≤ im_tot M1 ∧ M.1.2.2 ≤ M1.1.2.2 := by
  cases o with
  | none => cases h
  | some q =>
    obtain ⟨st', M'⟩ := q
    cases h
    exact k st' M' rfl
theorem im_as_mono {ty : FieldType} {len : Nat} {j : Int32} {k : Nat} {v : Value} {M M' : im_M} (h : im_as it_aty ty len j k v M = some M') : im_tot M ≤ im_tot M' ∧ M.1.2.2 ≤ M'.1.2.2 := by
  rw [im_as_tot h, im_as_z h]
  exact ⟨Nat.le_refl _, Nat.le_refl _⟩
theorem im_ns_mono {y len pc : Nat} {i : Instr} {ls st : List Value} {M M1 : im_M} {r : im_S} (h : im_ns y i len pc ls st M = some (r, M1)) : im_tot M ≤ im_tot M1 ∧ M.1.2.2 ≤ M1.1.2.2 := by
  have other : (match im_p i len pc ls st with | some r => some (r, M) | none => none) = some (r, M1) → im_tot M ≤ im_tot M1 ∧ M.1.2.2 ≤ M1.1.2.2 := by
    intro h1
    cases hp : im_p i len pc ls st with
    | none => rw [hp] at h1; cases h1
    | some r' => rw [hp] at h1; cases h1; exact ⟨Nat.le_refl _, Nat.le_refl _⟩
  cases i with
  | getfield idx => exact im_rd_mono h
  | arraylength => exact im_rd_mono h
  | iaload => exact im_rd_mono h
  | caload => exact im_rd_mono h
  | baload => exact im_rd_mono h
  | laload => exact im_rd_mono h
  | aaload => exact im_rd_mono h
  | putfield idx =>
    refine im_wr_mono h fun st' M' ho => ?_
    unfold im_pf at ho
    split at ho
    · split at ho
      · split at ho
        · split at ho
          · cases ho; exact ⟨Nat.le_refl _, Nat.le_refl _⟩
          · cases ho
        · cases ho
      · cases ho
    · cases ho
  | new idx =>
    refine im_wr_mono h fun st' M' ho => ?_
    unfold im_nw at ho
    split at ho
    · split at ho
      · cases ho; simp only [im_tot, im_new]; omega
      · cases ho
    · cases ho
  | newarray a =>
    refine im_wr_mono h fun st' M' ho => ?_
    unfold im_na at ho
    split at ho
    · split at ho
      · split at ho
        · split at ho
          · cases ho; simp only [im_tot, im_new]; omega
          · cases ho
        · cases ho
      · cases ho
    · cases ho
  | anewarray idx =>
    refine im_wr_mono h fun st' M' ho => ?_
    unfold im_aw at ho
    split at ho
    · split at ho
      · split at ho
        · split at ho
          · cases ho; simp only [im_tot, im_new]; omega
          · cases ho
        · cases ho
      · cases ho
    · cases ho
  | multianewarray idx dim =>
    refine im_wr_mono h fun st' M' ho => ?_
    unfold im_mw at ho
    split at ho
    · split at ho
      · split at ho
        · cases ho; simp only [im_tot, im_new]; omega
        · cases ho
      · cases ho
    · cases ho
  | iastore =>
    refine im_wr_mono h fun st' M' ho => ?_
    unfold im_ai at ho
    split at ho
    · split at ho
      · rename_i h2; cases ho; exact im_as_mono h2
      · cases ho
    · cases ho
  | castore =>
    refine im_wr_mono h fun st' M' ho => ?_
    unfold im_ai at ho
    split at ho
    · split at ho
      · rename_i h2; cases ho; exact im_as_mono h2
      · cases ho
    · cases ho
  | bastore =>
    refine im_wr_mono h fun st' M' ho => ?_
    unfold im_ai at ho
    split at ho
    · split at ho
      · rename_i h2; cases ho; exact im_as_mono h2
      · cases ho
    · cases ho
  | lastore =>
    refine im_wr_mono h fun st' M' ho => ?_
    unfold im_al64 at ho
    split at ho
    · split at ho
      · rename_i h2; cases ho; exact im_as_mono h2
      · cases ho
    · cases ho
  | aastore =>
    refine im_wr_mono h fun st' M' ho => ?_
    unfold im_aa at ho
    split at ho
    · split at ho
      · split at ho
        · split at ho
          · rename_i h2; cases ho; exact im_as_mono h2
          · cases ho
        · cases ho
      · cases ho
    · cases ho
  | ldc idx =>
    have h' : (if len = 2 then (match it_str y idx with | some k => some (((pc + 2, ls, .ref k :: st) : im_S), M) | none => none) else none) = some (r, M1) := h
    split at h'
    · split at h'
      · cases h'; exact ⟨Nat.le_refl _, Nat.le_refl _⟩
      · cases h'
    · cases h'
  | _ => exact other h
theorem im_run_mono : ∀ (n d y pc : Nat) (ls st : List Value) (M : im_M) (o : im_O) (M' : im_M), im_run n d y pc ls st M = some (o, M') → im_tot M ≤ im_tot M' ∧ M.1.2.2 ≤ M'.1.2.2 := by
  intro n
  induction n with
  | zero => intro d y pc ls st M o M' h; cases h
  | succ n ih =>
    intro d y pc ls st M o M' h
    rw [im_run] at h
    unfold im_F at h
    split at h
    · cases h
    · split at h
      · cases h; exact ⟨Nat.le_refl _, Nat.le_refl _⟩
      · split at h
        · split at h
          · cases h
            simp only [im_tot, im_dead]
            omega
          · cases h
        · split at h
          · exact ih _ _ _ _ _ _ _ _ h
          · split at h
            · split at h
              · cases h
              · split at h
                · split at h
                  · rename_i hz
                    have h1 := ih _ _ _ _ _ _ _ _ hz
                    have h2 := ih _ _ _ _ _ _ _ _ h
                    omega
                  · rename_i hz
                    have h1 := ih _ _ _ _ _ _ _ _ hz
                    split at h
                    · have h2 := ih _ _ _ _ _ _ _ _ h
                      omega
                    · split at h
                      · cases h; exact h1
                      · cases h
                  · cases h
                · cases h
            · split at h
              · rename_i hz
                have h1 := im_ns_mono hz
                have h2 := ih _ _ _ _ _ _ _ _ h
                omega
              · cases h
theorem im_dec_ok {y pc len : Nat} {i : Instr} {me : it_Me} (hme : it_met y = some me) (h : im_dec y pc = some (i, len)) : decode me.2.1 pc = .ok (i, len) := by
  unfold im_dec at h
  rw [hme] at h
  simp only at h
  split at h
  · rename_i q hq
    cases h
    exact hq
  · cases h
/-- a return -/
theorem im_ret_ok {y d pc len mc ms : Nat} {i : Instr} {st : List Value} {lr : Array Slot} {v : Option Value} (hC : im_Cx D E sp d y p l R s m meth c) (hR : im_R it_nf D E base sp H0 M H) (hlo : ∀ q ∈ locs, base ≤ q.base)
    (hdg : decode c.code pc = .ok (i, len)) (h : im_ret y i len st = some v) (hc : cells = mc) (hs : slots = ms) :
    W p l e R s m args below meth c H locs cells slots (im_MQ below (im_Qc D E base sp H0 (.inl v) M) args s mc ms (im_free base)) (F0 m pc lr (st.map (im_v (im_ad base sp)))) := by
  subst hc; subst hs
  obtain ⟨me, hme, hx, hb, hml, hown, hret, hlocks, hname, hexc, htr, hT, hK, hY, hfr, hlc⟩ := hC
  unfold im_ret at h
  rw [hme] at h
  simp only at h
  have hq : ∀ t : State, t.heap = H → s.WarmedH t.vm → im_Qc D E base sp H0 (.inl v) M args s (.returned (v.map (im_v (im_ad base sp)))) t := fun t ht _ => ⟨rfl, by rw [ht]; exact hR, fun q hq => by cases hq⟩
  split at h
  · split at h
    · rename_i hl
      split at h
      · rename_i x ty hty
        split at h
        · rename_i hn
          cases h
          exact im_Wof (fun t => im_MQ.of) (W.zret hx hb (by rw [hret]; exact hty) hn.1 hq hlo (by rw [← hb, hdg, hl]) hlocks)
        · cases h
      · cases h
    · cases h
  · split at h
    · rename_i hl
      split at h
      · rename_i k ty hty
        split at h
        · rename_i hrf
          cases h
          exact im_Wof (fun t => im_MQ.of) (W.aret (v := .ref (im_ad base sp k)) hx hb (by rw [hret]; exact hty) (by cases ty <;> first | exact Or.inl ⟨_, rfl⟩ | exact Or.inr ⟨_, rfl⟩ | cases hrf) (Or.inr ⟨_, rfl⟩) hq hlo (by rw [← hb, hdg, hl]) hlocks)
        · cases h
      · cases h
    · cases h
  · split at h
    · rename_i hl
      split at h
      · rename_i hty
        cases h
        exact im_Wof (fun t => im_MQ.of) (W.vret hx hb (by rw [hret]; exact hty) hq hlo (by rw [← hb, hdg, hl]) hlocks)
      · cases h
    · cases h
  · cases h
/-- Object.<init>, String.indexOf -/
theorem im_prim_ok {y d pc len : Nat} {i : Instr} {ls st st' : List Value} {lr : Array Slot} (hC : im_Cx D E sp d y p l R s m meth c) (hSt : im_St H0 base s) (hR : im_R it_nf D E base sp H0 M H) (hlo : ∀ q ∈ locs, base ≤ q.base) (hL : im_L (im_ad base sp) (im_max y) ls lr)
    (hdg : decode c.code pc = .ok (i, len)) (h : im_prim y i len st M = some st') (hrc : cells ≤ R.cells) (hrs : slots ≤ R.slots)
    (kk : W p l e R s m args below meth c H locs cells slots Q (F0 m (pc + 3) lr (st'.map (im_v (im_ad base sp))))) : W p l e R s m args below meth c H locs cells slots Q (F0 m pc lr (st.map (im_v (im_ad base sp)))) := by
  obtain ⟨me, hme, hx, hb, hml, hown, hret, hlocks, hname, hexc, htr, hT, hK, hY, hfr, hlc⟩ := hC
  have hmax : im_max y = me.2.2.1 := by unfold im_max; rw [hme]
  unfold im_prim at h
  split at h
  · rename_i hl
    subst hl
    split at h
    · rename_i idx
      split at h
      · rename_i ho
        split at h
        · rename_i k r
          split at h
          · rename_i hr
            cases h
            obtain ⟨w1, w2, w3⟩ := it_obi_ok ho hme
            have hcs : ((st'.map (im_v (im_ad base sp))).map fun v => v.category).sum ≤ 8 := by rw [im_catsum]; exact hr
            refine W.objInit hx rfl hown (hT _ w1 _) (hT _ w2 _) (hT _ w3 _) rfl (by show lr.size = c.maxLocals; rw [hL.size, hml]; exact hmax) (a := im_ad base sp k) (rest := st'.map (im_v (im_ad base sp))) rfl hdg (by omega) (by show 2 * 0 + _ + 12 ≤ _; omega) kk
          · cases h
        · cases h
      · cases h
    · rename_i idx
      split at h
      · rename_i ho
        split at h
        · rename_i b a r
          split at h
          · rename_i hr
            cases h
            obtain ⟨w1, w2, w3, w4⟩ := it_mxx_ok ho hme
            have hcs : ((r.map (im_v (im_ad base sp))).map fun v => v.category).sum ≤ 8 := by rw [im_catsum]; exact hr
            exact va_mmax hx rfl (by rw [hL.size, hml]; exact hmax.symm) hown (hT _ w1 _) (hT _ w2 _) (hT _ w3 _) (hT _ w4 _) (by omega) (by omega) hrc hrs hdg kk
          · cases h
        · cases h
      · cases h
    · cases h
  · cases h
end SOUND2
end
section
/-! Throws: 'throw new E("text")' out of a method, and a throw of a callee that is caught by the caller's own table. -/
/-- the words of 'throw new E(text)' -/
def it_nms : List String := ["java/lang/RuntimeException", "java/lang/Exception"]
def it_hw (w : Cond) : Bool := decide (w = .isRef (.static Jvm.Bundle.tN "UNASSIGNED_STACK" Jvm.Bundle.steD)) || decide (w = .isRef (.static Jvm.Bundle.tN "SUPPRESSED_SENTINEL" Jvm.Bundle.listD)) || decide (w = .laysStatic Jvm.Bundle.tN "UNASSIGNED_STACK" Jvm.Bundle.steD) || decide (w = .laysStatic Jvm.Bundle.tN "SUPPRESSED_SENTINEL" Jvm.Bundle.listD)
theorem it_own3 : ([(90, 0), (101, 1), (158, 2)] : List (Nat × Nat)).all (fun q => (Jvm.Bundle.ownAtoms "IssueFold" q.1 (it_ecn q.2) it_nms).all (fun w => (decide (w ∈ lw_tbl) && it_mv w) || it_hw w)) = true := by decide +kernel
def it_thc (r : ((Nat × Nat) × (Nat × Nat × Nat × Nat × String)) × Nat × Nat × Nat) : Bool := match it_met r.1.1.1 with
  | some me => decide (decode me.2.1 r.1.1.2 = .ok (.new r.1.2.2.1, 3)) && decide (decode me.2.1 (r.1.1.2 + 3) = .ok (.dup, 1)) && decide (decode me.2.1 (r.1.1.2 + 4) = .ok (.ldc r.1.2.2.2.1, 2)) && decide (decode me.2.1 (r.1.1.2 + 6) = .ok (.invokespecial r.1.2.2.2.2.1, 3)) && decide (decode me.2.1 (r.1.1.2 + 9) = .ok (.athrow, 1)) &&
    Jvm.Bundle.fit (it_ecn r.1.2.1) && it_wd r.2.1 (.classLink me.1.cls r.1.2.2.1 (it_ecn r.1.2.1)) && it_wd r.2.2.1 (.initialized (it_ecn r.1.2.1)) && it_wd r.2.2.2 (.stringRef me.1.cls r.1.2.2.2.1 r.1.2.2.2.2.2) && decide (me.1.cls = "IssueFold") && decide (me.2.2.2.2 = []) && decide ((r.1.2.2.2.2.1, r.1.2.1) ∈ ([(90, 0), (101, 1), (158, 2)] : List (Nat × Nat)))
  | none => false
theorem it_th_all : it_ths.all it_thc = true := by decide +kernel
theorem it_nms_fit : ∀ n ∈ it_nms, Jvm.Bundle.fit n = true := by decide +kernel
theorem it_thr_ok {y pc ec : Nat} {me : it_Me} (h : it_thr y pc = some ec) (hme : it_met y = some me) : ∃ (ik is ic : Nat) (tx : String) (names : List String), decode me.2.1 pc = .ok (.new ik, 3) ∧ decode me.2.1 (pc + 3) = .ok (.dup, 1) ∧ decode me.2.1 (pc + 4) = .ok (.ldc is, 2) ∧ decode me.2.1 (pc + 6) = .ok (.invokespecial ic, 3) ∧ decode me.2.1 (pc + 9) = .ok (.athrow, 1) ∧
    Jvm.Bundle.fit (it_ecn ec) = true ∧ (∀ n ∈ names, Jvm.Bundle.fit n = true) ∧ (names.length ≤ 5 ∧ ec < 3) ∧ Cond.classLink me.1.cls ik (it_ecn ec) ∈ it_tb ∧ Cond.initialized (it_ecn ec) ∈ it_tb ∧ Cond.stringRef me.1.cls is tx ∈ it_tb ∧
    (∀ w ∈ Jvm.Bundle.ownAtoms me.1.cls ic (it_ecn ec) names, w ∈ it_tb ∨ w = .isRef (.static Jvm.Bundle.tN "UNASSIGNED_STACK" Jvm.Bundle.steD) ∨ w = .isRef (.static Jvm.Bundle.tN "SUPPRESSED_SENTINEL" Jvm.Bundle.listD) ∨ w = .laysStatic Jvm.Bundle.tN "UNASSIGNED_STACK" Jvm.Bundle.steD ∨ w = .laysStatic Jvm.Bundle.tN "SUPPRESSED_SENTINEL" Jvm.Bundle.listD) ∧ me.2.2.2.2 = [] := by
  unfold it_thr at h
  rw [Option.map_eq_some_iff] at h
  obtain ⟨q, hq, rfl⟩ := h
  obtain ⟨r, hr, he⟩ := List.mem_map.mp (it_lk hq)
  have h1 := List.all_eq_true.mp it_th_all r hr
  unfold it_thc at h1
  rw [he] at h1
  simp only [hme, Bool.and_eq_true, decide_eq_true_eq] at h1
  obtain ⟨⟨⟨⟨⟨⟨⟨⟨⟨⟨⟨d0, d3⟩, d4⟩, d6⟩, d9⟩, hf⟩, w1⟩, w2⟩, w3⟩, hc⟩, hn⟩, hm⟩ := h1
  have hlt : q.1 < 3 := by
    simp only [List.mem_cons, Prod.mk.injEq, List.not_mem_nil, or_false] at hm
    omega
  refine ⟨_, _, _, _, it_nms, d0, d3, d4, d6, d9, hf, it_nms_fit, ⟨by decide, hlt⟩, it_wd_in w1, it_wd_in w2, it_wd_in w3, fun w hw => ?_, hn⟩
  have h2 := List.all_eq_true.mp it_own3 _ hm
  rw [hc] at hw
  have h3 := List.all_eq_true.mp h2 w hw
  simp only [Bool.or_eq_true, Bool.and_eq_true, decide_eq_true_eq, it_hw] at h3
  rcases h3 with h3 | ((h3 | h3) | h3) | h3
  · exact Or.inl (List.mem_filter.mpr ⟨List.mem_cons_of_mem _ h3.1, h3.2⟩)
  · exact Or.inr (Or.inl h3)
  · exact Or.inr (Or.inr (Or.inl h3))
  · exact Or.inr (Or.inr (Or.inr (Or.inl h3)))
  · exact Or.inr (Or.inr (Or.inr (Or.inr h3)))
theorem it_ct_all : (List.range 125).all (fun y => match it_met y with | some me => me.2.2.2.2.all (fun h => decide (h.2.2.2 ≠ 0) && (match it_cts.lookup h.2.2.2 with | some q => decide (q.1 < 3) && it_wd q.2 (.classLink me.1.cls h.2.2.2 (it_ecn q.1)) | none => false)) | none => false) = true := by decide +kernel
theorem it_cs_all : it_cas2.all (fun q => it_wd q.2 (.castable (it_ecn q.1) (it_ecn q.1))) && decide (it_cas2.map (·.1) = [0, 1, 2]) = true := by decide +kernel
theorem it_castable {e : Nat} (h : e < 3) : Cond.castable (it_ecn e) (it_ecn e) ∈ it_tb := by
  have hw := it_cs_all
  simp only [Bool.and_eq_true, decide_eq_true_eq] at hw
  have h1 : e ∈ it_cas2.map (·.1) := by
    rw [hw.2]
    simp only [List.mem_cons, List.not_mem_nil, or_false]
    omega
  obtain ⟨q, hq, rfl⟩ := List.mem_map.mp h1
  exact it_wd_in (List.all_eq_true.mp hw.1 q hq)
theorem it_cat_ok {y ec : Nat} {h : Nat × Nat × Nat × Nat} {me : it_Me} (hme : it_met y = some me) (hh : h ∈ me.2.2.2.2) (hec : ec < 3) : h.2.2.2 ≠ 0 ∧ ∃ nm, Cond.classLink me.1.cls h.2.2.2 nm ∈ it_tb ∧ (it_cat y h.2.2.2 ec = true → Cond.castable (it_ecn ec) nm ∈ it_tb) ∧ (it_cat y h.2.2.2 ec = false → ∀ s, im_N s → va_Nc (it_ecn ec) nm s) := by
  have h1 := List.all_eq_true.mp it_ct_all y (List.mem_range.mpr (it_met_lt hme))
  rw [hme] at h1
  have h2 := List.all_eq_true.mp h1 h hh
  simp only [Bool.and_eq_true, decide_eq_true_eq] at h2
  obtain ⟨h3, h4⟩ := h2
  refine ⟨h3, ?_⟩
  split at h4
  · rename_i q hq
    simp only [Bool.and_eq_true, decide_eq_true_eq] at h4
    refine ⟨it_ecn q.1, it_wd_in h4.2, fun hc => ?_, fun hc s hN => ?_⟩
    · unfold it_cat at hc
      simp only [hq, beq_iff_eq] at hc
      rw [hc]
      exact it_castable hec
    · unfold it_cat at hc
      simp only [hq, beq_eq_false_iff_ne, ne_eq] at hc
      exact hN ec q.1 hec h4.1 (fun e => hc e.symm)
  · cases h4
theorem im_Sl.moved {C n d : String} {H0 : Heap} {u U : State} (hvm : u.vm.Alike U.vm) (h : im_Sl C n d H0 u) : im_Sl C n d H0 U := by
  obtain ⟨h0, c, k, i, f, a, cell, h1, h2, h3, h4, h5, h6, h7, h8, h9⟩ := h
  obtain ⟨k', hi', he⟩ := State.fieldFound?_setVm hvm h2
  exact ⟨va_Zq.moved hvm h0, c, k', i, f, a, cell, by rw [hvm.findClass]; exact h1, hi', h3, by rw [he]; exact h4, h5, h6, h7, h8, by rw [he]; exact h9⟩
theorem im_Sf.moved {H0 : Heap} {u U : State} (hvm : u.vm.Alike U.vm) (h : im_Sf H0 u) : im_Sf H0 U := ⟨h.1.moved hvm, h.2.moved hvm⟩
theorem im_Sl.words {C n d : String} {H0 : Heap} {base : Nat} {s : State} {args : Array Value} (h : im_Sl C n d H0 s) (hA : im_A base H0 s.heap) : (Cond.laysStatic C n d).before args s = true ∧ (Cond.isRef (.static C n d)).before args s = true := by
  obtain ⟨h0, c, k, i, f, a, cell, h1, h2, h3, h4, h5, h6, h7, h8, h9⟩ := h
  obtain ⟨e1, e2, e3⟩ := hA
  have hin : s.heap[a]? = some cell := by rw [e2 a (by rw [← e1]; exact (Array.getElem?_eq_some_iff.mp h5).1)]; exact h5
  refine ⟨Cond.laysStatic_of h1 h2 h3 h4 hin h6 h7 h8 h9, ?_⟩
  have key : ∀ v : Value, va_Z C n d v (fun q => H0.size ≤ q) s H0 → v.isRef = true → (Cond.isRef (.static C n d)).before args s = true := by
    intro v hz hv
    obtain ⟨cf, kf, fi, fd, b, cb, g1, g2, g3, g4, g5, g6, g7, -⟩ := hz
    have hin2 : s.heap[b]? = some cb := by rw [e2 b (by rw [← e1]; exact (Array.getElem?_eq_some_iff.mp g5).1)]; exact g5
    have he : (Term.static C n d).eval args s none [] s = some v := by
      simp [Term.eval, State.fieldNamed?, g1, g2, g4, hin2, g6, g7]
    simp only [Cond.before, Cond.holds, Cond.value, he]
    cases v <;> simp_all [Value.isRef]
  rcases h0 with h0 | ⟨t, h0⟩
  · exact key _ h0 rfl
  · exact key _ h0 rfl
section THROWS
variable {p : Program} {l : Launch} {e : Env} {R : Room} {s : State} {m : MethodId} {args : Array Value} {below : List Frame} {meth : Method} {c : Code} {H : Heap} {locs : List Loc} {cells slots : Nat} {Q : State → Prop}
variable {D : va_G} {E : Nat → ClassId} {base : Nat} {sp : Nat → Nat} {H0 : Heap} {M : im_M}
/-- a frame as if its method had been called in the heap as it is now -/
theorem im_rebase {T : State} (X : Stand p l e R s m args below meth c T locs cells slots) {k n : Nat} (hc : cells + k ≤ R.cells) (hs : slots + n ≤ R.slots) :
    Stand p l e { frames := R.frames, cells := k, slots := n, locals := R.locals } ((T.setVm s.vm).setFrames (.invoking m args :: below)) m args below meth c T [] 0 0 := by
  have htop : (T.setVm s.vm).topJava?.isSome := X.here.top
  have hF : ((T.setVm s.vm).setFrames (.invoking m args :: below)).frames = .invoking m args :: below := State.frames_setFrames _ (State.cur_lt_of_top htop)
  obtain ⟨g₀, hg0⟩ := Option.isSome_iff_exists.mp htop
  obtain ⟨r, hr⟩ := State.topJava?_eq_some.mp hg0
  have q1 := X.heapSize
  have q2 := X.used
  have hl9 : e.platform.stackLimits (T.setVm s.vm).me = e.platform.stackLimits s.me := X.limits
  have hb9 : (T.setVm s.vm).me.stackBytes = s.me.stackBytes := X.bytes
  have hdrop : ((T.heap.toList.drop T.heap.size).map (·.slots.size)).sum = 0 := by
    rw [List.drop_eq_nil_of_le (Nat.le_of_eq Array.length_toList)]; rfl
  have hroom : ((T.setVm s.vm).setFrames (.invoking m args :: below)).hasRoom e.platform { frames := R.frames, cells := k, slots := n, locals := R.locals } = true := by
    have h := X.room
    have hU : ((T.setVm s.vm).setFrames (.invoking m args :: below)).localsInUse = s.localsInUse := by
      rw [State.localsInUse_invoking hF (meth := meth) (c := c) X.method X.code, State.localsInUse_invoking X.frames X.method X.code]
    simp only [State.hasRoom, Bool.and_eq_true, decide_eq_true_eq] at h ⊢
    obtain ⟨⟨⟨⟨h1, h2, h3, h4, h5, h6⟩, h7⟩, h8⟩, h9⟩ := h
    rw [X.frames, List.length_cons] at h2 h3
    simp only [hF, hU, List.length_cons, State.stackLimits_setFrames, State.stackBytes_setFrames, hl9, hb9]
    refine ⟨⟨⟨⟨h1, h2, h3, h4, h5, h6⟩, ?_⟩, ?_⟩, X.book⟩
    · show T.heap.size + k ≤ e.platform.maxCells
      omega
    · show T.slotsUsed + n ≤ e.platform.maxSlots
      omega
  refine ⟨X.admits, X.cas, X.clock, hF, hroom, X.hears, X.method, X.code, X.here, X.tail, X.warmed, ?_, ?_, ?_⟩
  · rw [State.stackLimits_setFrames]; rfl
  · rw [State.stackBytes_setFrames]; rfl
  · obtain ⟨t, ht, -⟩ := State.frames_cons hr
    refine ⟨?_, Nat.le_refl _, Nat.le_refl _, ?_, Nat.le_of_eq hdrop, fun a c9 h9 => ⟨c9, h9, rfl, rfl, fun _ _ => rfl⟩⟩
    · show T.setVm s.vm = { ((T.setVm s.vm).setFrames (.invoking m args :: below)).setFrames (T.setVm s.vm).frames with heap := T.heap, slotsUsed := T.slotsUsed }
      rw [State.setFrames_setFrames, State.setFrames_self ht]
      rfl
    · show T.slotsUsed = T.slotsUsed + ((T.heap.toList.drop T.heap.size).map (·.slots.size)).sum
      rw [hdrop]; rfl
/-- nothing written: the old cells are as they were -/
theorem im_sameold {A B : State} {k n : Nat} (h : A.sameButNew B [] k n) {q : Nat} (hq : q < A.heap.size) : B.heap[q]? = A.heap[q]? := by
  obtain ⟨-, -, -, -, -, h6⟩ := h
  obtain ⟨c9, e1, e2, e3, e4⟩ := h6 q _ (Array.getElem?_eq_getElem hq)
  have hs : c9.slots = (A.heap[q]).slots := Array.ext_getElem? fun i => e4 i (fun hm => by cases hm)
  rw [hs] at e2
  rw [e1, e2, Array.getElem?_eq_getElem hq]
theorem im_thr_ok {y d pc ec mc ms : Nat} {st : List Value} {lr : Array Slot} (hC : im_Cx D E sp d y p l R s m meth c) (hSt : im_St H0 base s) (hR : im_R it_nf D E base sp H0 M H) (hlo : ∀ q ∈ locs, base ≤ q.base) (hsz : lr.size = c.maxLocals)
    (h : it_thr y pc = some ec) (hst : (st.map Value.category).sum ≤ 8) (hrc : cells + 1 ≤ R.cells) (hrs : slots + 6 ≤ R.slots) (hc : cells + 1 = mc) (hs : slots + 6 = ms) :
    W p l e R s m args below meth c H locs cells slots (im_MQ below (im_Qc D E base sp H0 (.inr (ec, im_tot M)) (im_dead M 1 6)) args s mc ms (im_free base)) (F0 m pc lr (st.map (im_v (im_ad base sp)))) := by
  obtain ⟨me, hme, hx, hb, hml, hown, hret, hlocks, hname, hexc, htr, hT, hK, hY, hfr, hlc⟩ := hC
  obtain ⟨ik, is, ic, tx, names, d0, d3, d4, d6, d9, hf1, hf2, hn, hkl, hini, hstr, hwd, hnil⟩ := it_thr_ok h hme
  have hnilc : c.exceptionTable.toList = [] := by
    rw [hnil] at hexc
    exact List.map_eq_nil_iff.mp hexc
  intro T hTH X
  have htr' : e.platform.stackTraces = false := (show e.platform.stackTraces = l.stackTraces by rw [X.admits.platform]).trans htr
  have Y := im_rebase X (k := 1) (n := 6) hrc hrs
  obtain ⟨s', hA⟩ : ∃ z, z = (T.setVm s.vm).setFrames (.invoking m args :: below) := ⟨_, rfl⟩
  rw [← hA] at Y
  have hvm : s'.vm = s.vm := by rw [hA]; rfl
  have hhp : s'.heap = H := by rw [hA]; exact hTH
  have hW0 : s.WarmedH s'.vm := by rw [hvm]; exact State.WarmedH.refl s
  have hT' : im_T s' := fun w hw A => it_tb_word hW0 hw (hT w hw A)
  have hA' : im_A base H0 s'.heap := by rw [hhp]; exact ⟨hSt.1.1, hR.2.2.1, hR.2.2.2.2.1⟩
  have hSf := hSt.2.moved hW0.alike
  have hat : ∀ w ∈ Jvm.Bundle.ownAtoms me.1.cls ic (it_ecn ec) names, w.before args s' = true := by
    intro w hw
    rcases hwd w hw with h1 | h1 | h1 | h1 | h1
    · exact hT' w h1 _
    · rw [h1]; exact (hSf.1.words hA').2
    · rw [h1]; exact (hSf.2.words hA').2
    · rw [h1]; exact (hSf.1.words hA').1
    · rw [h1]; exact (hSf.2.words hA').1
  have hown' : s'.vm.findClass me.1.cls = some m.cls := by rw [hvm]; exact hown
  have hins : (Cond.instantiable (it_ecn ec) 6).before args s' = true := hat _ (by simp [Jvm.Bundle.ownAtoms])
  obtain ⟨sa, hsa⟩ : ∃ sa, vk_R me.1.cls is tx sa s' := im_strref (hT' _ hstr #[])
  have hb0 : decode c.code pc = .ok (.new ik, 3) := by rw [hb]; exact d0
  have hb3 : decode c.code (pc + 3) = .ok (.dup, 1) := by rw [hb]; exact d3
  have hb4 : decode c.code (pc + 4) = .ok (.ldc is, 2) := by rw [hb]; exact d4
  obtain ⟨vm₁, cX, kX, hfX, hkX, -, -, X₁, st1⟩ := Y.newCold hx (own := me.1.cls) (C := it_ecn ec) (index := ik) (n := 6) hown' (hT' _ hkl _) hins (hT' _ hini _)
    (g := F0 m pc lr (st.map (im_v (im_ad base sp)))) rfl hb0 (Nat.le_refl _) (Nat.le_refl _)
  generalize hT1 : (T.setVm vm₁).pushCell { cls := cX, slots := kX.instanceTypes.map defaultValue, vm := .none } = T1 at X₁ st1
  have hcellA : T1.heap[T.heap.size]? = some (freshCell cX kX) := by rw [← hT1]; exact State.heap_pushCell_size _ _
  have hcs : ((st.map (im_v (im_ad base sp))).map fun v => v.category).sum ≤ 8 := by rw [im_catsum]; exact hst
  have hcat : (Value.ref T.heap.size).category = 1 := rfl
  obtain ⟨U, hsteps, hrun, hend, hW, hsame, ce, hce, hO⟩ := X₁.ctorThrowS hx htr' (own := me.1.cls) (cls := it_ecn ec) (names := names) (ic := ic) hown' hf1 hf2 hat (fun x hx => nomatch hx) hfX hkX hcellA (by rw [hhp, hTH]; exact Nat.le_refl _) (msg := .ref sa) rfl
    (g := { method := m, pc := pc + 6, locals := lr, stack := .ref sa :: .ref T.heap.size :: .ref T.heap.size :: st.map (im_v (im_ad base sp)), locked := none }) rfl hsz rfl rfl (rest := st.map (im_v (im_ad base sp))) rfl
    (by rw [hb]; exact d6) (by rw [hb]; exact d9) (by rw [hnilc]; intro x hx'; cases hx') (by have := hn.1; show names.length + 3 < R.frames; omega) (by show 2 * 0 + _ + _ ≤ R.locals; simp only [List.map_cons, List.sum_cons, hcat]; have := hn.1; omega) hlocks
  have hsame' : s'.sameButNew ({ U with vm := s'.vm } : State) [] 1 6 := by simpa using hsame
  have hold : ∀ q, q < H.size → U.heap[q]? = H[q]? := fun q hq => by
    have := im_sameold hsame' (q := q) (by rw [hhp]; exact hq)
    rw [hhp] at this
    exact this
  have hz : U.heap.size = H.size + 1 := by
    have h1 : U.heap.size ≤ s'.heap.size + 1 := hsame'.2.2.1
    have h2 : T.heap.size < U.heap.size := (Array.getElem?_eq_some_iff.mp hce).1
    rw [hhp] at h1
    rw [hTH] at h2
    omega
  have had : im_ad base sp (im_tot M) = T.heap.size := by
    have h8 := hR.1
    have h2 := hR.2.1
    have h9 : 8 ≤ im_tot M := by unfold im_tot; omega
    rw [im_ad_own h9, hTH]
    omega
  have hall : s.sameButNew ({ U with vm := s.vm } : State) locs mc ms := by
    subst hA
    obtain ⟨e1, e2⟩ := hsame'
    rw [State.setFrames_setFrames] at e1
    have h2 : (T.setVm s.vm).sameButNew ({ U with vm := s.vm } : State) [] 1 6 := ⟨e1, e2⟩
    have h3 := X.same.trans h2
    rw [List.append_nil, hc, hs] at h3
    exact h3
  have hWs : s.WarmedH U.vm := State.WarmedH.trans hW0 hW
  refine ⟨U, st1 _ ?_, .threw T.heap.size, hrun, hend, ⟨by rw [← had]; rfl, hR.dead hz hold (fun q c9 hq hc9 => ?_), fun q hq => ?_⟩, locs, ⟨hWs, hall⟩, hlo⟩
  · show Steps p.tables e below (T1.setTop { method := m, pc := pc + 3, locals := lr, stack := .ref T.heap.size :: st.map (im_v (im_ad base sp)), locked := none }) _
    jvm_step X₁.here [X₁.here.top, hx, hb3, Value.category]
    exact X₁.ldcString hx (own := me.1.cls) (text := tx) (index := is) (a := sa) hown' hsa.1 hsa.2
      (g := { method := m, pc := pc + 4, locals := lr, stack := .ref T.heap.size :: .ref T.heap.size :: st.map (im_v (im_ad base sp)), locked := none }) rfl hb4 _ hsteps
  · have hlt : q < U.heap.size := (Array.getElem?_eq_some_iff.mp hc9).1
    have hqe : q = T.heap.size := by rw [hTH]; omega
    subst hqe
    cases hce.symm.trans hc9
    rw [hO.vm]; rfl
  · cases hq
    refine ⟨by have := hR.1; show 8 ≤ im_tot M; unfold im_tot; omega, hn.2, ce, by rw [had]; exact hce, hO.vm, ?_⟩
    have h9 := hO.cls
    rw [hvm] at h9
    exact h9
/-- one row of a table that names a class, resolved or not -/
theorem im_fh {e : Env} {dd : Bool} {acts : List Action} {S : State} {f : JFrame} {a : Addr} {Qh : Handler → Pre} {Ec : CtlPost} {x : ExceptionTableEntry} {t : List ExceptionTableEntry} {k : ClassId} {cell : Cell} (hx : covers x f.pc = true) (h0 : x.catchType ≠ 0)
    (hl : S.vm.ClassLinks e.platform f.method.cls x.catchType k) (hcell : S.heap[a]? = some cell) (hobj : ∀ q, cell.vm ≠ .statics q) (hk : ∃ q, S.vm.classes[cell.cls]? = some q) (hc : ∃ q, S.vm.classes[k]? = some q) :
    wp (findHandler.go f a (x :: t)) Qh Ec e dd acts S ↔ if S.vm.assignable cell.cls k = true then Qh (.found x.handlerPc) dd acts (S.setVm (S.vm.noted f.method.cls x.catchType (.cls k))) else wp (findHandler.go f a t) Qh Ec e dd acts (S.setVm (S.vm.noted f.method.cls x.catchType (.cls k))) := by
  simp only [covers] at hx
  obtain ⟨ha, ht⟩ := (resolveClass_links e.toSetting hl).op (op := VmOp.resolveClass f.method.cls x.catchType) rfl
  have hal : S.vm.Alike (S.vm.noted f.method.cls x.catchType (.cls k)) := (Vm.Alike.refl S.vm).noted _ _ _
  obtain ⟨k1, hk1⟩ := hk
  obtain ⟨k2, hk2⟩ := hc
  obtain ⟨k1', hk1', -⟩ := hal.2.2 _ _ hk1
  obtain ⟨k2', hk2', -⟩ := hal.2.2 _ _ hk2
  have has : (S.vm.noted f.method.cls x.catchType (.cls k)).assignable cell.cls k = S.vm.assignable cell.cls k := hal.assignable _ _
  cases hfit : S.vm.assignable cell.cls k <;> rw [hfit] at has <;>
    simp [findHandler.go, hx, h0, ha, ht, hcell, hobj, hk1', hk2', has, VmOp.dirties, VmOp.acts]
/-- a row is passed, a row catches -/
def im_pass (pl : Platform) (s : State) (d : ClassId) (pc : Nat) (th : ClassId) (y : ExceptionTableEntry) : Prop := covers y pc = false ∨ (y.catchType ≠ 0 ∧ ∃ k, s.vm.ClassLinks pl d y.catchType k ∧ s.vm.assignable th k = false)
theorem im_fhs {e : Env} {s : State} {f : JFrame} {a : Addr} {cell : Cell} (hobj : ∀ q, cell.vm ≠ .statics q) (hk0 : ∃ q, s.vm.classes[cell.cls]? = some q) (x : ExceptionTableEntry) (suf : List ExceptionTableEntry) (hx : covers x f.pc = true) (h0 : x.catchType ≠ 0) {k : ClassId} (hl : s.vm.ClassLinks e.platform f.method.cls x.catchType k) (hfit : s.vm.assignable cell.cls k = true) :
    ∀ (pre : List ExceptionTableEntry) (S : State), s.WarmedH S.vm → S.heap[a]? = some cell → (∀ y ∈ pre, im_pass e.platform s f.method.cls f.pc cell.cls y) →
      ∃ vm', s.WarmedH vm' ∧ ∀ (Qh : Handler → Pre) (Ec : CtlPost) (dd : Bool) (acts : List Action), wp (findHandler.go f a (pre ++ x :: suf)) Qh Ec e dd acts S ↔ Qh (.found x.handlerPc) dd acts (S.setVm vm') := by
  obtain ⟨k0, hk0⟩ := hk0
  intro pre
  induction pre with
  | nil =>
    intro S hW hcell _
    obtain ⟨k0', hk0', -⟩ := hW.alike.2.2 _ _ hk0
    obtain ⟨dk, _, _, kt, hd, _, _, _, _, hkt, _, hopen⟩ := hl.here
    obtain ⟨kt', hkt', -⟩ := hW.alike.2.2 _ _ hkt
    refine ⟨_, hW.noted hd hopen (State.rightAt_cls hl), fun Qh Ec dd acts => ?_⟩
    rw [List.nil_append, im_fh hx h0 (hW.classLinks hl) hcell hobj ⟨k0', hk0'⟩ ⟨kt', hkt'⟩, if_pos (by rw [hW.alike.assignable]; exact hfit)]
  | cons y ys ih =>
    intro S hW hcell hpass
    obtain ⟨k0', hk0', -⟩ := hW.alike.2.2 _ _ hk0
    have hrest : ∀ z ∈ ys, im_pass e.platform s f.method.cls f.pc cell.cls z := fun z hz => hpass z (List.mem_cons_of_mem _ hz)
    by_cases hcov : covers y f.pc = true
    · rcases hpass y List.mem_cons_self with h | ⟨h0', k', hl', hno⟩
      · rw [h] at hcov; cases hcov
      · obtain ⟨dk, _, _, kt, hd, _, _, _, _, hkt, _, hopen⟩ := hl'.here
        obtain ⟨kt', hkt', -⟩ := hW.alike.2.2 _ _ hkt
        obtain ⟨vm', hW', hq⟩ := ih (S.setVm (S.vm.noted f.method.cls y.catchType (.cls k'))) (hW.noted hd hopen (State.rightAt_cls hl')) hcell hrest
        refine ⟨vm', hW', fun Qh Ec dd acts => ?_⟩
        rw [List.cons_append, im_fh hcov h0' (hW.classLinks hl') hcell hobj ⟨k0', hk0'⟩ ⟨kt', hkt'⟩, if_neg (by rw [hW.alike.assignable, hno]; decide)]
        exact hq Qh Ec dd acts
    · obtain ⟨vm', hW', hq⟩ := ih S hW hcell hrest
      refine ⟨vm', hW', fun Qh Ec dd acts => ?_⟩
      rw [List.cons_append, Jvm.W.findHandler_go_skip (by simpa using hcov)]
      exact hq Qh Ec dd acts
theorem im_caught {T : State} (X : Stand p l e R s m args below meth c T locs cells slots) {a : Addr} {g : JFrame} (hg : g.method = m) {cell : Cell} (hcell : T.heap[a]? = some cell) (hobj : ∀ q, cell.vm ≠ .statics q) (hk0 : ∃ q, s.vm.classes[cell.cls]? = some q)
    (pre : List ExceptionTableEntry) (x : ExceptionTableEntry) (suf : List ExceptionTableEntry) (hsplit : c.exceptionTable.toList = pre ++ x :: suf) (hpass : ∀ y ∈ pre, im_pass e.platform s m.cls g.pc cell.cls y) (hx : covers x g.pc = true) (h0 : x.catchType ≠ 0) {k : ClassId}
    (hl : s.vm.ClassLinks e.platform m.cls x.catchType k) (hfit : s.vm.assignable cell.cls k = true) :
    ∃ vm', Stand p l e R s m args below meth c (T.setVm vm') locs cells slots ∧ ∀ target, Steps p.tables e below ((T.setVm vm').setTop { g with pc := x.handlerPc, stack := [.ref a] }) target → Steps p.tables e below ((T.setTop g).pushFrame (.throwing a)) target := by
  subst hg
  obtain ⟨vm', hW', hf⟩ := im_fhs (e := e) (f := g) (a := a) hobj hk0 x suf hx h0 hl hfit pre ((T.setTop g).pushFrame (.throwing a)) (by rw [Stand.throwing_vm]; exact X.warmed) (by rw [Stand.throwing_heap]; exact hcell) hpass
  refine ⟨vm', X.noted hW', fun target hrest => ?_⟩
  have hm : ((T.setTop g).pushFrame (.throwing a)).vm.method? g.method = some meth := by rw [Stand.throwing_vm]; exact X.method'
  have hfind : ∀ (Qh : Handler → Pre) (Ec : CtlPost) (dd : Bool) (acts : List Action), wp (findHandler g a) Qh Ec e dd acts ((T.setTop g).pushFrame (.throwing a)) ↔ Qh (.found x.handlerPc) dd acts (((T.setTop g).pushFrame (.throwing a)).setVm vm') := fun Qh Ec dd acts => by
    rw [Jvm.W.findHandler_eq hm X.code, hsplit]
    exact hf Qh Ec dd acts
  obtain ⟨hgo, hw⟩ := X.here.throwing a
  refine Steps.head hgo hw ?_
  have hstep : (stepThrowing e ((T.setTop g).pushFrame (.throwing a)) a (.java g :: T.frames.tail)).1 = (((T.setTop g).pushFrame (.throwing a)).setVm vm').setFrames (.java { g with pc := x.handlerPc, stack := [.ref a] } :: T.frames.tail) := by
    simp only [stepThrowing, searchFrame, vmDo]
    generalize hr : Sem.go _ e false [] ((T.setTop g).pushFrame (.throwing a)) = res
    obtain ⟨as, rfl, ha⟩ := Sem.eq_ok_of hr (a := Handler.found x.handlerPc) (s' := ((T.setTop g).pushFrame (.throwing a)).setVm vm') (acts' := []) (by simp [hfind _ _ _ _])
    rfl
  rw [stepThread_throwing (frames_entered X.here.top _), hstep]
  obtain ⟨g₀, hg0⟩ := Option.isSome_iff_exists.mp X.here.top
  obtain ⟨r, hr⟩ := State.topJava?_eq_some.mp hg0
  have hr' : (T.setVm vm').frames = .java g₀ :: r := hr
  rw [State.setTop_of_frames _ hr'] at hrest
  have e1 : (((T.setTop g).pushFrame (.throwing a)).setVm vm').setFrames (.java { g with pc := x.handlerPc, stack := [.ref a] } :: T.frames.tail) = (T.setVm vm').setFrames (.java { g with pc := x.handlerPc, stack := [.ref a] } :: r) := by
    rw [State.pushFrame, State.setTop_of_frames _ hr, State.setFrames_setFrames, hr]
    exact State.setFrames_setFrames (T.setVm vm') _ _
  rw [e1]
  exact hrest
theorem im_find_split {α : Type} {P : α → Bool} : ∀ {L : List α} {x : α}, L.find? P = some x → ∃ pre suf, L = pre ++ x :: suf ∧ P x = true ∧ ∀ y ∈ pre, P y = false
  | [], _, h => by cases h
  | a :: L, x, h => by
    rw [List.find?_cons] at h
    cases ha : P a with
    | true =>
      rw [ha] at h
      cases h
      exact ⟨[], L, rfl, ha, fun y hy => by cases hy⟩
    | false =>
      rw [ha] at h
      obtain ⟨pre, suf, h1, h2, h3⟩ := im_find_split h
      exact ⟨a :: pre, suf, by rw [h1]; rfl, h2, fun y hy => (List.mem_cons.mp hy).elim (fun e => by rw [e]; exact ha) (h3 y)⟩
/-- caught by this method's table -/
theorem im_catch_ok {y d pc ec hp a : Nat} {rest : List Value} {lr : Array Slot} {cell : Cell} (hC : im_Cx D E sp d y p l R s m meth c) (h : im_hand y pc ec = some hp) (hec : ec < 3) (hcell : H[a]? = some cell) (hv : cell.vm = .none) (hcl : s.vm.findClass (it_ecn ec) = some cell.cls)
    (kk : W p l e R s m args below meth c H locs cells slots Q (F0 m hp lr [.ref a])) (T : State) (hTH : T.heap = H) (X : Stand p l e R s m args below meth c T locs cells slots) :
    ∃ t, Steps p.tables e below ((T.setTop (F0 m pc lr rest)).pushFrame (.throwing a)) t ∧ Q t := by
  obtain ⟨me, hme, hx, hb, hml, hown, hret, hlocks, hname, hexc, htr, hT, hK, hY, hfr, hlc⟩ := hC
  have hpl : e.platform.magicAccessors = ({} : Platform).magicAccessors := by rw [X.admits.platform]
  unfold im_hand at h
  rw [hme] at h
  simp only [Option.map_eq_some_iff] at h
  obtain ⟨hrow, hfind, rfl⟩ := h
  obtain ⟨pre, suf, e1, e2, e3⟩ := im_find_split hfind
  rw [e1] at hexc
  obtain ⟨pre', suf', f1, f2, f3⟩ := List.map_eq_append_iff.mp hexc
  obtain ⟨x, suf'', rfl, f4, f5⟩ := List.map_eq_cons_iff.mp f3
  simp only [Bool.and_eq_true, decide_eq_true_eq] at e2
  obtain ⟨⟨c1, c2⟩, c3⟩ := e2
  have hxin : hrow ∈ me.2.2.2.2 := by rw [e1]; exact List.mem_append_right _ List.mem_cons_self
  obtain ⟨n0, nm, w1, w2, w3⟩ := it_cat_ok (ec := ec) hme hxin hec
  have hxr : x.startPc = hrow.1 ∧ x.endPc = hrow.2.1 ∧ x.handlerPc = hrow.2.2.1 ∧ x.catchType = hrow.2.2.2 := by rw [← f4]; exact ⟨rfl, rfl, rfl, rfl⟩
  obtain ⟨x1, x2, x3, x4⟩ := hxr
  obtain ⟨k, hk, hl⟩ := Cond.classLink_spec hown (hT _ w1 #[]) e.platform hpl
  obtain ⟨c4, c5, hc4, hc5, hasg⟩ := Cond.castable_spec (hT _ (w2 c3) #[])
  cases Option.some.inj (hc4.symm.trans hcl)
  cases Option.some.inj (hc5.symm.trans hk)
  obtain ⟨vm', X', st⟩ := im_caught X (a := a) (g := F0 m pc lr rest) rfl (by rw [hTH]; exact hcell) (by rw [hv]; exact fun q h => by cases h) (by obtain ⟨k9, h9, -⟩ := Vm.findClass_spec hcl; exact ⟨k9, h9⟩) pre' x suf'' f1
    (fun z hz => by
      have hzt : (z.startPc, z.endPc, z.handlerPc, z.catchType) ∈ pre := by rw [← f2]; exact List.mem_map.mpr ⟨z, hz, rfl⟩
      have hz3 := e3 _ hzt
      have hzin : (z.startPc, z.endPc, z.handlerPc, z.catchType) ∈ me.2.2.2.2 := by rw [e1]; exact List.mem_append_left _ hzt
      obtain ⟨m0, nm', v1, v2, v3⟩ := it_cat_ok (ec := ec) hme hzin hec
      by_cases hcov : covers z pc = true
      · right
        simp only [covers, Bool.and_eq_true, decide_eq_true_eq] at hcov
        have hcat : it_cat y z.catchType ec = false := by
          simp only [hcov.1, hcov.2, decide_true, Bool.true_and] at hz3
          exact hz3
        obtain ⟨k', hk', hl'⟩ := Cond.classLink_spec hown (hT _ v1 #[]) e.platform hpl
        obtain ⟨a8, b8, g1, g2, g3⟩ := v3 hcat s hY.2
        cases Option.some.inj (g1.symm.trans hcl)
        cases Option.some.inj (g2.symm.trans hk')
        exact ⟨m0, _, hl', g3⟩
      · exact Or.inl (by simpa using hcov))
    (by simp only [covers, Bool.and_eq_true, decide_eq_true_eq]; rw [x1, x2]; exact ⟨c1, c2⟩) (by rw [x4]; exact n0) (by rw [x4]; exact hl) hasg
  obtain ⟨t, a1, b1⟩ := kk (T.setVm vm') hTH X'
  refine ⟨t, st t ?_, b1⟩
  rw [x3]
  exact a1
end THROWS
end
section
/-! The abstract machine is right: the theorem. -/
section SOUND3
variable {p : Program} {l : Launch} {e : Env} {R : Room} {s : State} {m : MethodId} {args : Array Value} {below : List Frame} {meth : Method} {c : Code} {H : Heap} {locs : List Loc} {cells slots : Nat} {Q : State → Prop}
variable {D : va_G} {E : Nat → ClassId} {base : Nat} {sp : Nat → Nat} {H0 : Heap} {M : im_M}
/-- what the theorem says of n steps -/
def im_Snd (D : va_G) (E : Nat → ClassId) (base : Nat) (sp : Nat → Nat) (H0 : Heap) (l : Launch) (n : Nat) : Prop :=
  ∀ (d y pc : Nat) (ls st : List Value) (M : im_M) (o : im_O) (M' : im_M), im_run n d y pc ls st M = some (o, M') →
    ∀ (p : Program) (e : Env) (R : Room) (s : State) (m : MethodId) (args : Array Value) (below : List Frame) (meth : Method) (c : Code) (H : Heap) (locs : List Loc) (cells slots : Nat) (lr : Array Slot) (mc ms : Nat),
      im_Cx D E sp d y p l R s m meth c → im_St H0 base s → im_R it_nf D E base sp H0 M H → (∀ q ∈ locs, base ≤ q.base) → im_L (im_ad base sp) (im_max y) ls lr → R.cells = mc → R.slots = ms → cells + im_tot M' = mc + im_tot M → slots + M'.1.2.2 = ms + M.1.2.2 →
      W p l e R s m args below meth c H locs cells slots (im_MQ below (im_Qc D E base sp H0 o M') args s mc ms (im_free base)) (F0 m pc lr (st.map (im_v (im_ad base sp))))
theorem im_sl1 (vs : List Value) (h : ∀ v ∈ vs, v.category = 1) : lg_sl vs = vs.map Slot.val := by
  induction vs with
  | nil => rfl
  | cons v t ih =>
    have h1 : ¬ v.category = 2 := by rw [h v List.mem_cons_self]; decide
    have h2 := ih fun w hw => h w (List.mem_cons_of_mem _ hw)
    unfold lg_sl at h2 ⊢
    rw [List.flatMap_cons, h2, if_neg h1]
    rfl
/-- the locals at a method's start -/
theorem im_L.start {ad : Nat → Nat} {as : List Value} {n : Nat} (hc : ∀ v ∈ as, v.category = 1) (hn : as.length ≤ n) :
    im_L ad n (as ++ List.replicate (n - as.length) (.retAddr 0)) ((lg_sl (as.map (im_v ad)) ++ List.replicate (n - (lg_sl (as.map (im_v ad))).length) Slot.unset).toArray) := by
  have hc' : ∀ v ∈ as.map (im_v ad), v.category = 1 := fun v hv => by
    obtain ⟨w, hw, rfl⟩ := List.mem_map.mp hv
    rw [im_v_cat]; exact hc w hw
  have hsl := im_sl1 _ hc'
  have hlen : (lg_sl (as.map (im_v ad))).length = as.length := by rw [hsl]; simp
  have h1 := lv_entry (as.map (im_v ad)) (n := n) (by rw [hlen]; exact hn)
  refine ⟨by simp; omega, fun v hv => ?_, h1.1, h1.2.1, fun q hq => ?_⟩
  · rcases List.mem_append.mp hv with hv | hv
    · exact hc v hv
    · rw [(List.mem_replicate.mp hv).2]; rfl
  · obtain ⟨v, hv, hr, hq2⟩ := im_ll_mem.mp hq
    have hlt : q.1 < as.length := by
      refine Nat.lt_of_not_le fun hle => ?_
      rw [List.getElem?_append_right hle, List.getElem?_replicate] at hv
      split at hv
      · cases hv; exact hr rfl
      · cases hv
    rw [List.getElem?_append_left hlt] at hv
    have hv9 : as[q.1]? = some v := hv
    have hv8 : as[q.1] = v := (List.getElem?_eq_some_iff.mp hv9).2
    simp [hsl, hlt, hq2, List.getElem?_append, hv9, hv8]
/-- a method's contract, out of the theorem at n -/
theorem im_contract {n d z : Nat} {as : List Value} {o : im_O} {M' : im_M} {me : it_Me} (hS : im_Snd D E base sp H0 l n) (hme : it_met z = some me) (hl : l.stackTraces = false) (h : im_run n d z 0 (as ++ List.replicate (im_max z - as.length) (.retAddr 0)) [] M = some (o, M')) (hn : as.length ≤ im_max z) (hc : ∀ v ∈ as, v.category = 1) :
    im_Met l me.1 (im_ws z) (im_rm d (im_tot M' - im_tot M) (M'.1.2.2 - M.1.2.2)) (im_Pc D E base sp H0 as M) (im_Qc D E base sp H0 o M') (im_tot M' - im_tot M) (M'.1.2.2 - M.1.2.2) (im_free base) := by
  obtain ⟨k1, k2, k3, k4, k5⟩ := it_met_ok hme
  have hmono := im_run_mono _ _ _ _ _ _ _ _ _ h
  have hmax : im_max z = me.2.2.1 := by unfold im_max; rw [hme]
  have hin : Cond.code me.1 me.2.1 me.2.2.1 me.2.2.2.1 ∈ im_ws z ∨ ∃ hh, Cond.codeWith me.1 me.2.1 me.2.2.1 me.2.2.2.1 hh ∈ im_ws z := by
    unfold im_ws
    rw [hme]
    simp only
    split
    · exact Or.inl List.mem_cons_self
    · exact Or.inr ⟨_, List.mem_cons_self⟩
  refine im_Met.ofW (cc := me.2.1) (maxL := me.2.2.1) (ret := me.2.2.2.1) k3 hin ?_
  intro p e s m args below meth c s₁ B hml hP
  obtain ⟨ha, hR, hT, hK, hY, hSt⟩ := hP
  subst ha
  rw [lg_entry_eq, ← hmax]
  have hexc : c.exceptionTable.toList.map (fun h => (h.startPc, h.endPc, h.handlerPc, h.catchType)) = me.2.2.2.2 := by
    have hpre := atoms_spec (ws := im_ws z) B.pre
    unfold im_ws at hpre
    rw [hme] at hpre
    have hw := hpre _ List.mem_cons_self
    by_cases he : me.2.2.2.2 = []
    · simp only [he, if_true] at hw
      obtain ⟨meth', c', g1, g2, -, -, -, -, g3, -⟩ := Cond.code_spec B.named hw
      cases B.method.symm.trans g1
      have hcc : c' = c := by
        have h1 := B.here.code
        rw [State.code?_eq, B.method₁] at h1
        exact Option.some.inj (g2.symm.trans h1)
      subst hcc
      rw [he, List.map_eq_nil_iff]
      simpa using g3
    · simp only [he, if_false] at hw
      obtain ⟨m9, meth', c', hn9, g1, g2, -, -, g3, -⟩ := Cond.codeWith_spec hw
      cases B.named.symm.trans hn9
      cases B.method.symm.trans g1
      have hcc : c' = c := by
        have h1 := B.here.code
        rw [State.code?_eq, B.method₁] at h1
        exact Option.some.inj (g2.symm.trans h1)
      subst hcc
      exact g3
  exact hS d z 0 _ [] M o M' h p e _ s m _ below meth c s.heap [] 0 0 _ _ _
    ⟨me, hme, B.exec, B.bytes, hml, findClass_of_methodNamed B.named, B.returns, B.notSynchronized, (name_of_methodNamed B.named B.method).1, hexc, hl, hT, hK, hY, Nat.le_refl _, Nat.le_refl _⟩
    hSt hR (fun q hq => by cases hq) (im_L.start hc hn) rfl rfl (by omega) (by omega)
theorem im_word {args a' : Array Value} {s U : State} {w : Cond} (hW : s.WarmedH U.vm) (hg : goodWord w = true) (h : w.before args s = true) : w.before a' U = true := word_at hW (good_of_word hg) h
theorem im_ws_in {z : Nat} {me : it_Me} (hme : it_met z = some me) (hT : im_T s) : ∀ w ∈ im_ws z, ∀ (a' : Array Value) (U : State), s.WarmedH U.vm → w.before a' U = true := by
  intro w hw a' U hW
  obtain ⟨k1, -⟩ := it_met_ok hme
  unfold im_ws at hw
  rw [hme] at hw
  have hw2 := List.mem_singleton.mp hw
  have hin : w ∈ it_tb := by rw [hw2]; exact k1
  exact im_word hW (by rw [hw2]; split <;> rfl) (hT w hin a')
theorem im_split {st As : List Value} {b k : Nat} (hk : k < st.length) (h : (st.take (k + 1)).reverse = .ref b :: As) : st = As.reverse ++ .ref b :: st.drop (k + 1) ∧ As.length = k := by
  have h2 : st.take (k + 1) = As.reverse ++ [.ref b] := by
    rw [← List.reverse_reverse (st.take (k + 1)), h, List.reverse_cons]
  have hl := congrArg List.length h
  rw [List.length_reverse, List.length_take, Nat.min_eq_left hk] at hl
  refine ⟨?_, by simpa using hl.symm⟩
  conv => lhs; rw [← List.take_append_drop (k + 1) st, h2]
  simp
theorem im_room {a d r k : Nat} (h1 : a ≤ 60) (h2 : 100 * (d + 1) + k ≤ r) : 8 + (a + 11) + (100 * d + k) ≤ r := by omega
theorem im_Pc_blind {as : List Value} {a : Array Value} {U : State} {g : JFrame} {mk : MethodId} (h : im_Pc D E base sp H0 as M a U) : im_Pc D E base sp H0 as M a (U.calling g mk a) := by
  obtain ⟨h1, h2, h3, h4, ⟨h5, h6⟩, h7, h8⟩ := h
  have hW : U.WarmedH (U.calling g mk a).vm := State.WarmedH.refl U
  exact ⟨h1, h2, fun w hw A => it_tb_word hW hw (h3 w hw A), h4.moved hW.alike, ⟨fun y idx k me e1 e2 => (by
    obtain ⟨tx, e3⟩ := h5 y idx k me e1 e2
    exact ⟨tx, vk_R.warm hW e3⟩), fun a b ha hb hab => (h6 a b ha hb hab).moved hW.alike⟩, h7, h8.moved hW.alike⟩
/-- a call and what comes behind it -/
theorem im_call_ok {n d y pc len z : Nat} {i : Instr} {ls st as rest : List Value} {lr : Array Slot} {o1 : im_O} {M1 : im_M} (hS : im_Snd D E base sp H0 l n) (hC : im_Cx D E sp (d + 1) y p l R s m meth c) (hSt : im_St H0 base s) (hR : im_R it_nf D E base sp H0 M H) (hlo : ∀ q ∈ locs, base ≤ q.base) (hL : im_L (im_ad base sp) (im_max y) ls lr)
    (hdg : decode c.code pc = .ok (i, len)) (h : im_call y i len st = some (z, as, rest)) (hrv : im_recv i z as M = true) (hn : as.length ≤ im_max z) (hgo : im_run n d z 0 (as ++ List.replicate (im_max z - as.length) (.retAddr 0)) [] M = some (o1, M1))
    (hcells : cells + (im_tot M1 - im_tot M) ≤ R.cells) (hslots : slots + (M1.1.2.2 - M.1.2.2) ≤ R.slots)
    (kk : ∀ (H' : Heap) (locs' : List Loc), im_R it_nf D E base sp H0 M1 H' → (∀ q ∈ locs', base ≤ q.base) → (∀ v, o1 = .inl v → W p l e R s m args below meth c H' locs' (cells + (im_tot M1 - im_tot M)) (slots + (M1.1.2.2 - M.1.2.2)) Q (F0 m (pc + 3) lr ((v.toList ++ rest).map (im_v (im_ad base sp))))) ∧
      ∀ q, o1 = .inr q → 8 ≤ q.2 → q.1 < 3 → ∀ cell : Cell, H'[im_ad base sp q.2]? = some cell → cell.vm = .none → s.vm.findClass (it_ecn q.1) = some cell.cls → ∀ T : State, T.heap = H' → Stand p l e R s m args below meth c T locs' (cells + (im_tot M1 - im_tot M)) (slots + (M1.1.2.2 - M.1.2.2)) → ∃ t, Steps p.tables e below ((T.setTop (F0 m pc lr (rest.map (im_v (im_ad base sp))))).pushFrame (.throwing (im_ad base sp q.2))) t ∧ Q t) :
    W p l e R s m args below meth c H locs cells slots Q (F0 m pc lr (st.map (im_v (im_ad base sp)))) := by
  obtain ⟨me, hme, hx, hb, hml, hown, hret, hlocks, hname, hexc, htr, hT, hK, hY, hfr, hlc⟩ := hC
  have hmax : im_max y = me.2.2.1 := by unfold im_max; rw [hme]
  have hcat : ∀ v ∈ as, v.category = 1 := by
    intro v hv
    have hall : as.all im_c1 = true := by
      unfold im_recv at hrv
      split at hrv
      · exact hrv
      · exact (Bool.and_eq_true _ _ ▸ hrv).1
    simpa [im_c1] using List.all_eq_true.mp hall v hv
  intro T hTH X
  -- the callee
  have core : ∀ (mz : it_Me), it_met z = some mz → im_Bk l R p e below s args mz.1 3 8 (im_tot M1 - im_tot M) (M1.1.2.2 - M.1.2.2) (im_Pc D E base sp H0 as M) (im_Qc D E base sp H0 o1 M1) (im_free base) := by
    intro mz hmz
    obtain ⟨k1, k2, k3, k4, k5⟩ := it_met_ok hmz
    have hin : Cond.code mz.1 mz.2.1 mz.2.2.1 mz.2.2.2.1 ∈ im_ws z ∨ ∃ hh, Cond.codeWith mz.1 mz.2.1 mz.2.2.1 mz.2.2.2.1 hh ∈ im_ws z := by
      unfold im_ws
      rw [hmz]
      simp only
      split
      · exact Or.inl List.mem_cons_self
      · exact Or.inr ⟨_, List.mem_cons_self⟩
    refine im_pay (bytes := mz.2.1) (maxL := mz.2.2.1) (ret := mz.2.2.2.1) (im_contract hS hmz htr hgo hn hcat) (fun a U g mk h => im_Pc_blind h) rfl rfl ?_ ?_ (im_ws_in hmz hT) hin (fun a' U hW => im_word hW rfl (hT _ k2 a'))
    · show d + 40 + 1 ≤ R.frames
      omega
    · show 8 + (mz.2.2.1 + 11) + (100 * d + 4000) ≤ R.locals
      exact im_room k5 hlc
  have hpre : ∀ vm₁, s.WarmedH vm₁ → im_Pc D E base sp H0 as M (as.map (im_v (im_ad base sp))).toArray (T.setVm vm₁) := by
    intro vm₁ hW
    have hW' : s.WarmedH (T.setVm vm₁).vm := hW
    refine ⟨rfl, by show im_R it_nf D E base sp H0 M T.heap; rw [hTH]; exact hR, fun w hw A => it_tb_word hW' hw (hT w hw A), hK.moved hW'.alike, ⟨fun y idx k me h1 h2 => ?_, fun a b ha hb hab => (hY.2 a b ha hb hab).moved hW'.alike⟩, ⟨⟨hSt.1.1, ?_, ?_⟩, hSt.2.moved hW'.alike⟩⟩
    · obtain ⟨tx, h3⟩ := hY.1 y idx k me h1 h2
      exact ⟨tx, vk_R.warm hW' h3⟩
    · show ∀ q, q < base → T.heap[q]? = H0[q]?
      rw [hTH]; exact hR.2.2.1
    · show ∀ (q : Nat) (cell : Cell), base ≤ q → T.heap[q]? = some cell → cell.vm.isStatics = false
      rw [hTH]; exact hR.2.2.2.2.1
  have fin : im_Cr p l e R s m args below meth c T locs cells slots (im_tot M1 - im_tot M) (M1.1.2.2 - M.1.2.2) (F0 m pc lr (st.map (im_v (im_ad base sp)))) (rest.map (im_v (im_ad base sp))) (as.map (im_v (im_ad base sp))).toArray (im_Qc D E base sp H0 o1 M1) (im_free base) → ∃ t, Steps p.tables e below (T.setTop (F0 m pc lr (st.map (im_v (im_ad base sp))))) t ∧ Q t := by
    rintro ⟨o, st0, t, V, L, XV, v1, v2, v3, v4, ⟨q1, q2, q3⟩, hLf, hsteps⟩
    have hRV : im_R it_nf D E base sp H0 M1 V.heap := by rw [v1]; exact q2
    have hlo' : ∀ q ∈ locs ++ L, base ≤ q.base := fun q hq => (List.mem_append.mp hq).elim (hlo q) (hLf q)
    obtain ⟨kr, kt⟩ := kk V.heap (locs ++ L) hRV hlo'
    cases o1 with
    | inl v =>
      subst q1
      obtain ⟨t2, a1, b1⟩ := kr v rfl V rfl XV
      refine ⟨t2, hsteps t2 ?_, b1⟩
      cases v with
      | none => exact a1
      | some v => exact a1
    | inr q =>
      subst q1
      obtain ⟨h8, hec, cell, g1, g2, g3⟩ := q3 q rfl
      obtain ⟨t2, a1, b1⟩ := kt q rfl h8 hec cell (by rw [v1]; exact g1) g2 (by rw [← v4.findClass]; exact g3) V rfl XV
      exact ⟨t2, hsteps t2 a1, b1⟩
  refine fin ?_
  have hszl : lr.size = c.maxLocals := by rw [hL.size, hml]; exact hmax
  unfold im_call at h
  split at h
  · rename_i hl
    subst hl
    split at h
    · rename_i idx
      split at h
      · rename_i q hq
        split at h
        · rename_i hq1
          obtain ⟨hq0, hqn, hqs⟩ := hq1
          cases h
          obtain ⟨mz, hmz, hlen, hlk, hv0, -, -⟩ := it_cal_ok hq hme
          obtain ⟨hin1, hin2, hnil, ci, T0, N0, hmc, hci, h30⟩ := hv0 hq0
          obtain ⟨k1, k2, k3, k4, k5⟩ := it_met_ok hmz
          rw [if_pos hnil] at k1
          unfold im_recv at hrv
          rw [Bool.and_eq_true] at hrv
          split at hrv
          · rename_i b As has
            have hb9 := of_decide_eq_true hrv.2
            obtain ⟨hb8, hbl, hbk⟩ := hb9
            obtain ⟨e1, e2⟩ := im_split hqn has
            rw [hmc] at hbk
            have hbk' : (M.2.1 b).1 = ci := (Option.some.inj hbk).symm
            obtain ⟨cell, g1, g2⟩ := hR.at hbl (Or.inl hb8)
            obtain ⟨o1', o2', o3'⟩ := g2.obj (by rw [hbk']; exact h30)
            have hfc := (hK.1 _ _ hci).2.1
            have := im_cV (C := mz.1.cls) (b := im_ad base sp b) (argsL := As.map (im_v (im_ad base sp))) (rest := (st.drop (q.2.2.1 + 1)).map (im_v (im_ad base sp))) (g := F0 m pc lr (st.map (im_v (im_ad base sp)))) X hx (core mz hmz) (host := q.2.2.2) hown (by
              cases hh : q.2.2.2 with
              | none => rw [hh] at hlk; exact hT _ hlk _
              | some h9 => rw [hh] at hlk; exact hT _ hlk _) (hT _ hin1 _) (hT _ hin2 _) (hT _ k1 _) k4 (by rw [hlen, List.length_map, e2]) (by rw [hTH]; exact g1) (by rw [o2']; rfl) (by rw [o1', hbk']; exact hfc) rfl hszl (by
                show st.map (im_v (im_ad base sp)) = _
                conv => lhs; rw [e1]
                simp [im_v]) (by rw [im_catsum]; show 2 * 0 + _ ≤ 8; omega) hdg hcells hslots (by
                intro vm₁ hW
                have := hpre vm₁ hW
                rw [has] at this ⊢
                exact this)
            rw [has]
            exact this
          · exact absurd hrv.2 (by decide)
        · cases h
      · cases h
    · rename_i idx
      split at h
      · rename_i q hq
        split at h
        · rename_i hq1
          obtain ⟨hq0, hqn, hqs⟩ := hq1
          cases h
          obtain ⟨mz, hmz, hlen, hlk, -, hv0, -⟩ := it_cal_ok hq hme
          obtain ⟨k1, k2, k3, k4, k5⟩ := it_met_ok hmz
          refine im_cS (argsL := (st.take q.2.2.1).reverse.map (im_v (im_ad base sp))) (rest := (st.drop q.2.2.1).map (im_v (im_ad base sp))) (g := F0 m pc lr (st.map (im_v (im_ad base sp)))) (bytes := mz.2.1) (maxL := mz.2.2.1) (ret := mz.2.2.2.1) X hx (core mz hmz) (host := q.2.2.2) hown (by
              cases hh : q.2.2.2 with
              | none => rw [hh] at hlk; exact hT _ hlk _
              | some h9 => rw [hh] at hlk; exact hT _ hlk _) (hT _ (hv0 hq0) _) (hT _ k2 _) ?_ k4 (by rw [hlen, List.length_map, List.length_reverse, List.length_take, Nat.min_eq_left hqn]) rfl hszl (by
                show st.map (im_v (im_ad base sp)) = _
                conv => lhs; rw [← List.take_append_drop q.2.2.1 st]
                simp) (by rw [im_catsum]; show 2 * 0 + _ ≤ 8; omega) hdg hcells hslots hpre
          by_cases hnil : mz.2.2.2.2 = []
          · rw [if_pos hnil] at k1
            exact Or.inl (hT _ k1 _)
          · rw [if_neg hnil] at k1
            exact Or.inr ⟨_, hT _ k1 _⟩
        · cases h
      · cases h
    · rename_i idx
      split at h
      · rename_i q hq
        split at h
        · rename_i hq1
          obtain ⟨hq0, hqn, hqs⟩ := hq1
          cases h
          obtain ⟨mz, hmz, hlen, hlk, -, -, hv0⟩ := it_cal_ok hq hme
          obtain ⟨hy1, hin1, hnil, hrt⟩ := hv0 hq0
          obtain ⟨k1, k2, k3, k4, k5⟩ := it_met_ok hmz
          rw [if_pos hnil, hrt] at k1
          unfold im_recv at hrv
          rw [Bool.and_eq_true] at hrv
          split at hrv
          · rename_i b As has
            obtain ⟨e1, e2⟩ := im_split hqn has
            have := im_cI (b := im_ad base sp b) (argsL := As.map (im_v (im_ad base sp))) (rest := (st.drop (q.2.2.1 + 1)).map (im_v (im_ad base sp))) (g := F0 m pc lr (st.map (im_v (im_ad base sp)))) X hx (core mz hmz) (host := q.2.2.2) hown hy1 (by
              cases hh : q.2.2.2 with
              | none => rw [hh] at hlk; exact hT _ hlk _
              | some h9 => rw [hh] at hlk; exact hT _ hlk _) (hT _ hin1 _) (hT _ k1 _) k4 (by rw [hlen, List.length_map, e2]) rfl hszl (by
                show st.map (im_v (im_ad base sp)) = _
                conv => lhs; rw [e1]
                simp [im_v]) (by rw [im_catsum]; show 2 * 0 + _ ≤ 8; omega) hdg hcells hslots (by
                intro vm₁ hW
                have := hpre vm₁ hW
                rw [has] at this ⊢
                exact this)
            rw [has]
            exact this
          · exact absurd hrv.2 (by decide)
        · cases h
      · cases h
    · cases h
  · cases h
theorem im_sound (l : Launch) : ∀ n, im_Snd D E base sp H0 l n := by
  intro n
  induction n with
  | zero => intro d y pc ls st M o M' h; cases h
  | succ n ih =>
    intro d y pc ls st M o M' h p e R s m args below meth c H locs cells slots lr mc ms hC hSt hR hlo hL hRc hRs hcells hslots
    obtain ⟨me, hme, hx, hb, hml, hown, hret, hlocks, hname, hexc, htr, hT, hK, hY, hfr, hlc⟩ := id hC
    have hmax : im_max y = me.2.2.1 := by unfold im_max; rw [hme]
    rw [im_run] at h
    unfold im_F at h
    split at h
    · cases h
    · rename_i i len hdec
      have hdg : decode c.code pc = .ok (i, len) := by rw [hb]; exact im_dec_ok hme hdec
      split at h
      · rename_i v hv
        cases h
        exact im_ret_ok hC hR hlo hdg hv (by omega) (by omega)
      · split at h
        · rename_i ec hec
          split at h
          · rename_i hst
            cases h
            simp only [im_tot, im_dead] at hcells hslots
            exact im_thr_ok hC hSt hR hlo (by rw [hL.size, hml]; exact hmax) hec hst (by omega) (by omega) (by omega) (by omega)
          · cases h
        · split at h
          · rename_i st' hp
            have m2 := im_run_mono _ _ _ _ _ _ _ _ _ h
            exact im_prim_ok hC hSt hR hlo hL hdg hp (by omega) (by omega) (ih d y (pc + 3) ls st' M o M' h p e R s m args below meth c H locs cells slots lr mc ms hC hSt hR hlo hL hRc hRs hcells hslots)
          · split at h
            · rename_i z as rest hcall
              split at h
              · cases h
              · rename_i d'
                split at h
                · rename_i hck
                  split at h
                  · rename_i v M1 hgo
                    have m1 := im_run_mono _ _ _ _ _ _ _ _ _ hgo
                    have m2 := im_run_mono _ _ _ _ _ _ _ _ _ h
                    refine im_call_ok ih hC hSt hR hlo hL hdg hcall hck.2 hck.1 hgo (by omega) (by omega) fun H' locs' hR' hlo' => ⟨fun v' hv' => ?_, fun q hq => (by cases hq)⟩
                    cases hv'
                    exact ih (d' + 1) y (pc + 3) ls (v.toList ++ rest) M1 o M' h p e R s m args below meth c H' locs' _ _ lr mc ms hC hSt hR' hlo' hL hRc hRs (by omega) (by omega)
                  · rename_i q M1 hgo
                    have m1 := im_run_mono _ _ _ _ _ _ _ _ _ hgo
                    split at h
                    · rename_i hp hh
                      have m2 := im_run_mono _ _ _ _ _ _ _ _ _ h
                      refine im_call_ok ih hC hSt hR hlo hL hdg hcall hck.2 hck.1 hgo (by omega) (by omega) fun H' locs' hR' hlo' => ⟨fun v' hv' => (by cases hv'), fun q' hq' h8 hec cell c1 c2 c3 T hT' X => ?_⟩
                      cases hq'
                      refine im_catch_ok hC hh hec c1 c2 c3 ?_ T hT' X
                      exact ih (d' + 1) y hp ls [.ref q.2] M1 o M' h p e R s m args below meth c H' locs' _ _ lr mc ms hC hSt hR' hlo' hL hRc hRs (by omega) (by omega)
                    · split at h
                      · rename_i hno
                        cases h
                        refine im_call_ok ih hC hSt hR hlo hL hdg hcall hck.2 hck.1 hgo (by omega) (by omega) fun H' locs' hR' hlo' => ⟨fun v' hv' => (by cases hv'), fun q' hq' h8 hec cell c1 c2 c3 T hT' X => ?_⟩
                        cases hq'
                        have hnil : c.exceptionTable.toList = [] := by
                          unfold im_nohand at hno
                          rw [hme] at hno
                          have h9 : me.2.2.2.2 = [] := by simpa using hno
                          rw [h9] at hexc
                          exact List.map_eq_nil_iff.mp hexc
                        have X2 := stand_widen X (k := mc) (n := ms) (by omega) (by omega)
                        obtain ⟨st1, hrun, hend, hW, hsm⟩ := X2.leaveThrown (im_ad base sp q.2) (g := F0 m pc lr (rest.map (im_v (im_ad base sp)))) rfl rfl rfl (by rw [hnil]; intro x hx'; cases hx') hlocks
                        refine ⟨_, st1, _, hrun, hend, ⟨rfl, by show im_R it_nf D E base sp H0 _ T.heap; rw [hT']; exact hR', fun q2 hq2 => ?_⟩, locs', ⟨hW, hsm⟩, hlo'⟩
                        cases hq2
                        exact ⟨h8, hec, cell, by show T.heap[_]? = _; rw [hT']; exact c1, c2, c3⟩
                      · cases h
                  · cases h
                · cases h
            · split at h
              · rename_i r M1 hns
                have m1 := im_ns_mono hns
                have m2 := im_run_mono _ _ _ _ _ _ _ _ _ h
                refine im_ns_ok hC hR hlo hL hdg hns (by omega) (by omega) fun H' locs' lr' cells' slots' hR' hlo' hL' hc' hs' => ?_
                exact ih d y r.1 r.2.1 r.2.2 M1 o M' h p e R s m args below meth c H' locs' cells' slots' lr' mc ms hC hSt hR' hlo' hL' hRc hRs (by omega) (by omega)
              · cases h
end SOUND3
end
section
/-! The law's start: from the Statement's words to the machine. -/
def it_M0 (L : Nat) (xs : Nat → Int32) : im_M := ((8, 0, 0), (fun k => if k = 0 then (39, L) else (0, 0)), (fun k j => if k = 0 then .int (xs j) else .null))
def it_ins : List Nat := [66, 95, 121, 115, 165, 221, 215, 207, 304, 297, 335, 58, 849]
theorem it_ins_all : (List.range 13).all (fun ci => match it_cl[ci]? with | some q => it_wd (it_ins.getD ci 99999) (.instantiable q.1 (it_nsl ci)) | none => false) = true := by decide +kernel
theorem it_over_all : (it_wd 303 (.arrayOver (.object "IssueFold$Message")) && it_wd 206 (.arrayOver (.object "IssueFold$Site")) && it_wd 213 (.arrayOver (.array .int))) = true := by decide +kernel
theorem it_stat_in : (Cond.laysStatic Jvm.Bundle.tN "UNASSIGNED_STACK" Jvm.Bundle.steD) ∈ lw_tbl ∧ (Cond.laysStatic Jvm.Bundle.tN "SUPPRESSED_SENTINEL" Jvm.Bundle.listD) ∈ lw_tbl ∧ (Cond.initialized Jvm.Bundle.tN) ∈ lw_tbl := ⟨List.mem_of_getElem? (i := 547) (by decide +kernel), List.mem_of_getElem? (i := 549) (by decide +kernel), List.mem_of_getElem? (i := 45) (by decide +kernel)⟩
theorem it_given : ([.isRef (.static Jvm.Bundle.tN "UNASSIGNED_STACK" Jvm.Bundle.steD), .isRef (.static Jvm.Bundle.tN "SUPPRESSED_SENTINEL" Jvm.Bundle.listD), .exactly (.string "IssueFold$Reader" 19) "java/lang/String", .exactly (.string "IssueFold$Reader" 21) "java/lang/String",
  .not (.castable (it_ecn 0) (it_ecn 1)), .not (.castable (it_ecn 0) (it_ecn 2)), .not (.castable (it_ecn 1) (it_ecn 0)), .not (.castable (it_ecn 1) (it_ecn 2)), .not (.castable (it_ecn 2) (it_ecn 0)), .not (.castable (it_ecn 2) (it_ecn 1))] : List Cond).all (fun w => decide (w ∈ flatC (Jvm.Cond.and given_1 narrow_1))) = true := by decide +kernel
def R_law : String := "IssueFoldLaw"
def lw_P (b : Addr) (xs : List Int32) (args : Array Value) (s : State) : Prop := args = #[.ref b] ∧ s.IntsAt b xs ∧ xs.length ≤ 3072 ∧ (Jvm.Cond.and given_1 narrow_1).before args s = true
def lw_Q (_ : Array Value) (s : State) (o : Outcome) (t : State) : Prop := o = .returned (some (.int 1)) ∧ Framed s o t [] 601024 7293034
def lw_Z (below : List Frame) (a : Array Value) (s : State) : State → Prop := fun t => ∃ o, t.status = .running ∧ Ended t below o ∧ lw_Q a s o t
def lw_At (p : Program) (s : State) (m : MethodId) (meth : Method) (c : Code) (b L : Nat) (xs : Nat → Int32) : Prop :=
  p.tables.exec = Jvm.exec ∧ c.code = code ∧ meth.sig.returnType = ret ∧ c.maxLocals = 7 ∧ s.vm.findClass R_law = some m.cls ∧ (∀ w ∈ lw_tbl, w.before #[Value.ref b] s = true) ∧ va_X b L xs s s.heap ∧ b < s.heap.size ∧ meth.locks = false ∧ (Jvm.Cond.and given_1 narrow_1).before #[Value.ref b] s = true
theorem it_start {p : Program} {e : Env} {s : State} {m : MethodId} {below : List Frame} {meth : Method} {c : Code} (l : Launch) {b L : Nat} {xs : Nat → Int32} (hl : l.stackTraces = false) (C0 : lw_At p s m meth c b L xs) (hcw : (Cond.code x code maxLocals ret).before #[Value.ref b] s = true) (hnm : meth.name = "law") (hex : c.exceptionTable.toList = []) {n : Nat} {M' : im_M}
    (hgo : im_run n 30 0 0 ([.ref 0] ++ List.replicate 6 (.retAddr 0)) [] (it_M0 L xs) = some (.inl (some (.int 1)), M')) (hc : im_tot M' ≤ 601032) (hs : M'.1.2.2 ≤ 7293034) :
    W p l e room_1 s m #[Value.ref b] below meth c s.heap [] 0 0 (lw_Z below #[Value.ref b] s) (entryFrame m ([Value.ref b] : List Value).toArray 7) := by
  obtain ⟨hx, hb, hret, hml, hown, hts, hX, hbl, hlocks, hgv⟩ := C0
  obtain ⟨scr, x1, x2, x3, x4, x5⟩ := hX
  have hg : ∀ w ∈ ([.isRef (.static Jvm.Bundle.tN "UNASSIGNED_STACK" Jvm.Bundle.steD), .isRef (.static Jvm.Bundle.tN "SUPPRESSED_SENTINEL" Jvm.Bundle.listD), .exactly (.string "IssueFold$Reader" 19) "java/lang/String", .exactly (.string "IssueFold$Reader" 21) "java/lang/String",
  .not (.castable (it_ecn 0) (it_ecn 1)), .not (.castable (it_ecn 0) (it_ecn 2)), .not (.castable (it_ecn 1) (it_ecn 0)), .not (.castable (it_ecn 1) (it_ecn 2)), .not (.castable (it_ecn 2) (it_ecn 0)), .not (.castable (it_ecn 2) (it_ecn 1))] : List Cond), w.before #[Value.ref b] s = true := fun w hw => flat_of_before _ hgv w (of_decide_eq_true (List.all_eq_true.mp it_given w hw))
  have hW0 : s.WarmedH s.vm := State.WarmedH.refl s
  have hT : im_T s := by
    intro w hw A
    have hw' := List.mem_filter.mp hw
    refine it_mv_word hW0 hw'.2 (A := #[Value.ref b]) ?_
    rcases List.mem_cons.mp hw'.1 with h | h
    · rw [h]; exact hcw
    · exact hts w h
  -- classes
  have hD : ∀ ci : Nat, ∃ q : ClassId × (Nat → Nat), ∀ r : vw_C, it_cl[ci]? = some r → u_Kn s r.1 r.2.1 r.2.2 q.1 q.2 := by
    intro ci
    cases hci : it_cl[ci]? with
    | none => exact ⟨(0, fun _ => 0), fun r h => by cases h⟩
    | some r =>
      obtain ⟨C, T, N⟩ := r
      obtain ⟨k1, -, -⟩ := it_cl_ok hci
      have hlt : ci < 13 := (List.getElem?_eq_some_iff.mp hci).1
      have hi := List.all_eq_true.mp it_ins_all ci (List.mem_range.mpr hlt)
      rw [hci] at hi
      obtain ⟨cC, iS, h⟩ := u_known (ws := it_tb) (args := #[]) (T := T) (N := N) (fun w hw => hT w hw _) (fun w hw => by
        obtain ⟨k, hk, rfl⟩ := List.mem_map.mp hw
        exact (k1 k (List.mem_range.mp hk)).1) (hT _ (it_wd_in hi) _)
      exact ⟨(cC, iS), fun r hr => by cases hr; exact h⟩
  have hE : ∀ kd : Nat, ∃ cA : ClassId, ∀ ty : FieldType, it_aty kd = some ty → ∃ (kA : Class) (comp : ClassId), s.vm.classes[cA]? = some kA ∧ kA.kind = .array comp ty ∧ (kd ≠ 39 → s.vm.findClass ("[" ++ ty.toString) = some cA) ∧ (∀ C, ty = .object C → s.vm.findClass C = some comp) ∧ (∀ t, ty = .array t → s.vm.findClass (FieldType.array t).toString = some comp) ∧ (kd = 39 → cA = scr.cls) := by
    have wa := it_ac_all
    have wo := it_over_all
    simp only [Bool.and_eq_true] at wa wo
    have prim : ∀ ty, Cond.arrayClass ty ∈ it_tb → ∃ cA kA comp, s.vm.findClass ("[" ++ ty.toString) = some cA ∧ s.vm.classes[cA]? = some kA ∧ kA.kind = .array comp ty := fun ty h => Cond.arrayClass_spec (hT _ h #[])
    intro kd
    unfold it_aty
    split
    · obtain ⟨cA, kA, comp, f1, f2, f3⟩ := prim .int (it_wd_in wa.1.1.1)
      exact ⟨cA, fun ty h => by cases h; exact ⟨kA, comp, f2, f3, fun _ => f1, fun C h => (by cases h), fun t h => (by cases h), fun h => (by cases h)⟩⟩
    · obtain ⟨cA, kA, comp, f1, f2, f3⟩ := prim .char (it_wd_in wa.1.1.2)
      exact ⟨cA, fun ty h => by cases h; exact ⟨kA, comp, f2, f3, fun _ => f1, fun C h => (by cases h), fun t h => (by cases h), fun h => (by cases h)⟩⟩
    · obtain ⟨cA, kA, comp, f1, f2, f3⟩ := prim .boolean (it_wd_in wa.1.2)
      exact ⟨cA, fun ty h => by cases h; exact ⟨kA, comp, f2, f3, fun _ => f1, fun C h => (by cases h), fun t h => (by cases h), fun h => (by cases h)⟩⟩
    · obtain ⟨cA, kA, comp, f1, f2, f3⟩ := prim .long (it_wd_in wa.2)
      exact ⟨cA, fun ty h => by cases h; exact ⟨kA, comp, f2, f3, fun _ => f1, fun C h => (by cases h), fun t h => (by cases h), fun h => (by cases h)⟩⟩
    · obtain ⟨comp, cA, kA, f1, -, f2, f3, f4⟩ := Cond.arrayOver_spec (hT _ (it_wd_in wo.1.1) #[])
      exact ⟨cA, fun ty h => by cases h; exact ⟨kA, comp, f2, f3, fun _ => f4, fun C h => (by cases h; exact f1), fun t h => (by cases h), fun h => (by cases h)⟩⟩
    · obtain ⟨comp, cA, kA, f1, -, f2, f3, f4⟩ := Cond.arrayOver_spec (hT _ (it_wd_in wo.1.2) #[])
      exact ⟨cA, fun ty h => by cases h; exact ⟨kA, comp, f2, f3, fun _ => f4, fun C h => (by cases h; exact f1), fun t h => (by cases h), fun h => (by cases h)⟩⟩
    · obtain ⟨comp, cA, kA, f1, -, f2, f3, f4⟩ := arrayOverA_spec (hT _ (it_wd_in wo.2) #[])
      exact ⟨cA, fun ty h => by cases h; exact ⟨kA, comp, f2, f3, fun _ => f4, fun C h => (by cases h), fun t h => (by cases h; exact f1), fun h => (by cases h)⟩⟩
    · obtain ⟨-, kA, f2, comp, f3⟩ := x2
      exact ⟨scr.cls, fun ty h => by cases h; exact ⟨kA, comp, f2, f3, fun h => absurd rfl h, fun C h => (by cases h), fun t h => (by cases h), fun _ => rfl⟩⟩
    · exact ⟨0, fun ty h => by cases h⟩
  obtain ⟨D1, hD1⟩ := Classical.axiomOfChoice hD
  obtain ⟨E, hE1⟩ := Classical.axiomOfChoice hE
  have hK : im_K it_cl it_aty (fun ci => (D1 ci).1, fun ci => (D1 ci).2) E s := by
    refine ⟨fun ci q hq => hD1 ci q hq, fun kd ty hty => ?_⟩
    obtain ⟨kA, comp, f1, f2, f3, f4, f5, -⟩ := hE1 kd ty hty
    exact ⟨kA, comp, f1, f2, f3, f4, f5⟩
  -- texts
  obtain ⟨a19, -, c19, -, t19, -, h19, -⟩ := Cond.exactly_spec (hg (.exactly (.string "IssueFold$Reader" 19) "java/lang/String") (by simp))
  obtain ⟨a21, -, c21, -, t21, -, h21, -⟩ := Cond.exactly_spec (hg (.exactly (.string "IssueFold$Reader" 21) "java/lang/String") (by simp))
  have hst : it_sts.all (fun r => it_wd r.2 (.stringRef (it_own r.1.1.1) r.1.1.2 r.1.2.2)) = true := by decide +kernel
  have hY : im_Y (fun k => if k = 0 then b else if k = 1 then a21 else a19) s := by
    intro y idx k me hk hme
    unfold it_str at hk
    rw [Option.map_eq_some_iff] at hk
    obtain ⟨q, hq, rfl⟩ := hk
    obtain ⟨r, hr, he⟩ := List.mem_map.mp (it_lk hq)
    have hw := List.all_eq_true.mp hst r hr
    rw [he, it_own_ok hme] at hw
    have hword := hT _ (it_wd_in hw) #[]
    refine ⟨q.2, hword, ?_⟩
    have hor : r = (((2, 19), (2, "pnus")), 71) ∨ r = (((2, 21), (1, "pnuro")), 72) := by simpa [it_sts] using hr
    have hcls : me.1.cls = it_own (it_ow y) := (it_own_ok hme).symm
    rcases hor with rfl | rfl
    · simp only [Prod.mk.injEq] at he
      obtain ⟨⟨h1, h2⟩, h3⟩ := he
      subst h2
      subst h3
      rw [hcls, ← h1]
      exact t19
    · simp only [Prod.mk.injEq] at he
      obtain ⟨⟨h1, h2⟩, h3⟩ := he
      subst h2
      subst h3
      rw [hcls, ← h1]
      exact t21
  have hN : im_N s := by
    intro a1 b1 ha hb' hab
    have nc : ∀ i j, (Cond.not (.castable (it_ecn i) (it_ecn j))).before #[Value.ref b] s = true → va_Nc (it_ecn i) (it_ecn j) s := fun i j h => va_Nc.of h
    have ha3 : a1 = 0 ∨ a1 = 1 ∨ a1 = 2 := by omega
    have hb3 : b1 = 0 ∨ b1 = 1 ∨ b1 = 2 := by omega
    rcases ha3 with rfl | rfl | rfl <;> rcases hb3 with rfl | rfl | rfl <;> first | exact absurd rfl hab | exact nc _ _ (hg _ (by simp))
  have hA : im_A s.heap.size s.heap s.heap := ⟨rfl, fun _ _ => rfl, fun q cell hq hcell => absurd (Array.getElem?_eq_some_iff.mp hcell).1 (Nat.not_lt.mpr hq)⟩
  have sl : ∀ nm d, (Cond.laysStatic Jvm.Bundle.tN nm d) ∈ lw_tbl → (Cond.isRef (.static Jvm.Bundle.tN nm d)).before #[Value.ref b] s = true → im_Sl Jvm.Bundle.tN nm d s.heap s := by
    intro nm d h1 h2
    obtain ⟨c, k, i, f, a, cell, g1, g2, g3, g4, g5, g6, g7, g8, g9⟩ := Cond.laysStatic_spec (hts _ h1)
    exact ⟨va_Zqof (hts _ h1) (hts _ it_stat_in.2.2) h2 (fun a ha => Nat.not_le.mpr ha), c, k, i, f, a, cell, g1, g2, g3, g4, g5, g6, g7, g8, g9⟩
  have hSt : im_St s.heap s.heap.size s := ⟨hA, sl _ _ it_stat_in.1 (hg _ (by simp)), sl _ _ it_stat_in.2.1 (hg _ (by simp))⟩
  have hR : im_R it_nf (fun ci => (D1 ci).1, fun ci => (D1 ci).2) E s.heap.size (fun k => if k = 0 then b else if k = 1 then a21 else a19) s.heap (it_M0 L xs) s.heap := by
    refine ⟨Nat.le_refl _, rfl, fun _ _ => rfl, fun k hk => ?_, hA.2.2, fun k hk h30 => ?_⟩
    · simp only
      split
      · exact hbl
      · split
        · exact (Array.getElem?_eq_some_iff.mp h21).1
        · exact (Array.getElem?_eq_some_iff.mp h19).1
    · have h0 : k = 0 := by
        have hk8 : k < 8 := hk
        rcases h30 with h | h
        · omega
        · simp only [it_M0] at h
          split at h
          · assumption
          · simp at h
      subst h0
      refine ⟨scr, by simpa [im_ad] using x1, ?_⟩
      unfold im_cell
      simp only [it_M0, if_true]
      rw [if_neg (by decide)]
      obtain ⟨kA, comp, f1, f2, f3, f4, f5, f6⟩ := hE1 39 .int rfl
      exact ⟨(f6 rfl).symm, x3, x2.1, x4, fun j hj => x5 j hj⟩
  have hCx : im_Cx (fun ci => (D1 ci).1, fun ci => (D1 ci).2) E (fun k => if k = 0 then b else if k = 1 then a21 else a19) 30 0 p l room_1 s m meth c :=
    ⟨(x, code, maxLocals, ret, []), it_law, hx, hb, hml, hown, hret, hlocks, hnm, by rw [hex]; rfl, hl, hT, hK, ⟨hY, hN⟩, by decide, by decide⟩
  have hmax : im_max 0 = 7 := rfl
  have hLs := im_L.start (ad := im_ad s.heap.size (fun k => if k = 0 then b else if k = 1 then a21 else a19)) (as := [.ref 0]) (n := 7) (by simp [Value.category]) (by decide)
  rw [lg_entry_eq]
  have hWm := im_sound l n 30 0 0 _ [] _ _ _ hgo p e room_1 s m #[Value.ref b] below meth c s.heap [] (601032 - im_tot M') (7293034 - M'.1.2.2) _ 601024 7293034 hCx hSt hR (fun q hq => by cases hq) hLs rfl rfl (by simp only [im_tot, it_M0] at hc ⊢; omega) (by simp only [it_M0]; omega)
  refine W.widen (Nat.zero_le _) (Nat.zero_le _) (im_Wof ?_ hWm)
  rintro t ⟨o, h1, h2, ⟨h3, -, -⟩, Lc, ⟨hw, hsame⟩, hLc⟩
  refine ⟨o, h1, h2, h3, ⟨_, h3⟩, hw, hsame.weaken (fun y hy hlt => ?_) (Nat.le_refl _) (Nat.le_refl _)⟩
  exact absurd (hLc y hy) (Nat.not_le.mpr hlt)
end
section
/-! A memory that says less: what runs with it runs with every one that says more, and ends alike. -/
def im_inr (sh : Nat × Nat) (j : Nat) : Prop := if sh.1 < 30 then j < it_nf sh.1 else j < sh.2
def im_le (A B : im_M) : Prop := A.1 = B.1 ∧ ∀ k, k < A.1.1 → (8 ≤ k ∨ 30 ≤ (A.2.1 k).1) → B.2.1 k = A.2.1 k ∧ ∀ j, im_inr (A.2.1 k) j → B.2.2 k j = A.2.2 k j
section REFINE
variable {A B A' : im_M} {k : Nat}
theorem im_le.at (h : im_le A B) (hk : k < A.1.1) (hc : 8 ≤ k ∨ 30 ≤ (A.2.1 k).1) : B.2.1 k = A.2.1 k ∧ ∀ j, im_inr (A.2.1 k) j → B.2.2 k j = A.2.2 k j := h.2 k hk hc
theorem im_le.n (h : im_le A B) : B.1.1 = A.1.1 := by rw [h.1]
theorem im_le.refl (A : im_M) : im_le A A := ⟨rfl, fun _ _ _ => ⟨rfl, fun _ _ => rfl⟩⟩
theorem im_le.set (h : im_le A B) {j : Nat} {v : Value} : im_le (im_set A k j v) (im_set B k j v) := by
  refine ⟨h.1, fun i hi hc => ?_⟩
  obtain ⟨h1, h2⟩ := h.2 i hi hc
  refine ⟨h1, fun q hq => ?_⟩
  show va_up B.2.2 k (va_up (B.2.2 k) j v) i q = va_up A.2.2 k (va_up (A.2.2 k) j v) i q
  by_cases e : i = k
  · subst e
    rw [va_up_self, va_up_self]
    by_cases e2 : q = j
    · subst e2; rw [va_up_self, va_up_self]
    · rw [va_up_ne _ _ e2, va_up_ne _ _ e2]; exact h2 q hq
  · rw [va_up_ne _ _ e, va_up_ne _ _ e]; exact h2 q hq
theorem im_le.new (h : im_le A B) {kd len sl : Nat} {f : Nat → Value} : im_le (im_new A kd len sl f) (im_new B kd len sl f) := by
  have hn := h.1
  refine ⟨by simp only [im_new]; rw [hn], fun i hi hc => ?_⟩
  have hnn := h.n
  simp only [im_new] at hi hc ⊢
  rw [hnn]
  by_cases e : i = A.1.1
  · subst e
    rw [va_up_self, va_up_self, va_up_self, va_up_self]
    exact ⟨rfl, fun _ _ => rfl⟩
  · rw [va_up_ne _ _ e, va_up_ne _ _ e, va_up_ne _ _ e, va_up_ne _ _ e] at *
    exact h.2 i (by omega) hc
theorem im_le.dead (h : im_le A B) {n sl : Nat} : im_le (im_dead A n sl) (im_dead B n sl) := ⟨by simp only [im_dead]; rw [h.1], h.2⟩
theorem im_le.tot (h : im_le A B) : im_tot B = im_tot A := by unfold im_tot; rw [h.1]
theorem im_al_ref {ty : FieldType} {len pc : Nat} {st st' : List Value} (hle : im_le A B) (h : im_al it_aty ty len pc st A = some st') : im_al it_aty ty len pc st B = some st' := by
  unfold im_al at h ⊢
  split at h
  · rename_i hl
    rw [if_pos hl]
    split at h
    · rename_i j k r
      split at h
      · rename_i hc
        obtain ⟨h1, h2, h3, h4⟩ := hc
        obtain ⟨g1, g2⟩ := hle.at h1 (Or.inr h2)
        try simp only
        rw [if_pos (by rw [g1, hle.n]; exact ⟨h1, h2, h3, h4⟩), g2 _ (by unfold im_inr; rw [if_neg (Nat.not_lt.mpr h2)]; exact Nat.not_le.mp fun q => h4 (Or.inr q))]
        exact h
      · cases h
    · cases h
  · cases h
theorem im_as_ref {ty : FieldType} {len : Nat} {j : Int32} {v : Value} (hle : im_le A B) (h : im_as it_aty ty len j k v A = some A') : ∃ B', im_as it_aty ty len j k v B = some B' ∧ im_le A' B' := by
  unfold im_as at h ⊢
  split at h
  · rename_i hc
    obtain ⟨h0, h1, h2, h3, h4, h5⟩ := hc
    cases h
    obtain ⟨g1, g2⟩ := hle.at h2 (Or.inl h1)
    refine ⟨_, by rw [if_pos (by rw [g1, hle.n]; exact ⟨h0, h1, h2, h3, h4, h5⟩)], hle.set⟩
  · cases h
theorem im_rd_ref {pc L : Nat} {ls : List Value} {o o' : Option (List Value)} {r : im_S} (hle : im_le A B) (ho : ∀ st, o = some st → o' = some st) (h : im_rd pc ls A L o = some (r, A')) : ∃ B', im_rd pc ls B L o' = some (r, B') ∧ im_le A' B' := by
  cases o with
  | none => cases h
  | some st =>
    cases h
    exact ⟨B, by rw [ho st rfl]; rfl, hle⟩
theorem im_wr_ref {pc L : Nat} {ls : List Value} {o o' : Option (List Value × im_M)} {r : im_S} (ho : ∀ st N, o = some (st, N) → ∃ N', o' = some (st, N') ∧ im_le N N') (h : im_wr pc ls L o = some (r, A')) : ∃ B', im_wr pc ls L o' = some (r, B') ∧ im_le A' B' := by
  cases o with
  | none => cases h
  | some q =>
    obtain ⟨st, N⟩ := q
    cases h
    obtain ⟨N', h1, h2⟩ := ho st _ rfl
    exact ⟨N', by rw [h1]; rfl, h2⟩
theorem im_ns_ref {y len pc : Nat} {me : it_Me} {i : Instr} {ls st : List Value} {r : im_S} (hme : it_met y = some me) (hle : im_le A B) (h : im_ns y i len pc ls st A = some (r, A')) : ∃ B', im_ns y i len pc ls st B = some (r, B') ∧ im_le A' B' := by
  have other : (match im_p i len pc ls st with | some r => some (r, A) | none => none) = some (r, A') → ∃ B', (match im_p i len pc ls st with | some r => some (r, B) | none => none) = some (r, B') ∧ im_le A' B' := by
    intro h1
    cases hp : im_p i len pc ls st with
    | none => rw [hp] at h1; cases h1
    | some r' => rw [hp] at h1; cases h1; exact ⟨B, rfl, hle⟩
  have ai : ∀ ty st N, im_ai ty len st A = some N → ∃ N', im_ai ty len st B = some (N.1, N') ∧ im_le N.2 N' := by
    intro ty st N ho
    unfold im_ai at ho ⊢
    split at ho
    · split at ho
      · rename_i M2 hM2
        cases ho
        obtain ⟨B', h1, h2⟩ := im_as_ref hle hM2
        exact ⟨B', by (try simp only); rw [h1], h2⟩
      · cases ho
    · cases ho
  cases i with
  | getfield idx =>
    refine im_rd_ref hle (fun st' ho => ?_) h
    unfold im_gf at ho ⊢
    split at ho
    · rename_i hl
      rw [if_pos hl]
      split at ho
      · rename_i q hq
        try simp only
        split at ho
        · rename_i a r'
          split at ho
          · rename_i hc
            obtain ⟨h1, h2, h3⟩ := hc
            obtain ⟨C, T, N, g1, g2, g3, g4, g5⟩ := it_fld_ok hq hme
            obtain ⟨-, -, g6⟩ := it_cl_ok g1
            obtain ⟨e1, e2⟩ := hle.at h2 (Or.inl h1)
            try simp only
            rw [if_pos (by rw [e1, hle.n]; exact ⟨h1, h2, h3⟩), e2 _ (by unfold im_inr; rw [h3, if_pos g2, g6]; exact g3)]
            exact ho
          · cases ho
        · cases ho
      · cases ho
    · cases ho
  | putfield idx =>
    refine im_wr_ref (fun st' N ho => ?_) h
    unfold im_pf at ho ⊢
    split at ho
    · rename_i hl
      rw [if_pos hl]
      split at ho
      · rename_i q hq
        try simp only
        split at ho
        · rename_i v a r'
          split at ho
          · rename_i hc
            obtain ⟨h1, h2, h3, h4⟩ := hc
            obtain ⟨e1, e2⟩ := hle.at h2 (Or.inl h1)
            cases ho
            exact ⟨_, by (try simp only); rw [if_pos (by rw [e1, hle.n]; exact ⟨h1, h2, h3, h4⟩)], hle.set⟩
          · cases ho
        · cases ho
      · cases ho
    · cases ho
  | new idx =>
    refine im_wr_ref (fun st' N ho => ?_) h
    unfold im_nw at ho ⊢
    split at ho
    · rename_i hl
      rw [if_pos (by rw [← hle.1]; exact hl)]
      split at ho
      · cases ho
        exact ⟨_, by (try simp only); rw [hle.n], hle.new⟩
      · cases ho
    · cases ho
  | newarray a =>
    refine im_wr_ref (fun st' N ho => ?_) h
    unfold im_na at ho ⊢
    split at ho
    · rename_i hl
      rw [if_pos (by rw [← hle.1]; exact hl)]
      split at ho
      · try simp only
        split at ho
        · split at ho
          · rename_i hn
            cases ho
            exact ⟨_, by (try simp only); rw [if_pos hn, hle.n], hle.new⟩
          · cases ho
        · cases ho
      · cases ho
    · cases ho
  | anewarray idx =>
    refine im_wr_ref (fun st' N ho => ?_) h
    unfold im_aw at ho ⊢
    split at ho
    · rename_i hl
      rw [if_pos (by rw [← hle.1]; exact hl)]
      split at ho
      · try simp only
        split at ho
        · split at ho
          · rename_i hn
            cases ho
            exact ⟨_, by (try simp only); rw [if_pos hn, hle.n], hle.new⟩
          · cases ho
        · cases ho
      · cases ho
    · cases ho
  | multianewarray idx dim =>
    refine im_wr_ref (fun st' N ho => ?_) h
    unfold im_mw at ho ⊢
    split at ho
    · rename_i hl
      rw [if_pos (by rw [← hle.1]; exact hl)]
      split at ho
      · split at ho
        · rename_i hn
          cases ho
          exact ⟨_, by (try simp only); rw [if_pos hn, hle.n], hle.new.new.new.new⟩
        · cases ho
      · cases ho
    · cases ho
  | arraylength =>
    refine im_rd_ref hle (fun st' ho => ?_) h
    unfold im_len at ho ⊢
    split at ho
    · rename_i hl
      rw [if_pos hl]
      split at ho
      · split at ho
        · rename_i hc
          obtain ⟨h1, h2, h3⟩ := hc
          obtain ⟨e1, e2⟩ := hle.at h1 (Or.inr h2)
          try simp only
          rw [e1, hle.n, if_pos ⟨h1, h2, h3⟩]
          exact ho
        · cases ho
      · cases ho
    · cases ho
  | iaload => exact im_rd_ref hle (fun st' ho => im_al_ref hle ho) h
  | caload => exact im_rd_ref hle (fun st' ho => im_al_ref hle ho) h
  | baload => exact im_rd_ref hle (fun st' ho => im_al_ref hle ho) h
  | laload => exact im_rd_ref hle (fun st' ho => im_al_ref hle ho) h
  | aaload =>
    refine im_rd_ref hle (fun st' ho => ?_) h
    unfold im_al2 at ho ⊢
    split at ho
    · rename_i j k r'
      try simp only
      split at ho
      · rename_i ty hty
        split at ho
        · rename_i hrf
          have hk : k < A.1.1 ∧ 30 ≤ (A.2.1 k).1 := by
            unfold im_al at ho
            split at ho
            · simp only at ho
              split at ho
              · rename_i hc
                exact ⟨hc.1, hc.2.1⟩
              · cases ho
            · cases ho
          have e1 : im_ar B k = some ty := by
            unfold im_ar at hty ⊢
            rw [(hle.at hk.1 (Or.inr hk.2)).1]
            exact hty
          rw [e1]
          try simp only
          rw [if_pos hrf]
          exact im_al_ref hle ho
        · cases ho
      · cases ho
    · cases ho
  | iastore => exact im_wr_ref (fun st' N ho => ai _ _ _ ho) h
  | castore => exact im_wr_ref (fun st' N ho => ai _ _ _ ho) h
  | bastore => exact im_wr_ref (fun st' N ho => ai _ _ _ ho) h
  | lastore =>
    refine im_wr_ref (fun st' N ho => ?_) h
    unfold im_al64 at ho ⊢
    split at ho
    · split at ho
      · rename_i M2 hM2
        cases ho
        obtain ⟨B', h1, h2⟩ := im_as_ref hle hM2
        exact ⟨B', by (try simp only); rw [h1], h2⟩
      · cases ho
    · cases ho
  | aastore =>
    refine im_wr_ref (fun st' N ho => ?_) h
    unfold im_aa at ho ⊢
    split at ho
    · rename_i v j k r'
      try simp only
      split at ho
      · rename_i ty hty
        split at ho
        · rename_i hc
          obtain ⟨h1, h2, h3⟩ := hc
          split at ho
          · rename_i M2 hM2
            cases ho
            have hk : 8 ≤ k ∧ k < A.1.1 := by
              unfold im_as at hM2
              split at hM2
              · rename_i hh
                exact ⟨hh.2.1, hh.2.2.1⟩
              · cases hM2
            obtain ⟨e1, -⟩ := hle.at hk.2 (Or.inl hk.1)
            obtain ⟨e2, -⟩ := hle.at h2 (Or.inl h1)
            obtain ⟨B', b1, b2⟩ := im_as_ref hle hM2
            rw [e1, hty]
            try simp only
            rw [if_pos (by rw [e2, hle.n]; exact ⟨h1, h2, h3⟩), b1]
            exact ⟨B', rfl, b2⟩
          · cases ho
        · cases ho
      · cases ho
    · cases ho
  | ldc idx =>
    have h' : (if len = 2 then (match it_str y idx with | some k => some (((pc + 2, ls, .ref k :: st) : im_S), A) | none => none) else none) = some (r, A') := h
    show ∃ B', (if len = 2 then (match it_str y idx with | some k => some (((pc + 2, ls, .ref k :: st) : im_S), B) | none => none) else none) = some (r, B') ∧ im_le A' B'
    split at h'
    · rename_i hl
      rw [if_pos hl]
      split at h'
      · cases h'; exact ⟨B, rfl, hle⟩
      · cases h'
    · cases h'
  | _ => exact other h
theorem im_recv_ref {i : Instr} {z : Nat} {as : List Value} (hle : im_le A B) (h : im_recv i z as A = true) : im_recv i z as B = true := by
  unfold im_recv at h ⊢
  split at h
  · exact h
  · rw [Bool.and_eq_true] at h ⊢
    refine ⟨h.1, ?_⟩
    have h2 := h.2
    split at h2
    · have h3 := of_decide_eq_true h2
      try simp only
      rw [(hle.at h3.2.1 (Or.inl h3.1)).1, hle.n]
      exact h2
    · cases h2
theorem im_run_ref : ∀ (n d y pc : Nat) (ls st : List Value) (A B : im_M) (o : im_O) (A' : im_M), im_le A B → im_run n d y pc ls st A = some (o, A') → ∃ B', im_run n d y pc ls st B = some (o, B') ∧ im_le A' B' := by
  intro n
  induction n with
  | zero => intro d y pc ls st A B o A' _ h; cases h
  | succ n ih =>
    intro d y pc ls st A B o A' hle h
    rw [im_run] at h ⊢
    unfold im_F at h ⊢
    cases hdec : im_dec y pc with
    | none => simp only [hdec] at h; cases h
    | some q =>
      obtain ⟨i, len⟩ := q
      have hme : ∃ me, it_met y = some me := by
        unfold im_dec at hdec
        cases hm : it_met y with
        | none => rw [hm] at hdec; cases hdec
        | some me => exact ⟨me, rfl⟩
      obtain ⟨me, hme⟩ := hme
      simp only [hdec] at h ⊢
      cases hret : im_ret y i len st with
      | some v => simp only [hret] at h ⊢; cases h; exact ⟨B, rfl, hle⟩
      | none =>
        simp only [hret] at h ⊢
        cases hthr : it_thr y pc with
        | some ec =>
          simp only [hthr] at h ⊢
          split at h
          · rename_i hs
            rw [if_pos hs]
            cases h
            exact ⟨im_dead B 1 6, by rw [hle.tot], hle.dead⟩
          · cases h
        | none =>
          simp only [hthr] at h ⊢
          have hpe : im_prim y i len st B = im_prim y i len st A := rfl
          rw [hpe]
          cases hpr : im_prim y i len st A with
          | some st' => simp only [hpr] at h ⊢; exact ih _ _ _ _ _ _ _ _ _ hle h
          | none =>
            simp only [hpr] at h ⊢
            cases hca : im_call y i len st with
            | none =>
              simp only [hca] at h ⊢
              cases hns : im_ns y i len pc ls st A with
              | none => simp only [hns] at h; cases h
              | some q =>
                obtain ⟨r, A1⟩ := q
                obtain ⟨B1, b1, b2⟩ := im_ns_ref hme hle hns
                simp only [hns] at h
                simp only [b1]
                exact ih _ _ _ _ _ _ _ _ _ b2 h
            | some q =>
              obtain ⟨z, as, rest⟩ := q
              simp only [hca] at h ⊢
              cases d with
              | zero => cases h
              | succ d =>
                simp only at h ⊢
                split at h
                · rename_i hc
                  rw [if_pos ⟨hc.1, im_recv_ref hle hc.2⟩]
                  cases hf : im_run n d z 0 (as ++ List.replicate (im_max z - as.length) (.retAddr 0)) [] A with
                  | none => simp only [hf] at h; cases h
                  | some w =>
                    obtain ⟨o1, A1⟩ := w
                    obtain ⟨B1, b1, b2⟩ := ih _ _ _ _ _ _ _ _ _ hle hf
                    simp only [hf] at h
                    rw [b1]
                    cases o1 with
                    | inl v => exact ih _ _ _ _ _ _ _ _ _ b2 h
                    | inr q =>
                      simp only at h ⊢
                      cases hh : im_hand y pc q.1 with
                      | some hp => simp only [hh] at h ⊢; exact ih _ _ _ _ _ _ _ _ _ b2 h
                      | none =>
                        simp only [hh] at h ⊢
                        split at h
                        · rename_i hno
                          rw [if_pos hno]
                          cases h
                          exact ⟨B1, rfl, b2⟩
                        · cases h
                · cases h
end REFINE
end
section
/-! What the machine comes to: iw d y pc ls st M Q: with steps enough it ends, and Q holds of how it ends. -/
theorem im_F_mono {f g : Nat → Nat → Nat → List Value → List Value → im_M → Option (im_O × im_M)} (hfg : ∀ d y pc ls st M r, f d y pc ls st M = some r → g d y pc ls st M = some r) {d y pc : Nat} {ls st : List Value} {M : im_M} {r : im_O × im_M} (h : im_F f d y pc ls st M = some r) : im_F g d y pc ls st M = some r := by
  unfold im_F at h ⊢
  cases hdec : im_dec y pc with
  | none => simp only [hdec] at h; cases h
  | some q =>
    obtain ⟨i, len⟩ := q
    simp only [hdec] at h ⊢
    cases hret : im_ret y i len st with
    | some v => simp only [hret] at h ⊢; exact h
    | none =>
      simp only [hret] at h ⊢
      cases hthr : it_thr y pc with
      | some ec => simp only [hthr] at h ⊢; exact h
      | none =>
        simp only [hthr] at h ⊢
        cases hpr : im_prim y i len st M with
        | some st' => simp only [hpr] at h ⊢; exact hfg _ _ _ _ _ _ _ h
        | none =>
          simp only [hpr] at h ⊢
          cases hca : im_call y i len st with
          | none =>
            simp only [hca] at h ⊢
            cases hns : im_ns y i len pc ls st M with
            | none => simp only [hns] at h; cases h
            | some q => simp only [hns] at h ⊢; exact hfg _ _ _ _ _ _ _ h
          | some q =>
            obtain ⟨z, as, rest⟩ := q
            simp only [hca] at h ⊢
            cases d with
            | zero => cases h
            | succ d =>
              simp only at h ⊢
              split at h
              · rename_i hc
                rw [if_pos hc]
                cases hf : f d z 0 (as ++ List.replicate (im_max z - as.length) (.retAddr 0)) [] M with
                | none => simp only [hf] at h; cases h
                | some w =>
                  rw [hfg _ _ _ _ _ _ _ hf]
                  obtain ⟨o1, M1⟩ := w
                  simp only [hf] at h
                  cases o1 with
                  | inl v => exact hfg _ _ _ _ _ _ _ h
                  | inr q =>
                    simp only at h ⊢
                    cases hh : im_hand y pc q.1 with
                    | some hp => simp only [hh] at h ⊢; exact hfg _ _ _ _ _ _ _ h
                    | none => simp only [hh] at h ⊢; exact h
              · cases h
theorem im_run_succ : ∀ (n d y pc : Nat) (ls st : List Value) (M : im_M) (r : im_O × im_M), im_run n d y pc ls st M = some r → im_run (n + 1) d y pc ls st M = some r := by
  intro n
  induction n with
  | zero => intro d y pc ls st M r h; cases h
  | succ n ih => intro d y pc ls st M r h; exact im_F_mono (f := im_run n) (g := im_run (n + 1)) ih h
theorem im_run_le {n k d y pc : Nat} {ls st : List Value} {M : im_M} {r : im_O × im_M} (hk : n ≤ k) (h : im_run n d y pc ls st M = some r) : im_run k d y pc ls st M = some r := by
  induction hk with
  | refl => exact h
  | step _ ih => exact im_run_succ _ _ _ _ _ _ _ _ ih
def iw (d y pc : Nat) (ls st : List Value) (M : im_M) (Q : im_O → im_M → Prop) : Prop := ∃ n o M', im_run n d y pc ls st M = some (o, M') ∧ Q o M'
section WP
variable {d y pc : Nat} {ls st : List Value} {M : im_M} {Q Q' : im_O → im_M → Prop}
theorem iw.mono (h : iw d y pc ls st M Q) (hQ : ∀ o M', Q o M' → Q' o M') : iw d y pc ls st M Q' := by
  obtain ⟨n, o, M', h1, h2⟩ := h
  exact ⟨n, o, M', h1, hQ o M' h2⟩
/-- instructions that neither call nor end -/
def im_pl : Instr → Bool
  | .ireturn => false | .areturn => false | .return_ => false
  | .invokevirtual _ => false | .invokespecial _ => false | .invokestatic _ => false
  | _ => true
/-- the instruction at a place, as printed: no throw begins there -/
def im_at (y pc : Nat) (i : Instr) (len : Nat) : Prop := im_dec y pc = some (i, len) ∧ it_thr y pc = none
theorem im_ret_no {i : Instr} {len : Nat} (h : im_pl i = true) : im_ret y i len st = none := by
  unfold im_ret
  cases it_met y with
  | none => rfl
  | some me => cases i <;> first | rfl | cases h
theorem im_prim_no {i : Instr} {len : Nat} (h : im_pl i = true) : im_prim y i len st M = none := by
  unfold im_prim
  split
  · cases i <;> first | rfl | cases h
  · rfl
theorem im_call_no {i : Instr} {len : Nat} (h : im_pl i = true) : im_call y i len st = none := by
  unfold im_call
  split
  · cases i <;> first | rfl | cases h
  · rfl
/-- what an instruction does: none, or a state that is then looked at -/
def iw_then (d y : Nat) (Q : im_O → im_M → Prop) : Option (im_S × im_M) → Prop
  | some q => iw d y q.1.1 q.1.2.1 q.1.2.2 q.2 Q
  | none => False
theorem iw_step {i : Instr} {len : Nat} (hat : im_at y pc i len) (hp : im_pl i = true) : iw d y pc ls st M Q ↔ iw_then d y Q (im_ns y i len pc ls st M) := by
  have key : ∀ n, im_run (n + 1) d y pc ls st M = (match im_ns y i len pc ls st M with | some (r, M1) => im_run n d y r.1 r.2.1 r.2.2 M1 | none => none) := by
    intro n
    show im_F (im_run n) d y pc ls st M = _
    unfold im_F
    simp only [hat.1, im_ret_no hp, hat.2, im_prim_no hp, im_call_no hp]
    rfl
  constructor
  · rintro ⟨n, o, M', h1, h2⟩
    cases n with
    | zero => cases h1
    | succ n =>
      rw [key] at h1
      cases hns : im_ns y i len pc ls st M with
      | none => rw [hns] at h1; cases h1
      | some q => rw [hns] at h1; exact ⟨n, o, M', h1, h2⟩
  · intro h
    cases hns : im_ns y i len pc ls st M with
    | none => rw [hns] at h; exact h.elim
    | some q =>
      rw [hns] at h
      obtain ⟨n, o, M', h1, h2⟩ := h
      exact ⟨n + 1, o, M', by rw [key, hns]; exact h1, h2⟩
theorem iw_ret {i : Instr} {len : Nat} {v : Option Value} (hdec : im_dec y pc = some (i, len)) (hr : im_ret y i len st = some v) : iw d y pc ls st M Q ↔ Q (.inl v) M := by
  have key : ∀ n, im_run (n + 1) d y pc ls st M = some (.inl v, M) := by
    intro n
    show im_F (im_run n) d y pc ls st M = _
    unfold im_F
    simp only [hdec, hr]
  constructor
  · rintro ⟨n, o, M', h1, h2⟩
    cases n with
    | zero => cases h1
    | succ n => rw [key] at h1; cases h1; exact h2
  · intro h
    exact ⟨1, _, _, key 0, h⟩
theorem iw_thr {i : Instr} {len ec : Nat} (hdec : im_dec y pc = some (i, len)) (hr : im_ret y i len st = none) (ht : it_thr y pc = some ec) (hs : (st.map Value.category).sum ≤ 8) : iw d y pc ls st M Q ↔ Q (.inr (ec, im_tot M)) (im_dead M 1 6) := by
  have key : ∀ n, im_run (n + 1) d y pc ls st M = some (.inr (ec, im_tot M), im_dead M 1 6) := by
    intro n
    show im_F (im_run n) d y pc ls st M = _
    unfold im_F
    simp only [hdec, hr, ht, hs, if_true]
  constructor
  · rintro ⟨n, o, M', h1, h2⟩
    cases n with
    | zero => cases h1
    | succ n => rw [key] at h1; cases h1; exact h2
  · intro h
    exact ⟨1, _, _, key 0, h⟩
theorem iw_prim {i : Instr} {len : Nat} {st' : List Value} (hat : im_at y pc i len) (hr : im_ret y i len st = none) (hp : im_prim y i len st M = some st') : iw d y pc ls st M Q ↔ iw d y (pc + 3) ls st' M Q := by
  have key : ∀ n, im_run (n + 1) d y pc ls st M = im_run n d y (pc + 3) ls st' M := by
    intro n
    show im_F (im_run n) d y pc ls st M = _
    unfold im_F
    simp only [hat.1, hr, hat.2, hp]
  constructor
  · rintro ⟨n, o, M', h1, h2⟩
    cases n with
    | zero => cases h1
    | succ n => rw [key] at h1; exact ⟨n, o, M', h1, h2⟩
  · rintro ⟨n, o, M', h1, h2⟩
    exact ⟨n + 1, o, M', by rw [key]; exact h1, h2⟩
/-- behind a call -/
def iw_back (d y pc : Nat) (ls rest : List Value) (Q : im_O → im_M → Prop) : im_O → im_M → Prop
  | .inl v, M1 => iw d y (pc + 3) ls (v.toList ++ rest) M1 Q
  | .inr q, M1 => match im_hand y pc q.1 with
    | some h => iw d y h ls [.ref q.2] M1 Q
    | none => im_nohand y = true ∧ Q (.inr q) M1
theorem iw_call {i : Instr} {len z : Nat} {as rest : List Value} (hat : im_at y pc i len) (hr : im_ret y i len st = none) (hp : im_prim y i len st M = none) (hc : im_call y i len st = some (z, as, rest)) (hck : as.length ≤ im_max z ∧ im_recv i z as M = true) :
    iw (d + 1) y pc ls st M Q ↔ iw d z 0 (as ++ List.replicate (im_max z - as.length) (.retAddr 0)) [] M (iw_back (d + 1) y pc ls rest Q) := by
  have key : ∀ n, im_run (n + 1) (d + 1) y pc ls st M = (match im_run n d z 0 (as ++ List.replicate (im_max z - as.length) (.retAddr 0)) [] M with
                | some (.inl v, M1) => im_run n (d + 1) y (pc + 3) ls (v.toList ++ rest) M1
                | some (.inr q, M1) => (match im_hand y pc q.1 with
                  | some h => im_run n (d + 1) y h ls [.ref q.2] M1
                  | none => if im_nohand y = true then some (.inr q, M1) else none)
                | none => none) := by
    intro n
    show im_F (im_run n) (d + 1) y pc ls st M = _
    unfold im_F
    simp only [hat.1, hr, hat.2, hp, hc]
    rw [if_pos hck]
    rfl
  constructor
  · rintro ⟨n, o, M', h1, h2⟩
    cases n with
    | zero => cases h1
    | succ n =>
      rw [key] at h1
      cases hz : im_run n d z 0 (as ++ List.replicate (im_max z - as.length) (.retAddr 0)) [] M with
      | none => rw [hz] at h1; cases h1
      | some w =>
        obtain ⟨o1, M1⟩ := w
        rw [hz] at h1
        refine ⟨n, o1, M1, hz, ?_⟩
        cases o1 with
        | inl v => exact ⟨n, o, M', h1, h2⟩
        | inr q =>
          simp only at h1
          show (match im_hand y pc q.1 with | some h => iw (d + 1) y h ls [.ref q.2] M1 Q | none => im_nohand y = true ∧ Q (.inr q) M1)
          cases hh : im_hand y pc q.1 with
          | some hp => rw [hh] at h1; exact ⟨n, o, M', h1, h2⟩
          | none =>
            rw [hh] at h1
            simp only at h1
            split at h1
            · rename_i hno
              cases h1
              exact ⟨hno, h2⟩
            · cases h1
  · rintro ⟨n, o1, M1, hz, hb⟩
    cases o1 with
    | inl v =>
      obtain ⟨k, o, M', h1, h2⟩ := hb
      refine ⟨max n k + 1, o, M', ?_, h2⟩
      rw [key, im_run_le (Nat.le_max_left n k) hz]
      exact im_run_le (Nat.le_max_right n k) h1
    | inr q =>
      have hb' : (match im_hand y pc q.1 with | some h => iw (d + 1) y h ls [.ref q.2] M1 Q | none => im_nohand y = true ∧ Q (.inr q) M1) := hb
      cases hh : im_hand y pc q.1 with
      | some hp =>
        rw [hh] at hb'
        obtain ⟨k, o, M', h1, h2⟩ := hb'
        refine ⟨max n k + 1, o, M', ?_, h2⟩
        rw [key, im_run_le (Nat.le_max_left n k) hz]
        simp only [hh]
        exact im_run_le (Nat.le_max_right n k) h1
      | none =>
        rw [hh] at hb'
        refine ⟨n + 1, .inr q, M1, ?_, hb'.2⟩
        rw [key, hz]
        simp only [hh, hb'.1, if_true]
end WP
end
section
/-! The two constructors, run by the kernel. -/
def it_Mc : im_M := ((8, 0, 0), (fun _ => (0, 0)), (fun _ _ => .null))
def it_c1 : Option (im_O × im_M) := im_run 100000 29 1 0 ([.ref 8] ++ List.replicate 1 (.retAddr 0)) [] (im_new it_Mc 11 0 9 (fun j => defaultValue (it_ty 11 j)))
theorem it_c1_ok : it_c1.isSome = true := by decide +kernel
end
section
/-! The memory behind the constructors, in one form: mi holds all ints, rw the row of messages, o the law's long. -/
def it_shl : List (Nat × Nat) := [(11, 0), (0, 0), (31, 120), (0, 0), (31, 40), (1, 0), (30, 40), (30, 40), (3, 0), (2, 0), (30, 30), (30, 30), (30, 30), (30, 30), (1, 0), (30, 120), (30, 120), (30, 4), (30, 4), (4, 0), (30, 48), (30, 48), (30, 48), (30, 48), (30, 48), (30, 3), (35, 3), (7, 0), (30, 3), (36, 3), (30, 3), (30, 3), (30, 3), (6, 0), (30, 48), (30, 48), (30, 48), (30, 48), (32, 48), (30, 3), (5, 0), (7, 0), (30, 3), (36, 3), (30, 3), (30, 3), (30, 3), (6, 0), (30, 48), (30, 48), (30, 48), (30, 48), (32, 48), (30, 3), (5, 0), (7, 0), (30, 3), (36, 3), (30, 3), (30, 3), (30, 3), (6, 0), (30, 48), (30, 48), (30, 48), (30, 48), (32, 48), (30, 3), (5, 0), (9, 0), (34, 6), (8, 0), (30, 3), (30, 3), (8, 0), (30, 3), (30, 3), (8, 0), (30, 3), (30, 3), (8, 0), (30, 3), (30, 3), (8, 0), (30, 3), (30, 3), (8, 0), (30, 3), (30, 3), (10, 0), (30, 48), (12, 0), (31, 120), (31, 40), (31, 120), (31, 8), (32, 8), (32, 8), (32, 8), (30, 32), (30, 32), (30, 32), (31, 120), (30, 4), (30, 4), (30, 3), (30, 48), (30, 48), (30, 48), (30, 48), (30, 48), (30, 9), (30, 27), (30, 3), (30, 6), (30, 6), (30, 18), (30, 18), (32, 48), (30, 48), (30, 48), (30, 48), (30, 48), (32, 48), (30, 3), (30, 48), (33, 1)]
def it_sh (L : Nat) (k : Nat) : Nat × Nat := if k = 0 then (39, L) else if k < 8 then (0, 0) else it_shl.getD (k - 8) (0, 0)
def it_rfs : List (Nat × List (Option Nat)) := [(8, [some 9, some 11, some 13, some 16, some 27, some 34, some 77, some 97, none]), (9, [some 10, none, some 1, none, none, none]), (11, [some 12, none, some 2, none, none, none]), (13, [some 14, some 15, none]), (16, [some 17, some 25, some 26]), (17, [some 18, some 19, some 20, some 21, some 22, none]), (22, [some 23, some 24, none]), (27, [some 28, some 29, some 30, some 31, some 32, some 33, none]), (34, [some 35, some 49, some 63]), (35, [some 36, some 37, some 41, none]), (37, [some 38, some 39, some 40]), (41, [some 42, some 43, some 44, some 45, some 46, some 47, some 48]), (49, [some 50, some 51, some 55, none]), (51, [some 52, some 53, some 54]), (55, [some 56, some 57, some 58, some 59, some 60, some 61, some 62]), (63, [some 64, some 65, some 69, none]), (65, [some 66, some 67, some 68]), (69, [some 70, some 71, some 72, some 73, some 74, some 75, some 76]), (77, [some 78, none]), (79, [some 80, some 81, none, none]), (82, [some 83, some 84, none, none]), (85, [some 86, some 87, none, none]), (88, [some 89, some 90, none, none]), (91, [some 92, some 93, none, none]), (94, [some 95, some 96, none, none]), (97, [some 98, none]), (99, [none, none, some 100, none, some 101, none, some 102, none, none, none, none, some 103, some 104, some 105, some 106, none, none, some 107, some 108, some 109, none, some 110, some 111, some 112, some 113, some 114, some 115, some 116, some 117, some 118, some 119, some 120, some 121, none, some 122, some 123, some 124, some 125, some 126, some 127, some 128, some 129, some 130, some 131, some 132, none, some 133])]
def it_ref (k j : Nat) : Option Nat := match it_rfs.lookup k with | some l => l.getD j none | none => none
abbrev it_Mu : Type := (Nat → Nat → Int32) × (Nat → Nat) × (Nat → Int64)
def it_cv (xs : Nat → Int32) (mi : Nat → Nat → Int32) (rw : Nat → Nat) (o : Nat → Int64) (k j : Nat) : Value := if k = 0 then .int (xs j) else if k = 134 then .long (o j) else if k = 78 then .ref (rw j) else match it_ref k j with | some r => .ref r | none => .int (mi k j)
def it_mem (L : Nat) (xs : Nat → Int32) (mi : Nat → Nat → Int32) (rw : Nat → Nat) (o : Nat → Int64) (g z : Nat) : im_M := ((135, g, z), it_sh L, it_cv xs mi rw o)
def it_up (mi : Nat → Nat → Int32) (k j : Nat) (x : Int32) : Nat → Nat → Int32 := fun a b => if a = k ∧ b = j then x else mi a b
theorem it_up_same (mi : Nat → Nat → Int32) (k j : Nat) (x : Int32) : it_up mi k j x k j = x := by simp [it_up]
theorem it_up_k (mi : Nat → Nat → Int32) {k a : Nat} (j b : Nat) (x : Int32) (h : a ≠ k) : it_up mi k j x a b = mi a b := by simp [it_up, h]
theorem it_up_j (mi : Nat → Nat → Int32) (k : Nat) {j b : Nat} (x : Int32) (h : b ≠ j) : it_up mi k j x k b = mi k b := by simp [it_up, h]
theorem it_mem_set {L : Nat} {xs : Nat → Int32} {mi : Nat → Nat → Int32} {rw : Nat → Nat} {o : Nat → Int64} {g z k j : Nat} {x : Int32} (h0 : k ≠ 0) (h1 : k ≠ 134) (h2 : k ≠ 78) (h3 : it_ref k j = none) : im_set (it_mem L xs mi rw o g z) k j (.int x) = it_mem L xs (it_up mi k j x) rw o g z := by
  unfold im_set it_mem
  simp only [Prod.mk.injEq, true_and]
  funext a b
  by_cases e : a = k
  · subst e
    rw [va_up_self]
    by_cases e2 : b = j
    · subst e2
      rw [va_up_self]
      simp [it_cv, h0, h1, h2, h3, it_up]
    · rw [va_up_ne _ _ e2]
      simp only [it_cv, it_up_j mi a x e2]
  · rw [va_up_ne _ _ e]
    simp only [it_cv, it_up_k mi j b x e]
theorem it_mem_row {L : Nat} {xs : Nat → Int32} {mi : Nat → Nat → Int32} {rw : Nat → Nat} {o : Nat → Int64} {g z j r : Nat} : im_set (it_mem L xs mi rw o g z) 78 j (.ref r) = it_mem L xs mi (va_up rw j r) o g z := by
  unfold im_set it_mem
  simp only [Prod.mk.injEq, true_and]
  funext a b
  by_cases e : a = 78
  · subst e
    rw [va_up_self]
    by_cases e2 : b = j
    · subst e2
      rw [va_up_self]
      simp [it_cv, va_up_self]
    · rw [va_up_ne _ _ e2]
      simp [it_cv, va_up_ne _ _ e2]
  · rw [va_up_ne _ _ e]
    simp only [it_cv, e, if_false]
theorem it_mem_out {L : Nat} {xs : Nat → Int32} {mi : Nat → Nat → Int32} {rw : Nat → Nat} {o : Nat → Int64} {g z j : Nat} {v : Int64} : im_set (it_mem L xs mi rw o g z) 134 j (.long v) = it_mem L xs mi rw (va_up o j v) g z := by
  unfold im_set it_mem
  simp only [Prod.mk.injEq, true_and]
  funext a b
  by_cases e : a = 134
  · subst e
    rw [va_up_self]
    by_cases e2 : b = j
    · subst e2
      rw [va_up_self]
      simp [it_cv, va_up_self]
    · rw [va_up_ne _ _ e2]
      simp [it_cv, va_up_ne _ _ e2]
  · rw [va_up_ne _ _ e]
    simp only [it_cv, e, if_false]
theorem it_mem_dead {L : Nat} {xs : Nat → Int32} {mi : Nat → Nat → Int32} {rw : Nat → Nat} {o : Nat → Int64} {g z : Nat} : im_dead (it_mem L xs mi rw o g z) 1 6 = it_mem L xs mi rw o (g + 1) (z + 6) := rfl
theorem it_mem_tot {L : Nat} {xs : Nat → Int32} {mi : Nat → Nat → Int32} {rw : Nat → Nat} {o : Nat → Int64} {g z : Nat} : im_tot (it_mem L xs mi rw o g z) = 135 + g := rfl
/-- of which class a place is; an array's kind, its length -/
def it_kd (a : Nat) : Nat := if a = 0 then 39 else if a < 8 then 0 else (it_shl.getD (a - 8) (0, 0)).1
def it_isk (ci a : Nat) : Bool := decide (8 ≤ a ∧ a < 135 ∧ it_kd a = ci)
def it_isa (ty : FieldType) (a : Nat) : Bool := decide (a < 135 ∧ 30 ≤ it_kd a ∧ it_aty (it_kd a) = some ty)
def it_ln (L a : Nat) : Nat := if a = 0 then L else if a < 8 then 0 else (it_shl.getD (a - 8) (0, 0)).2
theorem it_sh_eq (L a : Nat) : it_sh L a = (it_kd a, it_ln L a) := by
  unfold it_sh it_kd it_ln
  split
  · rfl
  · split <;> rfl
theorem it_prim_all : (List.range 135).all (fun a => !(decide (30 ≤ it_kd a) && (decide (it_aty (it_kd a) = some .int) || decide (it_aty (it_kd a) = some .char) || decide (it_aty (it_kd a) = some .boolean))) || ((it_rfs.lookup a).isNone && decide (a ≠ 134) && decide (a ≠ 78))) = true := by decide +kernel
theorem it_prim {ty : FieldType} {a : Nat} (h : it_isa ty a = true) (ht : ty = .int ∨ ty = .char ∨ ty = .boolean) : (∀ j, it_ref a j = none) ∧ a ≠ 134 ∧ a ≠ 78 := by
  obtain ⟨h1, h2, h3⟩ := of_decide_eq_true h
  have h4 := List.all_eq_true.mp it_prim_all a (List.mem_range.mpr h1)
  have h5 : (decide (30 ≤ it_kd a) && (decide (it_aty (it_kd a) = some .int) || decide (it_aty (it_kd a) = some .char) || decide (it_aty (it_kd a) = some .boolean))) = true := by
    rcases ht with rfl | rfl | rfl <;> simp [h2, h3]
  rw [h5] at h4
  simp only [Bool.not_true, Bool.false_or, Bool.and_eq_true, decide_eq_true_eq] at h4
  refine ⟨fun j => ?_, h4.1.2, h4.2⟩
  unfold it_ref
  rw [Option.isNone_iff_eq_none.mp h4.1.1]
theorem it_obj_all : (List.range 135).all (fun a => !(decide (8 ≤ a) && decide (it_kd a < 30)) || (decide (a ≠ 134) && decide (a ≠ 78) && decide (a ≠ 0))) = true := by decide +kernel
theorem it_obj {ci a : Nat} (h : it_isk ci a = true) (hc : ci < 30) : a ≠ 0 ∧ a ≠ 134 ∧ a ≠ 78 := by
  obtain ⟨h1, h2, h3⟩ := of_decide_eq_true h
  have h4 := List.all_eq_true.mp it_obj_all a (List.mem_range.mpr h2)
  have h5 : (decide (8 ≤ a) && decide (it_kd a < 30)) = true := by simp [h1, h3, hc]
  rw [h5] at h4
  simp only [Bool.not_true, Bool.false_or, Bool.and_eq_true, decide_eq_true_eq] at h4
  exact ⟨h4.2, h4.1.1, h4.1.2⟩
end
section
/-! Rows an instruction kind: what the machine comes to, before and behind it. -/
section ROWS
variable {d y pc : Nat} {ls st : List Value} {M : im_M} {Q : im_O → im_M → Prop}
theorem r_eq {i : Instr} {len : Nat} {r : im_S} {M1 : im_M} (h : im_at y pc i len) (hp : im_pl i = true) (e : im_ns y i len pc ls st M = some (r, M1)) : iw d y pc ls st M Q ↔ iw d y r.1 r.2.1 r.2.2 M1 Q := by
  rw [iw_step h hp, e]
  exact Iff.rfl
theorem r_no {i : Instr} {len : Nat} (h : im_at y pc i len) (hp : im_pl i = true) (e : im_ns y i len pc ls st M = none) : iw d y pc ls st M Q ↔ False := by
  rw [iw_step h hp, e]
  exact Iff.rfl
theorem r_iconst {n : Int} {v : Int32} (h : im_at y pc (.iconst n) 1) (hv : Int32.ofInt n = v) : iw d y pc ls st M Q ↔ iw d y (pc + 1) ls (.int v :: st) M Q := by
  subst hv; exact r_eq h rfl rfl
theorem r_bipush {n : Int} {v : Int32} (h : im_at y pc (.bipush n) 2) (hv : (Int8.ofInt n).toInt32 = v) : iw d y pc ls st M Q ↔ iw d y (pc + 2) ls (.int v :: st) M Q := by
  subst hv; exact r_eq h rfl rfl
theorem r_iload_n {k : Fin 4} {x : Int32} (h : im_at y pc (.iload_n k) 1) (hk : ls[(k : Nat)]? = some (.int x)) : iw d y pc ls st M Q ↔ iw d y (pc + 1) ls (.int x :: st) M Q :=
  r_eq (r := (pc + 1, ls, .int x :: st)) (M1 := M) h rfl (by simp only [im_ns, im_p, im_ldI, hk, if_true])
theorem r_iload {k : Nat} {x : Int32} (h : im_at y pc (.iload k) 2) (hk : ls[k]? = some (.int x)) : iw d y pc ls st M Q ↔ iw d y (pc + 2) ls (.int x :: st) M Q :=
  r_eq (r := (pc + 2, ls, .int x :: st)) (M1 := M) h rfl (by simp only [im_ns, im_p, im_ldI, hk, if_true])
theorem r_aload_n {k : Fin 4} {x : Nat} (h : im_at y pc (.aload_n k) 1) (hk : ls[(k : Nat)]? = some (.ref x)) : iw d y pc ls st M Q ↔ iw d y (pc + 1) ls (.ref x :: st) M Q :=
  r_eq (r := (pc + 1, ls, .ref x :: st)) (M1 := M) h rfl (by simp only [im_ns, im_p, im_ldA, hk, if_true])
theorem r_aload {k : Nat} {x : Nat} (h : im_at y pc (.aload k) 2) (hk : ls[k]? = some (.ref x)) : iw d y pc ls st M Q ↔ iw d y (pc + 2) ls (.ref x :: st) M Q :=
  r_eq (r := (pc + 2, ls, .ref x :: st)) (M1 := M) h rfl (by simp only [im_ns, im_p, im_ldA, hk, if_true])
theorem r_istore_n {k : Fin 4} {x : Int32} {ls' : List Value} (h : im_at y pc (.istore_n k) 1) (hk : (k : Nat) < ls.length) (hl : ls.set (k : Nat) (.int x) = ls') : iw d y pc ls (.int x :: st) M Q ↔ iw d y (pc + 1) ls' st M Q :=
  r_eq (r := (pc + 1, ls', st)) (M1 := M) h rfl (by simp only [im_ns, im_p, im_stI, hk, if_true, hl])
theorem r_istore {k : Nat} {x : Int32} {ls' : List Value} (h : im_at y pc (.istore k) 2) (hk : k < ls.length) (hl : ls.set k (.int x) = ls') : iw d y pc ls (.int x :: st) M Q ↔ iw d y (pc + 2) ls' st M Q :=
  r_eq (r := (pc + 2, ls', st)) (M1 := M) h rfl (by simp only [im_ns, im_p, im_stI, hk, if_true, hl])
theorem r_astore_n {k : Fin 4} {x : Nat} {ls' : List Value} (h : im_at y pc (.astore_n k) 1) (hk : (k : Nat) < ls.length) (hl : ls.set (k : Nat) (.ref x) = ls') : iw d y pc ls (.ref x :: st) M Q ↔ iw d y (pc + 1) ls' st M Q :=
  r_eq (r := (pc + 1, ls', st)) (M1 := M) h rfl (by simp only [im_ns, im_p, im_stA, hk, if_true, hl])
theorem r_astore {k : Nat} {x : Nat} {ls' : List Value} (h : im_at y pc (.astore k) 2) (hk : k < ls.length) (hl : ls.set k (.ref x) = ls') : iw d y pc ls (.ref x :: st) M Q ↔ iw d y (pc + 2) ls' st M Q :=
  r_eq (r := (pc + 2, ls', st)) (M1 := M) h rfl (by simp only [im_ns, im_p, im_stA, hk, if_true, hl])
theorem r_iinc {k : Nat} {n : Int} {x c : Int32} {ls' : List Value} (h : im_at y pc (.iinc k n) 3) (hc : Int32.ofInt n = c) (hk : ls[k]? = some (.int x)) (hl : ls.set k (.int (x + c)) = ls') : iw d y pc ls st M Q ↔ iw d y (pc + 3) ls' st M Q :=
  r_eq (r := (pc + 3, ls', st)) (M1 := M) h rfl (by subst hc; simp only [im_ns, im_p, im_inc, hk, if_true, hl])
theorem r_iadd {x y0 : Int32} (h : im_at y pc .iadd 1) : iw d y pc ls (.int y0 :: .int x :: st) M Q ↔ iw d y (pc + 1) ls (.int (x + y0) :: st) M Q := r_eq (r := (pc + 1, ls, .int (x + y0) :: st)) (M1 := M) h rfl rfl
theorem r_isub {x y0 : Int32} (h : im_at y pc .isub 1) : iw d y pc ls (.int y0 :: .int x :: st) M Q ↔ iw d y (pc + 1) ls (.int (x - y0) :: st) M Q := r_eq (r := (pc + 1, ls, .int (x - y0) :: st)) (M1 := M) h rfl rfl
theorem r_imul {x y0 : Int32} (h : im_at y pc .imul 1) : iw d y pc ls (.int y0 :: .int x :: st) M Q ↔ iw d y (pc + 1) ls (.int (x * y0) :: st) M Q := r_eq (r := (pc + 1, ls, .int (x * y0) :: st)) (M1 := M) h rfl rfl
theorem r_iand {x y0 : Int32} (h : im_at y pc .iand 1) : iw d y pc ls (.int y0 :: .int x :: st) M Q ↔ iw d y (pc + 1) ls (.int (x &&& y0) :: st) M Q := r_eq (r := (pc + 1, ls, .int (x &&& y0) :: st)) (M1 := M) h rfl rfl
theorem r_ior {x y0 : Int32} (h : im_at y pc .ior 1) : iw d y pc ls (.int y0 :: .int x :: st) M Q ↔ iw d y (pc + 1) ls (.int (x ||| y0) :: st) M Q := r_eq (r := (pc + 1, ls, .int (x ||| y0) :: st)) (M1 := M) h rfl rfl
theorem r_ixor {x y0 : Int32} (h : im_at y pc .ixor 1) : iw d y pc ls (.int y0 :: .int x :: st) M Q ↔ iw d y (pc + 1) ls (.int (x ^^^ y0) :: st) M Q := r_eq (r := (pc + 1, ls, .int (x ^^^ y0) :: st)) (M1 := M) h rfl rfl
theorem r_ishl {x y0 : Int32} (h : im_at y pc .ishl 1) : iw d y pc ls (.int y0 :: .int x :: st) M Q ↔ iw d y (pc + 1) ls (.int (x <<< (y0 &&& 31)) :: st) M Q := r_eq (r := (pc + 1, ls, .int (x <<< (y0 &&& 31)) :: st)) (M1 := M) h rfl rfl
theorem r_ishr {x y0 : Int32} (h : im_at y pc .ishr 1) : iw d y pc ls (.int y0 :: .int x :: st) M Q ↔ iw d y (pc + 1) ls (.int (x >>> (y0 &&& 31)) :: st) M Q := r_eq (r := (pc + 1, ls, .int (x >>> (y0 &&& 31)) :: st)) (M1 := M) h rfl rfl
theorem r_idiv {x y0 : Int32} (h : im_at y pc .idiv 1) (hy : ¬ y0 = 0) : iw d y pc ls (.int y0 :: .int x :: st) M Q ↔ iw d y (pc + 1) ls (.int (x / y0) :: st) M Q :=
  r_eq (r := (pc + 1, ls, .int (x / y0) :: st)) (M1 := M) h rfl (by simp only [im_ns, im_p, im_dv, hy, if_true, if_false])
theorem r_irem {x y0 : Int32} (h : im_at y pc .irem 1) (hy : ¬ y0 = 0) : iw d y pc ls (.int y0 :: .int x :: st) M Q ↔ iw d y (pc + 1) ls (.int (x - x / y0 * y0) :: st) M Q :=
  r_eq (r := (pc + 1, ls, .int (x - x / y0 * y0) :: st)) (M1 := M) h rfl (by simp only [im_ns, im_p, im_dv, hy, if_true, if_false])
theorem r_i2c {x : Int32} (h : im_at y pc .i2c 1) : iw d y pc ls (.int x :: st) M Q ↔ iw d y (pc + 1) ls (.int (x.toUInt32 % 65536).toInt32 :: st) M Q := r_eq (r := (pc + 1, ls, .int (x.toUInt32 % 65536).toInt32 :: st)) (M1 := M) h rfl rfl
theorem r_i2l {x : Int32} (h : im_at y pc .i2l 1) : iw d y pc ls (.int x :: st) M Q ↔ iw d y (pc + 1) ls (.long x.toInt64 :: st) M Q := r_eq (r := (pc + 1, ls, .long x.toInt64 :: st)) (M1 := M) h rfl rfl
theorem r_lcmp {x y0 : Int64} (h : im_at y pc .lcmp 1) : iw d y pc ls (.long y0 :: .long x :: st) M Q ↔ iw d y (pc + 1) ls (.int (lg_cmp x y0) :: st) M Q := r_eq (r := (pc + 1, ls, .int (lg_cmp x y0) :: st)) (M1 := M) h rfl rfl
theorem r_dup {v : Value} (h : im_at y pc .dup 1) (hv : im_c1 v = true) : iw d y pc ls (v :: st) M Q ↔ iw d y (pc + 1) ls (v :: v :: st) M Q :=
  r_eq (r := (pc + 1, ls, v :: v :: st)) (M1 := M) h rfl (by simp only [im_ns, im_p, im_dup, hv, if_true])
theorem r_pop {v : Value} (h : im_at y pc .pop 1) (hv : im_c1 v = true) : iw d y pc ls (v :: st) M Q ↔ iw d y (pc + 1) ls st M Q :=
  r_eq (r := (pc + 1, ls, st)) (M1 := M) h rfl (by simp only [im_ns, im_p, im_pop, hv, if_true])
theorem r_dup2 {v w : Value} (h : im_at y pc .dup2 1) (hv : im_c1 v = true) (hw : im_c1 w = true) : iw d y pc ls (v :: w :: st) M Q ↔ iw d y (pc + 1) ls (v :: w :: v :: w :: st) M Q :=
  r_eq (r := (pc + 1, ls, v :: w :: v :: w :: st)) (M1 := M) h rfl (by simp only [im_ns, im_p, im_dup2, hv, hw, Bool.and_self, if_true])
theorem r_dup_x1 {v w : Value} (h : im_at y pc .dup_x1 1) (hv : im_c1 v = true) (hw : im_c1 w = true) : iw d y pc ls (v :: w :: st) M Q ↔ iw d y (pc + 1) ls (v :: w :: v :: st) M Q :=
  r_eq (r := (pc + 1, ls, v :: w :: v :: st)) (M1 := M) h rfl (by simp only [im_ns, im_p, im_dupx1, hv, hw, Bool.and_self, if_true])
theorem r_br {b : Bool} {t u : Nat} : iw d y (if b = true then t else u) ls st M Q ↔ if b = true then iw d y t ls st M Q else iw d y u ls st M Q := by
  cases b <;> simp
theorem r_if_eq {x : Int32} {off : Int} {t : Nat} (h : im_at y pc (.ifCond .eq off) 3) (ht : im_j pc off = some t) : iw d y pc ls (.int x :: st) M Q ↔ if x = 0 then iw d y t ls st M Q else iw d y (pc + 3) ls st M Q := by
  rw [r_eq (r := (if decide (x = 0) = true then t else pc + 3, ls, st)) (M1 := M) h rfl (by simp only [im_ns, im_p, im_if, ht, if_true]), r_br]
  simp only [decide_eq_true_eq]
theorem r_if_ne {x : Int32} {off : Int} {t : Nat} (h : im_at y pc (.ifCond .ne off) 3) (ht : im_j pc off = some t) : iw d y pc ls (.int x :: st) M Q ↔ if ¬ x = 0 then iw d y t ls st M Q else iw d y (pc + 3) ls st M Q := by
  rw [r_eq (r := (if decide (¬ x = 0) = true then t else pc + 3, ls, st)) (M1 := M) h rfl (by simp only [im_ns, im_p, im_if, ht, if_true]), r_br]
  simp only [decide_eq_true_eq]
theorem r_if_lt {x : Int32} {off : Int} {t : Nat} (h : im_at y pc (.ifCond .lt off) 3) (ht : im_j pc off = some t) : iw d y pc ls (.int x :: st) M Q ↔ if x < 0 then iw d y t ls st M Q else iw d y (pc + 3) ls st M Q := by
  rw [r_eq (r := (if decide (x < 0) = true then t else pc + 3, ls, st)) (M1 := M) h rfl (by simp only [im_ns, im_p, im_if, ht, if_true]), r_br]
  simp only [decide_eq_true_eq]
theorem r_if_ge {x : Int32} {off : Int} {t : Nat} (h : im_at y pc (.ifCond .ge off) 3) (ht : im_j pc off = some t) : iw d y pc ls (.int x :: st) M Q ↔ if 0 ≤ x then iw d y t ls st M Q else iw d y (pc + 3) ls st M Q := by
  rw [r_eq (r := (if decide (0 ≤ x) = true then t else pc + 3, ls, st)) (M1 := M) h rfl (by simp only [im_ns, im_p, im_if, ht, if_true]), r_br]
  simp only [decide_eq_true_eq]
theorem r_if_gt {x : Int32} {off : Int} {t : Nat} (h : im_at y pc (.ifCond .gt off) 3) (ht : im_j pc off = some t) : iw d y pc ls (.int x :: st) M Q ↔ if 0 < x then iw d y t ls st M Q else iw d y (pc + 3) ls st M Q := by
  rw [r_eq (r := (if decide (0 < x) = true then t else pc + 3, ls, st)) (M1 := M) h rfl (by simp only [im_ns, im_p, im_if, ht, if_true]), r_br]
  simp only [decide_eq_true_eq]
theorem r_if_le {x : Int32} {off : Int} {t : Nat} (h : im_at y pc (.ifCond .le off) 3) (ht : im_j pc off = some t) : iw d y pc ls (.int x :: st) M Q ↔ if x ≤ 0 then iw d y t ls st M Q else iw d y (pc + 3) ls st M Q := by
  rw [r_eq (r := (if decide (x ≤ 0) = true then t else pc + 3, ls, st)) (M1 := M) h rfl (by simp only [im_ns, im_p, im_if, ht, if_true]), r_br]
  simp only [decide_eq_true_eq]
theorem r_ic_eq {x y0 : Int32} {off : Int} {t : Nat} (h : im_at y pc (.if_icmp .eq off) 3) (ht : im_j pc off = some t) : iw d y pc ls (.int y0 :: .int x :: st) M Q ↔ if x = y0 then iw d y t ls st M Q else iw d y (pc + 3) ls st M Q := by
  rw [r_eq (r := (if decide (x = y0) = true then t else pc + 3, ls, st)) (M1 := M) h rfl (by simp only [im_ns, im_p, im_ic, ht, if_true]), r_br]
  simp only [decide_eq_true_eq]
theorem r_ic_ne {x y0 : Int32} {off : Int} {t : Nat} (h : im_at y pc (.if_icmp .ne off) 3) (ht : im_j pc off = some t) : iw d y pc ls (.int y0 :: .int x :: st) M Q ↔ if ¬ x = y0 then iw d y t ls st M Q else iw d y (pc + 3) ls st M Q := by
  rw [r_eq (r := (if decide (¬ x = y0) = true then t else pc + 3, ls, st)) (M1 := M) h rfl (by simp only [im_ns, im_p, im_ic, ht, if_true]), r_br]
  simp only [decide_eq_true_eq]
theorem r_ic_lt {x y0 : Int32} {off : Int} {t : Nat} (h : im_at y pc (.if_icmp .lt off) 3) (ht : im_j pc off = some t) : iw d y pc ls (.int y0 :: .int x :: st) M Q ↔ if x < y0 then iw d y t ls st M Q else iw d y (pc + 3) ls st M Q := by
  rw [r_eq (r := (if decide (x < y0) = true then t else pc + 3, ls, st)) (M1 := M) h rfl (by simp only [im_ns, im_p, im_ic, ht, if_true]), r_br]
  simp only [decide_eq_true_eq]
theorem r_ic_ge {x y0 : Int32} {off : Int} {t : Nat} (h : im_at y pc (.if_icmp .ge off) 3) (ht : im_j pc off = some t) : iw d y pc ls (.int y0 :: .int x :: st) M Q ↔ if y0 ≤ x then iw d y t ls st M Q else iw d y (pc + 3) ls st M Q := by
  rw [r_eq (r := (if decide (y0 ≤ x) = true then t else pc + 3, ls, st)) (M1 := M) h rfl (by simp only [im_ns, im_p, im_ic, ht, if_true]), r_br]
  simp only [decide_eq_true_eq]
theorem r_ic_gt {x y0 : Int32} {off : Int} {t : Nat} (h : im_at y pc (.if_icmp .gt off) 3) (ht : im_j pc off = some t) : iw d y pc ls (.int y0 :: .int x :: st) M Q ↔ if y0 < x then iw d y t ls st M Q else iw d y (pc + 3) ls st M Q := by
  rw [r_eq (r := (if decide (y0 < x) = true then t else pc + 3, ls, st)) (M1 := M) h rfl (by simp only [im_ns, im_p, im_ic, ht, if_true]), r_br]
  simp only [decide_eq_true_eq]
theorem r_ic_le {x y0 : Int32} {off : Int} {t : Nat} (h : im_at y pc (.if_icmp .le off) 3) (ht : im_j pc off = some t) : iw d y pc ls (.int y0 :: .int x :: st) M Q ↔ if x ≤ y0 then iw d y t ls st M Q else iw d y (pc + 3) ls st M Q := by
  rw [r_eq (r := (if decide (x ≤ y0) = true then t else pc + 3, ls, st)) (M1 := M) h rfl (by simp only [im_ns, im_p, im_ic, ht, if_true]), r_br]
  simp only [decide_eq_true_eq]
theorem r_goto {off : Int} {t : Nat} (h : im_at y pc (.goto off) 3) (ht : im_j pc off = some t) : iw d y pc ls st M Q ↔ iw d y t ls st M Q :=
  r_eq (r := (t, ls, st)) (M1 := M) h rfl (by simp only [im_ns, im_p, im_go, ht, if_true])
theorem r_ts {dflt lo hi : Int} {offs : Array Int} {len t0 : Nat} {ts : List Nat} {x : Int32} (h : im_at y pc (.tableswitch dflt lo hi offs) len) (h0 : im_j pc dflt = some t0) (hts : offs.toList.map (im_j pc) = ts.map some) (hn : (ts.length : Int) = hi - lo + 1) :
    iw d y pc ls (.int x :: st) M Q ↔ iw d y (if x.toInt < lo ∨ hi < x.toInt then t0 else ts.getD (x.toInt - lo).toNat t0) ls st M Q := by
  refine r_eq (r := (if x.toInt < lo ∨ hi < x.toInt then t0 else ts.getD (x.toInt - lo).toNat t0, ls, st)) (M1 := M) h rfl ?_
  have hg : im_ts pc dflt lo hi offs ls (.int x :: st) = some (if x.toInt < lo ∨ hi < x.toInt then t0 else ts.getD (x.toInt - lo).toNat t0, ls, st) := by
    unfold im_ts
    simp only
    by_cases hx : x.toInt < lo ∨ hi < x.toInt
    · rw [if_pos hx, if_pos hx, h0]
    · rw [if_neg hx, if_neg hx]
      have hlt : (x.toInt - lo).toNat < ts.length := by omega
      have h1 := congrArg (fun L => L[(x.toInt - lo).toNat]?) hts
      simp only [List.getElem?_map, List.getElem?_eq_getElem hlt, Option.map_some] at h1
      rw [List.getD_eq_getElem?_getD, List.getElem?_eq_getElem hlt]
      cases ho : offs[(x.toInt - lo).toNat]? with
      | none => rw [← Array.getElem?_toList] at ho; rw [ho] at h1; cases h1
      | some off =>
        rw [← Array.getElem?_toList] at ho
        rw [ho] at h1
        simp only [Option.map_some, Option.some.injEq] at h1
        simp only [h1, Option.getD_some]
  show (match im_ts pc dflt lo hi offs ls (.int x :: st) with | some r => some (r, M) | none => none) = _
  rw [hg]
end ROWS
end
section
/-! Rows that touch the memory. -/
section ROWS2
variable {d y pc : Nat} {ls st : List Value} {Q : im_O → im_M → Prop} {L : Nat} {xs : Nat → Int32} {mi : Nat → Nat → Int32} {rw : Nat → Nat} {o : Nat → Int64} {g z : Nat}
theorem r_and {A B C : Prop} (h : A → (C ↔ B)) (hn : ¬ A → (C ↔ False)) : C ↔ A ∧ B := by
  by_cases ha : A
  · rw [h ha]; exact ⟨fun hb => ⟨ha, hb⟩, fun hb => hb.2⟩
  · rw [hn ha]; exact ⟨fun hf => hf.elim, fun hb => ha hb.1⟩
theorem it_sh_isk {ci a : Nat} : (8 ≤ a ∧ a < (it_mem L xs mi rw o g z).1.1 ∧ ((it_mem L xs mi rw o g z).2.1 a).1 = ci) ↔ it_isk ci a = true := by
  show (8 ≤ a ∧ a < 135 ∧ (it_sh L a).1 = ci) ↔ _
  rw [it_sh_eq]
  unfold it_isk
  rw [decide_eq_true_eq]
theorem r_getf {idx ci k a : Nat} {host : Option String} (h : im_at y pc (.getfield idx) 3) (hf : it_fld y idx = some (ci, k, host)) : iw d y pc ls (.ref a :: st) (it_mem L xs mi rw o g z) Q ↔ it_isk ci a = true ∧ iw d y (pc + 3) ls (it_cv xs mi rw o a k :: st) (it_mem L xs mi rw o g z) Q := by
  refine r_and (fun ha => r_eq (r := (pc + 3, ls, it_cv xs mi rw o a k :: st)) h rfl ?_) (fun ha => r_no h rfl ?_)
  · show im_rd pc ls _ 3 (im_gf y idx 3 (.ref a :: st) (it_mem L xs mi rw o g z)) = _
    unfold im_gf
    rw [if_pos rfl, hf]
    simp only
    rw [if_pos (it_sh_isk.mpr ha)]
    rfl
  · show im_rd pc ls _ 3 (im_gf y idx 3 (.ref a :: st) (it_mem L xs mi rw o g z)) = _
    unfold im_gf
    rw [if_pos rfl, hf]
    simp only
    rw [if_neg (fun q => ha (it_sh_isk.mp q))]
    rfl
def it_vok (ty : FieldType) (x : Int32) : Prop := narrow ty (.int x) = .int x ∧ fits ty (.int x) = true
theorem r_putf {idx ci k a : Nat} {x : Int32} {host : Option String} (h : im_at y pc (.putfield idx) 3) (hf : it_fld y idx = some (ci, k, host)) (hp : it_pok y idx = true) (hc : ci < 30) (hr : ∀ a, it_isk ci a = true → it_ref a k = none) : iw d y pc ls (.int x :: .ref a :: st) (it_mem L xs mi rw o g z) Q ↔ (it_isk ci a = true ∧ it_vok (it_ty ci k) x) ∧ iw d y (pc + 3) ls st (it_mem L xs (it_up mi a k x) rw o g z) Q := by
  refine r_and (fun ha => r_eq (r := (pc + 3, ls, st)) h rfl ?_) (fun ha => r_no h rfl ?_)
  · show im_wr pc ls 3 (im_pf y idx 3 (.int x :: .ref a :: st) (it_mem L xs mi rw o g z)) = _
    obtain ⟨ha, hv⟩ := ha
    obtain ⟨n0, n1, n2⟩ := it_obj ha hc
    have h9 := it_sh_isk (L := L) (xs := xs) (mi := mi) (rw := rw) (o := o) (g := g) (z := z) |>.mpr ha
    unfold im_pf
    rw [if_pos ⟨rfl, hp⟩, hf]
    simp only
    rw [if_pos ⟨h9.1, h9.2.1, h9.2.2, hv.1, hv.2⟩, it_mem_set n0 n1 n2 (hr a ha)]
    rfl
  · show im_wr pc ls 3 (im_pf y idx 3 (.int x :: .ref a :: st) (it_mem L xs mi rw o g z)) = _
    unfold im_pf
    rw [if_pos ⟨rfl, hp⟩, hf]
    simp only
    rw [if_neg (fun q => ha ⟨it_sh_isk.mp ⟨q.1, q.2.1, q.2.2.1⟩, q.2.2.2.1, q.2.2.2.2⟩)]
    rfl
/-- within an array -/
def it_inb (L a : Nat) (j : Int32) : Prop := ¬ (j < 0 ∨ it_ln L a ≤ j.toNatClampNeg)
theorem it_al_eq {ty : FieldType} {a : Nat} {j : Int32} : (a < (it_mem L xs mi rw o g z).1.1 ∧ 30 ≤ ((it_mem L xs mi rw o g z).2.1 a).1 ∧ it_aty ((it_mem L xs mi rw o g z).2.1 a).1 = some ty ∧ ¬ (j < 0 ∨ ((it_mem L xs mi rw o g z).2.1 a).2 ≤ j.toNatClampNeg)) ↔ (it_isa ty a = true ∧ it_inb L a j) := by
  show (a < 135 ∧ 30 ≤ (it_sh L a).1 ∧ it_aty (it_sh L a).1 = some ty ∧ ¬ (j < 0 ∨ (it_sh L a).2 ≤ j.toNatClampNeg)) ↔ _
  rw [it_sh_eq]
  unfold it_isa it_inb
  rw [decide_eq_true_eq]
  simp only [and_assoc]
theorem r_al {i : Instr} {ty : FieldType} {a : Nat} {j : Int32} (h : im_at y pc i 1) (hp : im_pl i = true) (hi : ∀ st M, im_ns y i 1 pc ls st M = im_rd pc ls M 1 (im_al it_aty ty 1 pc st M)) : iw d y pc ls (.int j :: .ref a :: st) (it_mem L xs mi rw o g z) Q ↔ (it_isa ty a = true ∧ it_inb L a j) ∧ iw d y (pc + 1) ls (it_cv xs mi rw o a j.toNatClampNeg :: st) (it_mem L xs mi rw o g z) Q := by
  refine r_and (fun ha => r_eq (r := (pc + 1, ls, it_cv xs mi rw o a j.toNatClampNeg :: st)) h hp ?_) (fun ha => r_no h hp ?_)
  · rw [hi]
    unfold im_al
    rw [if_pos rfl]
    simp only
    rw [if_pos (it_al_eq.mpr ha)]
    rfl
  · rw [hi]
    unfold im_al
    rw [if_pos rfl]
    simp only
    rw [if_neg (fun q => ha (it_al_eq.mp q))]
    rfl
theorem r_iaload {a : Nat} {j : Int32} (h : im_at y pc .iaload 1) : iw d y pc ls (.int j :: .ref a :: st) (it_mem L xs mi rw o g z) Q ↔ (it_isa .int a = true ∧ it_inb L a j) ∧ iw d y (pc + 1) ls (it_cv xs mi rw o a j.toNatClampNeg :: st) (it_mem L xs mi rw o g z) Q := r_al h rfl (fun _ _ => rfl)
theorem r_caload {a : Nat} {j : Int32} (h : im_at y pc .caload 1) : iw d y pc ls (.int j :: .ref a :: st) (it_mem L xs mi rw o g z) Q ↔ (it_isa .char a = true ∧ it_inb L a j) ∧ iw d y (pc + 1) ls (it_cv xs mi rw o a j.toNatClampNeg :: st) (it_mem L xs mi rw o g z) Q := r_al h rfl (fun _ _ => rfl)
theorem r_baload {a : Nat} {j : Int32} (h : im_at y pc .baload 1) : iw d y pc ls (.int j :: .ref a :: st) (it_mem L xs mi rw o g z) Q ↔ (it_isa .boolean a = true ∧ it_inb L a j) ∧ iw d y (pc + 1) ls (it_cv xs mi rw o a j.toNatClampNeg :: st) (it_mem L xs mi rw o g z) Q := r_al h rfl (fun _ _ => rfl)
theorem r_laload {a : Nat} {j : Int32} (h : im_at y pc .laload 1) : iw d y pc ls (.int j :: .ref a :: st) (it_mem L xs mi rw o g z) Q ↔ (it_isa .long a = true ∧ it_inb L a j) ∧ iw d y (pc + 1) ls (it_cv xs mi rw o a j.toNatClampNeg :: st) (it_mem L xs mi rw o g z) Q := r_al h rfl (fun _ _ => rfl)
theorem r_as {i : Instr} {ty : FieldType} {a : Nat} {j x x' : Int32} (ht : ty = .int ∨ ty = .char ∨ ty = .boolean) (hx : narrow ty (.int x) = .int x') (h : im_at y pc i 1) (hp : im_pl i = true) (hi : ∀ st M, im_ns y i 1 pc ls st M = im_wr pc ls 1 (im_ai ty 1 st M)) :
    iw d y pc ls (.int x :: .int j :: .ref a :: st) (it_mem L xs mi rw o g z) Q ↔ (8 ≤ a ∧ it_isa ty a = true ∧ it_inb L a j) ∧ iw d y (pc + 1) ls st (it_mem L xs (it_up mi a j.toNatClampNeg x') rw o g z) Q := by
  refine r_and (fun ha => r_eq (r := (pc + 1, ls, st)) h hp ?_) (fun ha => r_no h hp ?_)
  · obtain ⟨h8, ha1, ha2⟩ := ha
    obtain ⟨n1, n2, n3⟩ := it_prim ha1 ht
    have hq := it_al_eq (L := L) (xs := xs) (mi := mi) (rw := rw) (o := o) (g := g) (z := z) |>.mpr ⟨ha1, ha2⟩
    rw [hi]
    unfold im_ai im_as
    simp only
    rw [if_pos ⟨trivial, h8, hq.1, hq.2.1, hq.2.2.1, hq.2.2.2⟩, hx, it_mem_set (by omega) n2 n3 (n1 _)]
    rfl
  · rw [hi]
    unfold im_ai im_as
    simp only
    rw [if_neg (fun q => ha ⟨q.2.1, it_al_eq.mp ⟨q.2.2.1, q.2.2.2.1, q.2.2.2.2.1, q.2.2.2.2.2⟩⟩)]
    rfl
theorem r_iastore {a : Nat} {j x : Int32} (h : im_at y pc .iastore 1) : iw d y pc ls (.int x :: .int j :: .ref a :: st) (it_mem L xs mi rw o g z) Q ↔ (8 ≤ a ∧ it_isa .int a = true ∧ it_inb L a j) ∧ iw d y (pc + 1) ls st (it_mem L xs (it_up mi a j.toNatClampNeg x) rw o g z) Q := r_as (Or.inl rfl) rfl h rfl (fun _ _ => rfl)
theorem r_castore {a : Nat} {j x : Int32} (h : im_at y pc .castore 1) : iw d y pc ls (.int x :: .int j :: .ref a :: st) (it_mem L xs mi rw o g z) Q ↔ (8 ≤ a ∧ it_isa .char a = true ∧ it_inb L a j) ∧ iw d y (pc + 1) ls st (it_mem L xs (it_up mi a j.toNatClampNeg (vp_nar .char x)) rw o g z) Q := r_as (Or.inr (Or.inl rfl)) rfl h rfl (fun _ _ => rfl)
theorem r_bastore {a : Nat} {j x : Int32} (h : im_at y pc .bastore 1) : iw d y pc ls (.int x :: .int j :: .ref a :: st) (it_mem L xs mi rw o g z) Q ↔ (8 ≤ a ∧ it_isa .boolean a = true ∧ it_inb L a j) ∧ iw d y (pc + 1) ls st (it_mem L xs (it_up mi a j.toNatClampNeg (vp_nar .boolean x)) rw o g z) Q := r_as (Or.inr (Or.inr rfl)) rfl h rfl (fun _ _ => rfl)
theorem r_lastore {j : Int32} {v : Int64} (h : im_at y pc .lastore 1) : iw d y pc ls (.long v :: .int j :: .ref 134 :: st) (it_mem L xs mi rw o g z) Q ↔ it_inb L 134 j ∧ iw d y (pc + 1) ls st (it_mem L xs mi rw (va_up o j.toNatClampNeg v) g z) Q := by
  have hisa : it_isa .long 134 = true := by decide +kernel
  refine r_and (fun ha => r_eq (r := (pc + 1, ls, st)) h rfl ?_) (fun ha => r_no h rfl ?_)
  · have hq := it_al_eq (L := L) (xs := xs) (mi := mi) (rw := rw) (o := o) (g := g) (z := z) |>.mpr ⟨hisa, ha⟩
    show im_wr pc ls 1 (im_al64 1 (.long v :: .int j :: .ref 134 :: st) (it_mem L xs mi rw o g z)) = _
    unfold im_al64 im_as
    simp only
    rw [if_pos ⟨trivial, by decide, hq.1, hq.2.1, hq.2.2.1, hq.2.2.2⟩, it_mem_out]
    rfl
  · show im_wr pc ls 1 (im_al64 1 (.long v :: .int j :: .ref 134 :: st) (it_mem L xs mi rw o g z)) = _
    unfold im_al64 im_as
    simp only
    rw [if_neg (fun q => ha (it_al_eq.mp ⟨q.2.2.1, q.2.2.2.1, q.2.2.2.2.1, q.2.2.2.2.2⟩).2)]
    rfl
/-- arrays of references -/
def it_isr (a : Nat) : Bool := decide (a < 135 ∧ 30 ≤ it_kd a ∧ (∃ ty, it_aty (it_kd a) = some ty ∧ ty.isReference = true))
theorem r_alen {a : Nat} (h : im_at y pc .arraylength 1) : iw d y pc ls (.ref a :: st) (it_mem L xs mi rw o g z) Q ↔ (a < 135 ∧ 30 ≤ it_kd a ∧ (it_aty (it_kd a)).isSome = true) ∧ iw d y (pc + 1) ls (.int (it_ln L a).toInt32 :: st) (it_mem L xs mi rw o g z) Q := by
  have e : (a < (it_mem L xs mi rw o g z).1.1 ∧ 30 ≤ ((it_mem L xs mi rw o g z).2.1 a).1 ∧ (it_aty ((it_mem L xs mi rw o g z).2.1 a).1).isSome = true) ↔ (a < 135 ∧ 30 ≤ it_kd a ∧ (it_aty (it_kd a)).isSome = true) := by
    show (a < 135 ∧ 30 ≤ (it_sh L a).1 ∧ (it_aty (it_sh L a).1).isSome = true) ↔ _
    rw [it_sh_eq]
  refine r_and (fun ha => r_eq (r := (pc + 1, ls, .int (it_ln L a).toInt32 :: st)) h rfl ?_) (fun ha => r_no h rfl ?_)
  · show im_rd pc ls _ 1 (im_len 1 (.ref a :: st) (it_mem L xs mi rw o g z)) = _
    unfold im_len
    rw [if_pos rfl]
    simp only
    rw [if_pos (e.mpr ha)]
    show im_rd pc ls _ 1 (some (.int (it_sh L a).2.toInt32 :: st)) = _
    rw [it_sh_eq]
    rfl
  · show im_rd pc ls _ 1 (im_len 1 (.ref a :: st) (it_mem L xs mi rw o g z)) = _
    unfold im_len
    rw [if_pos rfl]
    simp only
    rw [if_neg (fun q => ha (e.mp q))]
    rfl
theorem r_aaload {a : Nat} {ty : FieldType} {j : Int32} (h : im_at y pc .aaload 1) (hty : it_aty (it_kd a) = some ty) (hrf : ty.isReference = true) : iw d y pc ls (.int j :: .ref a :: st) (it_mem L xs mi rw o g z) Q ↔ (it_isa ty a = true ∧ it_inb L a j) ∧ iw d y (pc + 1) ls (it_cv xs mi rw o a j.toNatClampNeg :: st) (it_mem L xs mi rw o g z) Q := by
  have har : im_ar (it_mem L xs mi rw o g z) a = some ty := by
    show it_aty (it_sh L a).1 = some ty
    rw [it_sh_eq]
    exact hty
  have e2 : ∀ st', im_al2 1 pc (.int j :: .ref a :: st') (it_mem L xs mi rw o g z) = im_al it_aty ty 1 pc (.int j :: .ref a :: st') (it_mem L xs mi rw o g z) := by
    intro st'
    unfold im_al2
    simp only [har]
    rw [if_pos hrf]
  refine r_and (fun ha => r_eq (r := (pc + 1, ls, it_cv xs mi rw o a j.toNatClampNeg :: st)) h rfl ?_) (fun ha => r_no h rfl ?_)
  · show im_rd pc ls _ 1 (im_al2 1 pc (.int j :: .ref a :: st) (it_mem L xs mi rw o g z)) = _
    rw [e2]
    unfold im_al
    rw [if_pos rfl]
    simp only
    rw [if_pos (it_al_eq.mpr ha)]
    rfl
  · show im_rd pc ls _ 1 (im_al2 1 pc (.int j :: .ref a :: st) (it_mem L xs mi rw o g z)) = _
    rw [e2]
    unfold im_al
    rw [if_pos rfl]
    simp only
    rw [if_neg (fun q => ha (it_al_eq.mp q))]
    rfl
theorem r_aastore {v : Nat} {j : Int32} (h : im_at y pc .aastore 1) : iw d y pc ls (.ref v :: .int j :: .ref 78 :: st) (it_mem L xs mi rw o g z) Q ↔ (it_isk 8 v = true ∧ it_inb L 78 j) ∧ iw d y (pc + 1) ls st (it_mem L xs mi (va_up rw j.toNatClampNeg v) o g z) Q := by
  have hkd : ((it_mem L xs mi rw o g z).2.1 78).1 = 34 := by
    show (it_sh L 78).1 = 34
    rw [it_sh_eq]
    show it_kd 78 = 34
    decide +kernel
  have hat : it_aty ((it_mem L xs mi rw o g z).2.1 78).1 = some (.object "IssueFold$Message") := by rw [hkd]; rfl
  have hac : it_acp ((it_mem L xs mi rw o g z).2.1 78).1 = some 8 := by rw [hkd]; rfl
  have hisa : it_isa (.object "IssueFold$Message") 78 = true := by decide +kernel
  have hv : (8 ≤ v ∧ v < (it_mem L xs mi rw o g z).1.1 ∧ it_acp ((it_mem L xs mi rw o g z).2.1 78).1 = some ((it_mem L xs mi rw o g z).2.1 v).1) ↔ it_isk 8 v = true := by
    rw [hac, ← it_sh_isk (L := L) (xs := xs) (mi := mi) (rw := rw) (o := o) (g := g) (z := z)]
    simp only [Option.some.injEq]
    exact ⟨fun q => ⟨q.1, q.2.1, q.2.2.symm⟩, fun q => ⟨q.1, q.2.1, q.2.2.symm⟩⟩
  refine r_and (fun ha => r_eq (r := (pc + 1, ls, st)) h rfl ?_) (fun ha => r_no h rfl ?_)
  · have hq := it_al_eq (L := L) (xs := xs) (mi := mi) (rw := rw) (o := o) (g := g) (z := z) |>.mpr ⟨hisa, ha.2⟩
    show im_wr pc ls 1 (im_aa 1 (.ref v :: .int j :: .ref 78 :: st) (it_mem L xs mi rw o g z)) = _
    unfold im_aa
    simp only [hat]
    rw [if_pos (hv.mpr ha.1)]
    unfold im_as
    rw [if_pos ⟨rfl, by decide, hq.1, hq.2.1, hq.2.2.1, hq.2.2.2⟩, it_mem_row]
    rfl
  · show im_wr pc ls 1 (im_aa 1 (.ref v :: .int j :: .ref 78 :: st) (it_mem L xs mi rw o g z)) = _
    unfold im_aa
    simp only [hat]
    by_cases h1 : it_isk 8 v = true
    · rw [if_pos (hv.mpr h1)]
      unfold im_as
      rw [if_neg (fun q => ha ⟨h1, (it_al_eq.mp ⟨q.2.2.1, q.2.2.2.1, q.2.2.2.2.1, q.2.2.2.2.2⟩).2⟩)]
      rfl
    · rw [if_neg (fun q => h1 (hv.mp q))]
      rfl
/-- what a method with answers of a kind gives back -/
theorem r_ireturn {x : Int32} {me : it_Me} {ty : FieldType} (h : im_at y pc .ireturn 1) (hm : it_met y = some me) (ht : me.2.2.2.1 = some ty) (hrf : ty.isReference = false) : iw d y pc ls [.int x] (it_mem L xs mi rw o g z) Q ↔ it_vok ty x ∧ Q (.inl (some (.int x))) (it_mem L xs mi rw o g z) := by
  refine r_and (fun hv => iw_ret h.1 ?_) (fun hv => ?_)
  · unfold im_ret
    rw [hm]
    simp only [if_true, ht]
    rw [if_pos ⟨hv.1, hrf, hv.2⟩]
  · have hn : im_ret y .ireturn 1 [.int x] = none := by
      unfold im_ret
      rw [hm]
      simp only [if_true, ht]
      rw [if_neg (fun q => hv ⟨q.1, q.2.2⟩)]
    refine ⟨fun h9 => ?_, fun h9 => h9.elim⟩
    obtain ⟨n, o1, M', h1, h2⟩ := h9
    cases n with
    | zero => cases h1
    | succ n =>
      have h3 : im_F (im_run n) d y pc ls [.int x] (it_mem L xs mi rw o g z) = some (o1, M') := h1
      unfold im_F at h3
      simp only [h.1, hn, h.2] at h3
      exact absurd h3 (by
        have e1 : im_prim y .ireturn 1 [.int x] (it_mem L xs mi rw o g z) = none := by unfold im_prim; rfl
        have e2 : im_call y .ireturn 1 [.int x] = none := by unfold im_call; rfl
        have e3 : im_ns y .ireturn 1 pc ls [.int x] (it_mem L xs mi rw o g z) = none := rfl
        simp [e1, e2, e3])
theorem vok_int (x : Int32) : it_vok .int x := ⟨rfl, rfl⟩
theorem vok_b0 : it_vok .boolean 0 := ⟨rfl, rfl⟩
theorem vok_b1 : it_vok .boolean 1 := ⟨rfl, rfl⟩
theorem vok_bi (c : Prop) [Decidable c] : it_vok .boolean (if c then 1 else 0) := by
  split
  · exact vok_b1
  · exact vok_b0
theorem vok_c0 : it_vok .char 0 := ⟨by decide +kernel, by decide +kernel⟩
theorem it_hr {ci k : Nat} (h : (List.range 135).all (fun a => !it_isk ci a || (it_ref a k).isNone) = true) : ∀ a, it_isk ci a = true → it_ref a k = none := by
  intro a ha
  have hlt : a < 135 := (of_decide_eq_true ha).2.1
  have h1 := List.all_eq_true.mp h a (List.mem_range.mpr hlt)
  rw [ha] at h1
  simpa using h1
theorem r_areturn {k : Nat} {me : it_Me} {ty : FieldType} (h : im_at y pc .areturn 1) (hm : it_met y = some me) (ht : me.2.2.2.1 = some ty) (hrf : ty.isReference = true) : iw d y pc ls [.ref k] (it_mem L xs mi rw o g z) Q ↔ Q (.inl (some (.ref k))) (it_mem L xs mi rw o g z) := by
  refine iw_ret h.1 ?_
  unfold im_ret
  rw [hm]
  simp only [if_true, ht]
  rw [if_pos hrf]
theorem r_return {me : it_Me} (h : im_at y pc .return_ 1) (hm : it_met y = some me) (ht : me.2.2.2.1 = none) : iw d y pc ls [] (it_mem L xs mi rw o g z) Q ↔ Q (.inl none) (it_mem L xs mi rw o g z) := by
  refine iw_ret h.1 ?_
  unfold im_ret
  rw [hm]
  simp only [if_true, ht]
theorem r_throw {idx ec : Nat} (h : im_dec y pc = some (.new idx, 3)) (ht : it_thr y pc = some ec) : iw d y pc ls [] (it_mem L xs mi rw o g z) Q ↔ Q (.inr (ec, 135 + g)) (it_mem L xs mi rw o (g + 1) (z + 6)) := by
  refine iw_thr h ?_ ht (by simp)
  unfold im_ret
  cases it_met y <;> rfl
theorem r_mmax {idx : Nat} {a b : Int32} {M : im_M} (h : im_at y pc (.invokestatic idx) 3) (hx : it_mxx y idx = true) (hs : (st.map Value.category).sum ≤ 8) : iw d y pc ls (.int b :: .int a :: st) M Q ↔ iw d y (pc + 3) ls (.int (if a < b then b else a) :: st) M Q := by
  refine iw_prim h ?_ ?_
  · unfold im_ret
    cases it_met y <;> rfl
  · unfold im_prim
    rw [if_pos rfl]
    simp only
    rw [if_pos hx, if_pos hs]
theorem r_callS {idx z9 na : Nat} {host : Option String} {as rest : List Value} {M : im_M} (h : im_at y pc (.invokestatic idx) 3) (hx : it_mxx y idx = false) (hc : it_cal y idx = some (1, z9, na, host)) (hn : na ≤ st.length) (hs : ((st.drop na).map Value.category).sum ≤ 8) (ha : (st.take na).reverse = as) (hr : st.drop na = rest) (hm : as.length ≤ im_max z9) (h1 : as.all im_c1 = true) :
    iw (d + 1) y pc ls st M Q ↔ iw d z9 0 (as ++ List.replicate (im_max z9 - as.length) (.retAddr 0)) [] M (iw_back (d + 1) y pc ls rest Q) := by
  subst ha; subst hr
  refine iw_call h ?_ ?_ ?_ ⟨hm, h1⟩
  · unfold im_ret
    cases it_met y <;> rfl
  · unfold im_prim
    rw [if_pos rfl]
    simp only
    rw [hx]
    rfl
  · unfold im_call
    rw [if_pos rfl]
    simp only
    rw [hc]
    simp only
    rw [if_pos ⟨trivial, hn, hs⟩]
theorem r_callV {idx z9 na ci k : Nat} {host : Option String} {as rest : List Value} (h : im_at y pc (.invokevirtual idx) 3) (hc : it_cal y idx = some (0, z9, na, host)) (hn : na < st.length) (hs : ((st.drop (na + 1)).map Value.category).sum ≤ 8) (ha : (st.take (na + 1)).reverse = .ref k :: as) (hr : st.drop (na + 1) = rest) (hm : as.length + 1 ≤ im_max z9) (h1 : as.all im_c1 = true) (hcl : it_mcl z9 = some ci) (hk : it_isk ci k = true) :
    iw (d + 1) y pc ls st (it_mem L xs mi rw o g z) Q ↔ iw d z9 0 (.ref k :: as ++ List.replicate (im_max z9 - (as.length + 1)) (.retAddr 0)) [] (it_mem L xs mi rw o g z) (iw_back (d + 1) y pc ls rest Q) := by
  subst hr
  have hrc : im_recv (.invokevirtual idx) z9 (.ref k :: as) (it_mem L xs mi rw o g z) = true := by
    show ((Value.ref k :: as).all im_c1 && decide (8 ≤ k ∧ k < (it_mem L xs mi rw o g z).1.1 ∧ it_mcl z9 = some ((it_mem L xs mi rw o g z).2.1 k).1)) = true
    rw [Bool.and_eq_true]
    refine ⟨by rw [List.all_cons, h1]; rfl, decide_eq_true ?_⟩
    have h9 := it_sh_isk (L := L) (xs := xs) (mi := mi) (rw := rw) (o := o) (g := g) (z := z) |>.mpr hk
    exact ⟨h9.1, h9.2.1, by rw [h9.2.2]; exact hcl⟩
  refine iw_call (as := .ref k :: as) h ?_ ?_ ?_ ⟨hm, hrc⟩
  · unfold im_ret
    cases it_met y <;> rfl
  · rfl
  · unfold im_call
    rw [if_pos rfl]
    simp only
    rw [hc]
    simp only
    rw [if_pos ⟨trivial, hn, hs⟩, ha]
theorem r_backI {ls rest : List Value} {M : im_M} {v : Value} : iw_back d y pc ls rest Q (.inl (some v)) M ↔ iw d y (pc + 3) ls (v :: rest) M Q := Iff.rfl
theorem r_backV {ls rest : List Value} {M : im_M} : iw_back d y pc ls rest Q (.inl none) M ↔ iw d y (pc + 3) ls rest M Q := Iff.rfl
theorem r_backT {ls rest : List Value} {M : im_M} {ec k hp : Nat} (h : im_hand y pc ec = some hp) : iw_back d y pc ls rest Q (.inr (ec, k)) M ↔ iw d y hp ls [.ref k] M Q := by
  show (match im_hand y pc ec with | some h => iw d y h ls [.ref k] M Q | none => im_nohand y = true ∧ Q (.inr (ec, k)) M) ↔ _
  rw [h]
end ROWS2
end
