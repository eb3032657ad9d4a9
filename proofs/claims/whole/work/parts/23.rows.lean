/-! Rows an instruction kind: what the machine comes to, before and behind it. -/
section ROWS
variable {d y pc : Nat} {ls st : List Value} {M : im_M} {Q : im_O → im_M → Prop}
theorem r_eq {i : Instr} {len : Nat} {r : im_S} {M1 : im_M} (h : im_at y pc i len) (hp : im_pl i = true) (e : im_ns y i len pc ls st M = some (r, M1)) : iw d y pc ls st M Q ↔ iw d y r.1 r.2.1 r.2.2 M1 Q := by
  rw [iw_step h hp, e]
  exact Iff.rfl
theorem r_no {i : Instr} {len : Nat} (h : im_at y pc i len) (hp : im_pl i = true) (e : im_ns y i len pc ls st M = none) : iw d y pc ls st M Q ↔ False := by
  rw [iw_step h hp, e]
  exact Iff.rfl
theorem r_iconst {n : Int} {v : Int32} (h : im_at y pc (.iconst n) 1) (hv : Int32.ofInt n = v) : iw d y pc ls st M Q ↔ iw d y (pc + 1) ls (.int v :: st) M Q := by
  subst hv; exact r_eq h rfl rfl
theorem r_bipush {n : Int} {v : Int32} (h : im_at y pc (.bipush n) 2) (hv : (Int8.ofInt n).toInt32 = v) : iw d y pc ls st M Q ↔ iw d y (pc + 2) ls (.int v :: st) M Q := by
  subst hv; exact r_eq h rfl rfl
theorem r_iload_n {k : Fin 4} {x : Int32} (h : im_at y pc (.iload_n k) 1) (hk : ls[(k : Nat)]? = some (.int x)) : iw d y pc ls st M Q ↔ iw d y (pc + 1) ls (.int x :: st) M Q :=
  r_eq (r := (pc + 1, ls, .int x :: st)) (M1 := M) h rfl (by simp only [im_ns, im_p, im_ldI, hk, if_true])
theorem r_iload {k : Nat} {x : Int32} (h : im_at y pc (.iload k) 2) (hk : ls[k]? = some (.int x)) : iw d y pc ls st M Q ↔ iw d y (pc + 2) ls (.int x :: st) M Q :=
  r_eq (r := (pc + 2, ls, .int x :: st)) (M1 := M) h rfl (by simp only [im_ns, im_p, im_ldI, hk, if_true])
theorem r_aload_n {k : Fin 4} {x : Nat} (h : im_at y pc (.aload_n k) 1) (hk : ls[(k : Nat)]? = some (.ref x)) : iw d y pc ls st M Q ↔ iw d y (pc + 1) ls (.ref x :: st) M Q :=
  r_eq (r := (pc + 1, ls, .ref x :: st)) (M1 := M) h rfl (by simp only [im_ns, im_p, im_ldA, hk, if_true])
theorem r_aload {k : Nat} {x : Nat} (h : im_at y pc (.aload k) 2) (hk : ls[k]? = some (.ref x)) : iw d y pc ls st M Q ↔ iw d y (pc + 2) ls (.ref x :: st) M Q :=
  r_eq (r := (pc + 2, ls, .ref x :: st)) (M1 := M) h rfl (by simp only [im_ns, im_p, im_ldA, hk, if_true])
theorem r_istore_n {k : Fin 4} {x : Int32} {ls' : List Value} (h : im_at y pc (.istore_n k) 1) (hk : (k : Nat) < ls.length) (hl : ls.set (k : Nat) (.int x) = ls') : iw d y pc ls (.int x :: st) M Q ↔ iw d y (pc + 1) ls' st M Q :=
  r_eq (r := (pc + 1, ls', st)) (M1 := M) h rfl (by simp only [im_ns, im_p, im_stI, hk, if_true, hl])
theorem r_istore {k : Nat} {x : Int32} {ls' : List Value} (h : im_at y pc (.istore k) 2) (hk : k < ls.length) (hl : ls.set k (.int x) = ls') : iw d y pc ls (.int x :: st) M Q ↔ iw d y (pc + 2) ls' st M Q :=
  r_eq (r := (pc + 2, ls', st)) (M1 := M) h rfl (by simp only [im_ns, im_p, im_stI, hk, if_true, hl])
theorem r_astore_n {k : Fin 4} {x : Nat} {ls' : List Value} (h : im_at y pc (.astore_n k) 1) (hk : (k : Nat) < ls.length) (hl : ls.set (k : Nat) (.ref x) = ls') : iw d y pc ls (.ref x :: st) M Q ↔ iw d y (pc + 1) ls' st M Q :=
  r_eq (r := (pc + 1, ls', st)) (M1 := M) h rfl (by simp only [im_ns, im_p, im_stA, hk, if_true, hl])
theorem r_astore {k : Nat} {x : Nat} {ls' : List Value} (h : im_at y pc (.astore k) 2) (hk : k < ls.length) (hl : ls.set k (.ref x) = ls') : iw d y pc ls (.ref x :: st) M Q ↔ iw d y (pc + 2) ls' st M Q :=
  r_eq (r := (pc + 2, ls', st)) (M1 := M) h rfl (by simp only [im_ns, im_p, im_stA, hk, if_true, hl])
theorem r_iinc {k : Nat} {n : Int} {x c : Int32} {ls' : List Value} (h : im_at y pc (.iinc k n) 3) (hc : Int32.ofInt n = c) (hk : ls[k]? = some (.int x)) (hl : ls.set k (.int (x + c)) = ls') : iw d y pc ls st M Q ↔ iw d y (pc + 3) ls' st M Q :=
  r_eq (r := (pc + 3, ls', st)) (M1 := M) h rfl (by subst hc; simp only [im_ns, im_p, im_inc, hk, if_true, hl])
theorem r_iadd {x y0 : Int32} (h : im_at y pc .iadd 1) : iw d y pc ls (.int y0 :: .int x :: st) M Q ↔ iw d y (pc + 1) ls (.int (x + y0) :: st) M Q := r_eq (r := (pc + 1, ls, .int (x + y0) :: st)) (M1 := M) h rfl rfl
theorem r_isub {x y0 : Int32} (h : im_at y pc .isub 1) : iw d y pc ls (.int y0 :: .int x :: st) M Q ↔ iw d y (pc + 1) ls (.int (x - y0) :: st) M Q := r_eq (r := (pc + 1, ls, .int (x - y0) :: st)) (M1 := M) h rfl rfl
theorem r_imul {x y0 : Int32} (h : im_at y pc .imul 1) : iw d y pc ls (.int y0 :: .int x :: st) M Q ↔ iw d y (pc + 1) ls (.int (x * y0) :: st) M Q := r_eq (r := (pc + 1, ls, .int (x * y0) :: st)) (M1 := M) h rfl rfl
theorem r_iand {x y0 : Int32} (h : im_at y pc .iand 1) : iw d y pc ls (.int y0 :: .int x :: st) M Q ↔ iw d y (pc + 1) ls (.int (x &&& y0) :: st) M Q := r_eq (r := (pc + 1, ls, .int (x &&& y0) :: st)) (M1 := M) h rfl rfl
theorem r_ior {x y0 : Int32} (h : im_at y pc .ior 1) : iw d y pc ls (.int y0 :: .int x :: st) M Q ↔ iw d y (pc + 1) ls (.int (x ||| y0) :: st) M Q := r_eq (r := (pc + 1, ls, .int (x ||| y0) :: st)) (M1 := M) h rfl rfl
theorem r_ixor {x y0 : Int32} (h : im_at y pc .ixor 1) : iw d y pc ls (.int y0 :: .int x :: st) M Q ↔ iw d y (pc + 1) ls (.int (x ^^^ y0) :: st) M Q := r_eq (r := (pc + 1, ls, .int (x ^^^ y0) :: st)) (M1 := M) h rfl rfl
theorem r_ishl {x y0 : Int32} (h : im_at y pc .ishl 1) : iw d y pc ls (.int y0 :: .int x :: st) M Q ↔ iw d y (pc + 1) ls (.int (x <<< (y0 &&& 31)) :: st) M Q := r_eq (r := (pc + 1, ls, .int (x <<< (y0 &&& 31)) :: st)) (M1 := M) h rfl rfl
theorem r_ishr {x y0 : Int32} (h : im_at y pc .ishr 1) : iw d y pc ls (.int y0 :: .int x :: st) M Q ↔ iw d y (pc + 1) ls (.int (x >>> (y0 &&& 31)) :: st) M Q := r_eq (r := (pc + 1, ls, .int (x >>> (y0 &&& 31)) :: st)) (M1 := M) h rfl rfl
theorem r_idiv {x y0 : Int32} (h : im_at y pc .idiv 1) (hy : ¬ y0 = 0) : iw d y pc ls (.int y0 :: .int x :: st) M Q ↔ iw d y (pc + 1) ls (.int (x / y0) :: st) M Q :=
  r_eq (r := (pc + 1, ls, .int (x / y0) :: st)) (M1 := M) h rfl (by simp only [im_ns, im_p, im_dv, hy, if_true, if_false])
theorem r_irem {x y0 : Int32} (h : im_at y pc .irem 1) (hy : ¬ y0 = 0) : iw d y pc ls (.int y0 :: .int x :: st) M Q ↔ iw d y (pc + 1) ls (.int (x - x / y0 * y0) :: st) M Q :=
  r_eq (r := (pc + 1, ls, .int (x - x / y0 * y0) :: st)) (M1 := M) h rfl (by simp only [im_ns, im_p, im_dv, hy, if_true, if_false])
theorem r_i2c {x : Int32} (h : im_at y pc .i2c 1) : iw d y pc ls (.int x :: st) M Q ↔ iw d y (pc + 1) ls (.int (x.toUInt32 % 65536).toInt32 :: st) M Q := r_eq (r := (pc + 1, ls, .int (x.toUInt32 % 65536).toInt32 :: st)) (M1 := M) h rfl rfl
theorem r_i2l {x : Int32} (h : im_at y pc .i2l 1) : iw d y pc ls (.int x :: st) M Q ↔ iw d y (pc + 1) ls (.long x.toInt64 :: st) M Q := r_eq (r := (pc + 1, ls, .long x.toInt64 :: st)) (M1 := M) h rfl rfl
theorem r_lcmp {x y0 : Int64} (h : im_at y pc .lcmp 1) : iw d y pc ls (.long y0 :: .long x :: st) M Q ↔ iw d y (pc + 1) ls (.int (lg_cmp x y0) :: st) M Q := r_eq (r := (pc + 1, ls, .int (lg_cmp x y0) :: st)) (M1 := M) h rfl rfl
theorem r_dup {v : Value} (h : im_at y pc .dup 1) (hv : im_c1 v = true) : iw d y pc ls (v :: st) M Q ↔ iw d y (pc + 1) ls (v :: v :: st) M Q :=
  r_eq (r := (pc + 1, ls, v :: v :: st)) (M1 := M) h rfl (by simp only [im_ns, im_p, im_dup, hv, if_true])
theorem r_pop {v : Value} (h : im_at y pc .pop 1) (hv : im_c1 v = true) : iw d y pc ls (v :: st) M Q ↔ iw d y (pc + 1) ls st M Q :=
  r_eq (r := (pc + 1, ls, st)) (M1 := M) h rfl (by simp only [im_ns, im_p, im_pop, hv, if_true])
theorem r_dup2 {v w : Value} (h : im_at y pc .dup2 1) (hv : im_c1 v = true) (hw : im_c1 w = true) : iw d y pc ls (v :: w :: st) M Q ↔ iw d y (pc + 1) ls (v :: w :: v :: w :: st) M Q :=
  r_eq (r := (pc + 1, ls, v :: w :: v :: w :: st)) (M1 := M) h rfl (by simp only [im_ns, im_p, im_dup2, hv, hw, Bool.and_self, if_true])
theorem r_dup_x1 {v w : Value} (h : im_at y pc .dup_x1 1) (hv : im_c1 v = true) (hw : im_c1 w = true) : iw d y pc ls (v :: w :: st) M Q ↔ iw d y (pc + 1) ls (v :: w :: v :: st) M Q :=
  r_eq (r := (pc + 1, ls, v :: w :: v :: st)) (M1 := M) h rfl (by simp only [im_ns, im_p, im_dupx1, hv, hw, Bool.and_self, if_true])
theorem r_br {b : Bool} {t u : Nat} : iw d y (if b = true then t else u) ls st M Q ↔ if b = true then iw d y t ls st M Q else iw d y u ls st M Q := by
  cases b <;> simp
theorem r_if_eq {x : Int32} {off : Int} {t : Nat} (h : im_at y pc (.ifCond .eq off) 3) (ht : im_j pc off = some t) : iw d y pc ls (.int x :: st) M Q ↔ if x = 0 then iw d y t ls st M Q else iw d y (pc + 3) ls st M Q := by
  rw [r_eq (r := (if decide (x = 0) = true then t else pc + 3, ls, st)) (M1 := M) h rfl (by simp only [im_ns, im_p, im_if, ht, if_true]), r_br]
  simp only [decide_eq_true_eq]
theorem r_if_ne {x : Int32} {off : Int} {t : Nat} (h : im_at y pc (.ifCond .ne off) 3) (ht : im_j pc off = some t) : iw d y pc ls (.int x :: st) M Q ↔ if ¬ x = 0 then iw d y t ls st M Q else iw d y (pc + 3) ls st M Q := by
  rw [r_eq (r := (if decide (¬ x = 0) = true then t else pc + 3, ls, st)) (M1 := M) h rfl (by simp only [im_ns, im_p, im_if, ht, if_true]), r_br]
  simp only [decide_eq_true_eq]
theorem r_if_lt {x : Int32} {off : Int} {t : Nat} (h : im_at y pc (.ifCond .lt off) 3) (ht : im_j pc off = some t) : iw d y pc ls (.int x :: st) M Q ↔ if x < 0 then iw d y t ls st M Q else iw d y (pc + 3) ls st M Q := by
  rw [r_eq (r := (if decide (x < 0) = true then t else pc + 3, ls, st)) (M1 := M) h rfl (by simp only [im_ns, im_p, im_if, ht, if_true]), r_br]
  simp only [decide_eq_true_eq]
theorem r_if_ge {x : Int32} {off : Int} {t : Nat} (h : im_at y pc (.ifCond .ge off) 3) (ht : im_j pc off = some t) : iw d y pc ls (.int x :: st) M Q ↔ if 0 ≤ x then iw d y t ls st M Q else iw d y (pc + 3) ls st M Q := by
  rw [r_eq (r := (if decide (0 ≤ x) = true then t else pc + 3, ls, st)) (M1 := M) h rfl (by simp only [im_ns, im_p, im_if, ht, if_true]), r_br]
  simp only [decide_eq_true_eq]
theorem r_if_gt {x : Int32} {off : Int} {t : Nat} (h : im_at y pc (.ifCond .gt off) 3) (ht : im_j pc off = some t) : iw d y pc ls (.int x :: st) M Q ↔ if 0 < x then iw d y t ls st M Q else iw d y (pc + 3) ls st M Q := by
  rw [r_eq (r := (if decide (0 < x) = true then t else pc + 3, ls, st)) (M1 := M) h rfl (by simp only [im_ns, im_p, im_if, ht, if_true]), r_br]
  simp only [decide_eq_true_eq]
theorem r_if_le {x : Int32} {off : Int} {t : Nat} (h : im_at y pc (.ifCond .le off) 3) (ht : im_j pc off = some t) : iw d y pc ls (.int x :: st) M Q ↔ if x ≤ 0 then iw d y t ls st M Q else iw d y (pc + 3) ls st M Q := by
  rw [r_eq (r := (if decide (x ≤ 0) = true then t else pc + 3, ls, st)) (M1 := M) h rfl (by simp only [im_ns, im_p, im_if, ht, if_true]), r_br]
  simp only [decide_eq_true_eq]
theorem r_ic_eq {x y0 : Int32} {off : Int} {t : Nat} (h : im_at y pc (.if_icmp .eq off) 3) (ht : im_j pc off = some t) : iw d y pc ls (.int y0 :: .int x :: st) M Q ↔ if x = y0 then iw d y t ls st M Q else iw d y (pc + 3) ls st M Q := by
  rw [r_eq (r := (if decide (x = y0) = true then t else pc + 3, ls, st)) (M1 := M) h rfl (by simp only [im_ns, im_p, im_ic, ht, if_true]), r_br]
  simp only [decide_eq_true_eq]
theorem r_ic_ne {x y0 : Int32} {off : Int} {t : Nat} (h : im_at y pc (.if_icmp .ne off) 3) (ht : im_j pc off = some t) : iw d y pc ls (.int y0 :: .int x :: st) M Q ↔ if ¬ x = y0 then iw d y t ls st M Q else iw d y (pc + 3) ls st M Q := by
  rw [r_eq (r := (if decide (¬ x = y0) = true then t else pc + 3, ls, st)) (M1 := M) h rfl (by simp only [im_ns, im_p, im_ic, ht, if_true]), r_br]
  simp only [decide_eq_true_eq]
theorem r_ic_lt {x y0 : Int32} {off : Int} {t : Nat} (h : im_at y pc (.if_icmp .lt off) 3) (ht : im_j pc off = some t) : iw d y pc ls (.int y0 :: .int x :: st) M Q ↔ if x < y0 then iw d y t ls st M Q else iw d y (pc + 3) ls st M Q := by
  rw [r_eq (r := (if decide (x < y0) = true then t else pc + 3, ls, st)) (M1 := M) h rfl (by simp only [im_ns, im_p, im_ic, ht, if_true]), r_br]
  simp only [decide_eq_true_eq]
theorem r_ic_ge {x y0 : Int32} {off : Int} {t : Nat} (h : im_at y pc (.if_icmp .ge off) 3) (ht : im_j pc off = some t) : iw d y pc ls (.int y0 :: .int x :: st) M Q ↔ if y0 ≤ x then iw d y t ls st M Q else iw d y (pc + 3) ls st M Q := by
  rw [r_eq (r := (if decide (y0 ≤ x) = true then t else pc + 3, ls, st)) (M1 := M) h rfl (by simp only [im_ns, im_p, im_ic, ht, if_true]), r_br]
  simp only [decide_eq_true_eq]
theorem r_ic_gt {x y0 : Int32} {off : Int} {t : Nat} (h : im_at y pc (.if_icmp .gt off) 3) (ht : im_j pc off = some t) : iw d y pc ls (.int y0 :: .int x :: st) M Q ↔ if y0 < x then iw d y t ls st M Q else iw d y (pc + 3) ls st M Q := by
  rw [r_eq (r := (if decide (y0 < x) = true then t else pc + 3, ls, st)) (M1 := M) h rfl (by simp only [im_ns, im_p, im_ic, ht, if_true]), r_br]
  simp only [decide_eq_true_eq]
theorem r_ic_le {x y0 : Int32} {off : Int} {t : Nat} (h : im_at y pc (.if_icmp .le off) 3) (ht : im_j pc off = some t) : iw d y pc ls (.int y0 :: .int x :: st) M Q ↔ if x ≤ y0 then iw d y t ls st M Q else iw d y (pc + 3) ls st M Q := by
  rw [r_eq (r := (if decide (x ≤ y0) = true then t else pc + 3, ls, st)) (M1 := M) h rfl (by simp only [im_ns, im_p, im_ic, ht, if_true]), r_br]
  simp only [decide_eq_true_eq]
theorem r_goto {off : Int} {t : Nat} (h : im_at y pc (.goto off) 3) (ht : im_j pc off = some t) : iw d y pc ls st M Q ↔ iw d y t ls st M Q :=
  r_eq (r := (t, ls, st)) (M1 := M) h rfl (by simp only [im_ns, im_p, im_go, ht, if_true])
theorem r_ts {dflt lo hi : Int} {offs : Array Int} {len t0 : Nat} {ts : List Nat} {x : Int32} (h : im_at y pc (.tableswitch dflt lo hi offs) len) (h0 : im_j pc dflt = some t0) (hts : offs.toList.map (im_j pc) = ts.map some) (hn : (ts.length : Int) = hi - lo + 1) :
    iw d y pc ls (.int x :: st) M Q ↔ iw d y (if x.toInt < lo ∨ hi < x.toInt then t0 else ts.getD (x.toInt - lo).toNat t0) ls st M Q := by
  refine r_eq (r := (if x.toInt < lo ∨ hi < x.toInt then t0 else ts.getD (x.toInt - lo).toNat t0, ls, st)) (M1 := M) h rfl ?_
  have hg : im_ts pc dflt lo hi offs ls (.int x :: st) = some (if x.toInt < lo ∨ hi < x.toInt then t0 else ts.getD (x.toInt - lo).toNat t0, ls, st) := by
    unfold im_ts
    simp only
    by_cases hx : x.toInt < lo ∨ hi < x.toInt
    · rw [if_pos hx, if_pos hx, h0]
    · rw [if_neg hx, if_neg hx]
      have hlt : (x.toInt - lo).toNat < ts.length := by omega
      have h1 := congrArg (fun L => L[(x.toInt - lo).toNat]?) hts
      simp only [List.getElem?_map, List.getElem?_eq_getElem hlt, Option.map_some] at h1
      rw [List.getD_eq_getElem?_getD, List.getElem?_eq_getElem hlt]
      cases ho : offs[(x.toInt - lo).toNat]? with
      | none => rw [← Array.getElem?_toList] at ho; rw [ho] at h1; cases h1
      | some off =>
        rw [← Array.getElem?_toList] at ho
        rw [ho] at h1
        simp only [Option.map_some, Option.some.injEq] at h1
        simp only [h1, Option.getD_some]
  show (match im_ts pc dflt lo hi offs ls (.int x :: st) with | some r => some (r, M) | none => none) = _
  rw [hg]
end ROWS
