/-! The memory behind the constructors, in one form: mi holds all ints, rw the row of messages, o the law's long. -/
def it_shl : List (Nat × Nat) := [(11, 0), (0, 0), (31, 120), (0, 0), (31, 40), (1, 0), (30, 40), (30, 40), (3, 0), (2, 0), (30, 30), (30, 30), (30, 30), (30, 30), (1, 0), (30, 120), (30, 120), (30, 4), (30, 4), (4, 0), (30, 48), (30, 48), (30, 48), (30, 48), (30, 48), (30, 3), (35, 3), (7, 0), (30, 3), (36, 3), (30, 3), (30, 3), (30, 3), (6, 0), (30, 48), (30, 48), (30, 48), (30, 48), (32, 48), (30, 3), (5, 0), (7, 0), (30, 3), (36, 3), (30, 3), (30, 3), (30, 3), (6, 0), (30, 48), (30, 48), (30, 48), (30, 48), (32, 48), (30, 3), (5, 0), (7, 0), (30, 3), (36, 3), (30, 3), (30, 3), (30, 3), (6, 0), (30, 48), (30, 48), (30, 48), (30, 48), (32, 48), (30, 3), (5, 0), (9, 0), (34, 6), (8, 0), (30, 3), (30, 3), (8, 0), (30, 3), (30, 3), (8, 0), (30, 3), (30, 3), (8, 0), (30, 3), (30, 3), (8, 0), (30, 3), (30, 3), (8, 0), (30, 3), (30, 3), (10, 0), (30, 48), (12, 0), (31, 120), (31, 40), (31, 120), (31, 8), (32, 8), (32, 8), (32, 8), (30, 32), (30, 32), (30, 32), (31, 120), (30, 4), (30, 4), (30, 3), (30, 48), (30, 48), (30, 48), (30, 48), (30, 48), (30, 9), (30, 27), (30, 3), (30, 6), (30, 6), (30, 18), (30, 18), (32, 48), (30, 48), (30, 48), (30, 48), (30, 48), (32, 48), (30, 3), (30, 48), (33, 1)]
def it_sh (L : Nat) (k : Nat) : Nat × Nat := if k = 0 then (39, L) else if k < 8 then (0, 0) else it_shl.getD (k - 8) (0, 0)
def it_rfs : List (Nat × List (Option Nat)) := [(8, [some 9, some 11, some 13, some 16, some 27, some 34, some 77, some 97, none]), (9, [some 10, none, some 1, none, none, none]), (11, [some 12, none, some 2, none, none, none]), (13, [some 14, some 15, none]), (16, [some 17, some 25, some 26]), (17, [some 18, some 19, some 20, some 21, some 22, none]), (22, [some 23, some 24, none]), (27, [some 28, some 29, some 30, some 31, some 32, some 33, none]), (34, [some 35, some 49, some 63]), (35, [some 36, some 37, some 41, none]), (37, [some 38, some 39, some 40]), (41, [some 42, some 43, some 44, some 45, some 46, some 47, some 48]), (49, [some 50, some 51, some 55, none]), (51, [some 52, some 53, some 54]), (55, [some 56, some 57, some 58, some 59, some 60, some 61, some 62]), (63, [some 64, some 65, some 69, none]), (65, [some 66, some 67, some 68]), (69, [some 70, some 71, some 72, some 73, some 74, some 75, some 76]), (77, [some 78, none]), (79, [some 80, some 81, none, none]), (82, [some 83, some 84, none, none]), (85, [some 86, some 87, none, none]), (88, [some 89, some 90, none, none]), (91, [some 92, some 93, none, none]), (94, [some 95, some 96, none, none]), (97, [some 98, none]), (99, [none, none, some 100, none, some 101, none, some 102, none, none, none, none, some 103, some 104, some 105, some 106, none, none, some 107, some 108, some 109, none, some 110, some 111, some 112, some 113, some 114, some 115, some 116, some 117, some 118, some 119, some 120, some 121, none, some 122, some 123, some 124, some 125, some 126, some 127, some 128, some 129, some 130, some 131, some 132, none, some 133])]
def it_ref (k j : Nat) : Option Nat := match it_rfs.lookup k with | some l => l.getD j none | none => none
abbrev it_Mu : Type := (Nat → Nat → Int32) × (Nat → Nat) × (Nat → Int64)
def it_cv (xs : Nat → Int32) (mi : Nat → Nat → Int32) (rw : Nat → Nat) (o : Nat → Int64) (k j : Nat) : Value := if k = 0 then .int (xs j) else if k = 134 then .long (o j) else if k = 78 then .ref (rw j) else match it_ref k j with | some r => .ref r | none => .int (mi k j)
def it_mem (L : Nat) (xs : Nat → Int32) (mi : Nat → Nat → Int32) (rw : Nat → Nat) (o : Nat → Int64) (g z : Nat) : im_M := ((135, g, z), it_sh L, it_cv xs mi rw o)
def it_up (mi : Nat → Nat → Int32) (k j : Nat) (x : Int32) : Nat → Nat → Int32 := fun a b => if a = k ∧ b = j then x else mi a b
theorem it_up_same (mi : Nat → Nat → Int32) (k j : Nat) (x : Int32) : it_up mi k j x k j = x := by simp [it_up]
theorem it_up_k (mi : Nat → Nat → Int32) {k a : Nat} (j b : Nat) (x : Int32) (h : a ≠ k) : it_up mi k j x a b = mi a b := by simp [it_up, h]
theorem it_up_j (mi : Nat → Nat → Int32) (k : Nat) {j b : Nat} (x : Int32) (h : b ≠ j) : it_up mi k j x k b = mi k b := by simp [it_up, h]
theorem it_mem_set {L : Nat} {xs : Nat → Int32} {mi : Nat → Nat → Int32} {rw : Nat → Nat} {o : Nat → Int64} {g z k j : Nat} {x : Int32} (h0 : k ≠ 0) (h1 : k ≠ 134) (h2 : k ≠ 78) (h3 : it_ref k j = none) : im_set (it_mem L xs mi rw o g z) k j (.int x) = it_mem L xs (it_up mi k j x) rw o g z := by
  unfold im_set it_mem
  simp only [Prod.mk.injEq, true_and]
  funext a b
  by_cases e : a = k
  · subst e
    rw [va_up_self]
    by_cases e2 : b = j
    · subst e2
      rw [va_up_self]
      simp [it_cv, h0, h1, h2, h3, it_up]
    · rw [va_up_ne _ _ e2]
      simp only [it_cv, it_up_j mi a x e2]
  · rw [va_up_ne _ _ e]
    simp only [it_cv, it_up_k mi j b x e]
theorem it_mem_row {L : Nat} {xs : Nat → Int32} {mi : Nat → Nat → Int32} {rw : Nat → Nat} {o : Nat → Int64} {g z j r : Nat} : im_set (it_mem L xs mi rw o g z) 78 j (.ref r) = it_mem L xs mi (va_up rw j r) o g z := by
  unfold im_set it_mem
  simp only [Prod.mk.injEq, true_and]
  funext a b
  by_cases e : a = 78
  · subst e
    rw [va_up_self]
    by_cases e2 : b = j
    · subst e2
      rw [va_up_self]
      simp [it_cv, va_up_self]
    · rw [va_up_ne _ _ e2]
      simp [it_cv, va_up_ne _ _ e2]
  · rw [va_up_ne _ _ e]
    simp only [it_cv, e, if_false]
theorem it_mem_out {L : Nat} {xs : Nat → Int32} {mi : Nat → Nat → Int32} {rw : Nat → Nat} {o : Nat → Int64} {g z j : Nat} {v : Int64} : im_set (it_mem L xs mi rw o g z) 134 j (.long v) = it_mem L xs mi rw (va_up o j v) g z := by
  unfold im_set it_mem
  simp only [Prod.mk.injEq, true_and]
  funext a b
  by_cases e : a = 134
  · subst e
    rw [va_up_self]
    by_cases e2 : b = j
    · subst e2
      rw [va_up_self]
      simp [it_cv, va_up_self]
    · rw [va_up_ne _ _ e2]
      simp [it_cv, va_up_ne _ _ e2]
  · rw [va_up_ne _ _ e]
    simp only [it_cv, e, if_false]
theorem it_mem_dead {L : Nat} {xs : Nat → Int32} {mi : Nat → Nat → Int32} {rw : Nat → Nat} {o : Nat → Int64} {g z : Nat} : im_dead (it_mem L xs mi rw o g z) 1 6 = it_mem L xs mi rw o (g + 1) (z + 6) := rfl
theorem it_mem_tot {L : Nat} {xs : Nat → Int32} {mi : Nat → Nat → Int32} {rw : Nat → Nat} {o : Nat → Int64} {g z : Nat} : im_tot (it_mem L xs mi rw o g z) = 135 + g := rfl
/-- of which class a place is; an array's kind, its length -/
def it_kd (a : Nat) : Nat := if a = 0 then 39 else if a < 8 then 0 else (it_shl.getD (a - 8) (0, 0)).1
def it_isk (ci a : Nat) : Bool := decide (8 ≤ a ∧ a < 135 ∧ it_kd a = ci)
def it_isa (ty : FieldType) (a : Nat) : Bool := decide (a < 135 ∧ 30 ≤ it_kd a ∧ it_aty (it_kd a) = some ty)
def it_ln (L a : Nat) : Nat := if a = 0 then L else if a < 8 then 0 else (it_shl.getD (a - 8) (0, 0)).2
theorem it_sh_eq (L a : Nat) : it_sh L a = (it_kd a, it_ln L a) := by
  unfold it_sh it_kd it_ln
  split
  · rfl
  · split <;> rfl
theorem it_prim_all : (List.range 135).all (fun a => !(decide (30 ≤ it_kd a) && (decide (it_aty (it_kd a) = some .int) || decide (it_aty (it_kd a) = some .char) || decide (it_aty (it_kd a) = some .boolean))) || ((it_rfs.lookup a).isNone && decide (a ≠ 134) && decide (a ≠ 78))) = true := by decide +kernel
theorem it_prim {ty : FieldType} {a : Nat} (h : it_isa ty a = true) (ht : ty = .int ∨ ty = .char ∨ ty = .boolean) : (∀ j, it_ref a j = none) ∧ a ≠ 134 ∧ a ≠ 78 := by
  obtain ⟨h1, h2, h3⟩ := of_decide_eq_true h
  have h4 := List.all_eq_true.mp it_prim_all a (List.mem_range.mpr h1)
  have h5 : (decide (30 ≤ it_kd a) && (decide (it_aty (it_kd a) = some .int) || decide (it_aty (it_kd a) = some .char) || decide (it_aty (it_kd a) = some .boolean))) = true := by
    rcases ht with rfl | rfl | rfl <;> simp [h2, h3]
  rw [h5] at h4
  simp only [Bool.not_true, Bool.false_or, Bool.and_eq_true, decide_eq_true_eq] at h4
  refine ⟨fun j => ?_, h4.1.2, h4.2⟩
  unfold it_ref
  rw [Option.isNone_iff_eq_none.mp h4.1.1]
theorem it_obj_all : (List.range 135).all (fun a => !(decide (8 ≤ a) && decide (it_kd a < 30)) || (decide (a ≠ 134) && decide (a ≠ 78) && decide (a ≠ 0))) = true := by decide +kernel
theorem it_obj {ci a : Nat} (h : it_isk ci a = true) (hc : ci < 30) : a ≠ 0 ∧ a ≠ 134 ∧ a ≠ 78 := by
  obtain ⟨h1, h2, h3⟩ := of_decide_eq_true h
  have h4 := List.all_eq_true.mp it_obj_all a (List.mem_range.mpr h2)
  have h5 : (decide (8 ≤ a) && decide (it_kd a < 30)) = true := by simp [h1, h3, hc]
  rw [h5] at h4
  simp only [Bool.not_true, Bool.false_or, Bool.and_eq_true, decide_eq_true_eq] at h4
  exact ⟨h4.2, h4.1.1, h4.1.2⟩
