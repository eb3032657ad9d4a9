/-! The memory behind the constructors, checked by the kernel. -/
def mi0 : Nat → Nat → Int32 := fun a b => if (a = 8 ∧ b = 8) ∨ (a = 99 ∧ b = 10) then -1 else if a = 11 ∧ b = 1 then 1 else 0
def rw0 : Nat → Nat := fun j => 79 + 3 * j
def it_stp (A1 : im_M) : im_M := im_new A1 12 0 (it_nsl 12) (fun j => defaultValue (it_ty 12 j))
def it_st : Option im_M := match it_c1 with
  | some (.inl none, A1) => if A1.1.1 = 99 ∧ A1.1.2.1 = 0 then (match im_run 100000 29 81 0 [.ref 99] [] (it_stp A1) with
    | some (.inl none, A2) => some (im_new A2 33 1 1 (fun _ => .long 0))
    | _ => none) else none
  | _ => none
def it_nn (q : Nat) : Nat := if it_kd q < 30 then it_nf (it_kd q) else it_ln 0 q
def it_ck (A : im_M) : Bool := decide (A.1 = (135, 0, 3090)) && (List.range 127).all (fun q => decide (A.2.1 (q + 8) = it_sh 0 (q + 8)) && (fun f => (List.range (it_nn (q + 8))).all (fun j => decide (f j = it_cv (fun _ => 0) mi0 rw0 (fun _ => 0) (q + 8) j))) (A.2.2 (q + 8)))
theorem it_st_ok : (match it_st with | some A => it_ck A | none => false) = true := by decide +kernel
