/-! The two constructors, run by the kernel. -/
def it_Mc : im_M := ((8, 0, 0), (fun _ => (0, 0)), (fun _ _ => .null))
def it_c1 : Option (im_O × im_M) := im_run 100000 29 1 0 ([.ref 8] ++ List.replicate 1 (.retAddr 0)) [] (im_new it_Mc 11 0 9 (fun j => defaultValue (it_ty 11 j)))
theorem it_c1_ok : it_c1.isSome = true := by decide +kernel
