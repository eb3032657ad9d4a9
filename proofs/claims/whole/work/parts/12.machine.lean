/-! The abstract machine, whole. Tables (printed): it_met (methods), it_fld (fields), it_pok (may it be written here), it_cal (calls),
it_obi (Object.<init>), it_nwc (new), it_nak and it_anw (arrays), it_man (int[3][3]), it_acp (what an array of references takes), it_str (texts),
it_ixo (String.indexOf), it_thr (throw new E("..")). -/
/-- a field is read -/
def im_gf (y idx len : Nat) (st : List Value) (M : im_M) : Option (List Value) := if len = 3 then (match it_fld y idx with
  | some q => (match st with
    | .ref a :: r => if 8 ≤ a ∧ a < M.1.1 ∧ (M.2.1 a).1 = q.1 then some (M.2.2 a q.2.1 :: r) else none
    | _ => none)
  | none => none) else none
/-- a field is written -/
def im_pf (y idx len : Nat) (st : List Value) (M : im_M) : Option (List Value × im_M) := if len = 3 ∧ it_pok y idx = true then (match it_fld y idx with
  | some q => (match st with
    | v :: .ref a :: r => if 8 ≤ a ∧ a < M.1.1 ∧ (M.2.1 a).1 = q.1 ∧ narrow (it_ty q.1 q.2.1) v = v ∧ fits (it_ty q.1 q.2.1) v = true then some (r, im_set M a q.2.1 v) else none
    | _ => none)
  | none => none) else none
def im_nw (y idx len : Nat) (st : List Value) (M : im_M) : Option (List Value × im_M) := if len = 3 ∧ M.1.2.1 = 0 then (match it_nwc y idx with
  | some ci => some (.ref M.1.1 :: st, im_new M ci 0 (it_nsl ci) (fun j => defaultValue (it_ty ci j)))
  | none => none) else none
def im_na (at_ : ArrayType) (len : Nat) (st : List Value) (M : im_M) : Option (List Value × im_M) := if len = 2 ∧ M.1.2.1 = 0 then (match it_nak at_ with
  | some kd => (match st with
    | .int n :: r => if ¬ n < 0 ∧ n.toNatClampNeg ≤ 1000 then some (.ref M.1.1 :: r, im_new M kd n.toNatClampNeg n.toNatClampNeg (fun _ => defaultValue (newarray.typeOf at_))) else none
    | _ => none)
  | none => none) else none
def im_aw (y idx len : Nat) (st : List Value) (M : im_M) : Option (List Value × im_M) := if len = 3 ∧ M.1.2.1 = 0 then (match it_anw y idx with
  | some kd => (match st with
    | .int n :: r => if ¬ n < 0 ∧ n.toNatClampNeg ≤ 1000 then some (.ref M.1.1 :: r, im_new M kd n.toNatClampNeg n.toNatClampNeg (fun _ => .null)) else none
    | _ => none)
  | none => none) else none
/-- new int[3][3] -/
def im_mw (y idx dim len : Nat) (st : List Value) (M : im_M) : Option (List Value × im_M) := if len = 4 ∧ dim = 2 ∧ M.1.2.1 = 0 ∧ it_man y idx = true then (match st with
  | .int b :: .int a :: r => if a = 3 ∧ b = 3 then some (.ref M.1.1 :: r,
      im_new (im_new (im_new (im_new M 36 3 3 (fun j => .ref (M.1.1 + 1 + j))) 30 3 3 (fun _ => .int 0)) 30 3 3 (fun _ => .int 0)) 30 3 3 (fun _ => .int 0)) else none
  | _ => none) else none
def im_len (len : Nat) (st : List Value) (M : im_M) : Option (List Value) := if len = 1 then (match st with
  | .ref k :: r => if k < M.1.1 ∧ 30 ≤ (M.2.1 k).1 ∧ (it_aty (M.2.1 k).1).isSome = true then some (.int (M.2.1 k).2.toInt32 :: r) else none
  | _ => none) else none
/-- a reference is laid into an array -/
def im_aa (len : Nat) (st : List Value) (M : im_M) : Option (List Value × im_M) := match st with
  | .ref v :: .int j :: .ref k :: r => (match it_aty (M.2.1 k).1 with
    | some ty => if 8 ≤ v ∧ v < M.1.1 ∧ it_acp (M.2.1 k).1 = some (M.2.1 v).1 then (match im_as it_aty ty len j k (.ref v) M with | some M' => some (r, M') | none => none) else none
    | none => none)
  | _ => none
def im_ai (ty : FieldType) (len : Nat) (st : List Value) (M : im_M) : Option (List Value × im_M) := match st with
  | .int x :: .int j :: .ref k :: r => (match im_as it_aty ty len j k (narrow ty (.int x)) M with | some M' => some (r, M') | none => none)
  | _ => none
def im_al64 (len : Nat) (st : List Value) (M : im_M) : Option (List Value × im_M) := match st with
  | .long x :: .int j :: .ref k :: r => (match im_as it_aty .long len j k (.long x) M with | some M' => some (r, M') | none => none)
  | _ => none
def im_ar (M : im_M) (k : Nat) : Option FieldType := it_aty (M.2.1 k).1
/-- aaload: of whichever array of references -/
def im_al2 (len pc : Nat) (st : List Value) (M : im_M) : Option (List Value) := match st with
  | .int _ :: .ref k :: _ => (match im_ar M k with | some ty => if ty.isReference = true then im_al it_aty ty len pc st M else none | none => none)
  | _ => none
def im_rd (pc : Nat) (ls : List Value) (M : im_M) (L : Nat) : Option (List Value) → Option (im_S × im_M)
  | some st' => some ((pc + L, ls, st'), M)
  | none => none
def im_wr (pc : Nat) (ls : List Value) (L : Nat) : Option (List Value × im_M) → Option (im_S × im_M)
  | some q => some ((pc + L, ls, q.1), q.2)
  | none => none
/-- all instructions but calls, returns and throws -/
def im_ns (y : Nat) (i : Instr) (len pc : Nat) (ls st : List Value) (M : im_M) : Option (im_S × im_M) := match i with
  | .getfield idx => im_rd pc ls M 3 (im_gf y idx len st M)
  | .putfield idx => im_wr pc ls 3 (im_pf y idx len st M)
  | .new idx => im_wr pc ls 3 (im_nw y idx len st M)
  | .newarray a => im_wr pc ls 2 (im_na a len st M)
  | .anewarray idx => im_wr pc ls 3 (im_aw y idx len st M)
  | .multianewarray idx dim => im_wr pc ls 4 (im_mw y idx dim len st M)
  | .arraylength => im_rd pc ls M 1 (im_len len st M)
  | .iaload => im_rd pc ls M 1 (im_al it_aty .int len pc st M)
  | .caload => im_rd pc ls M 1 (im_al it_aty .char len pc st M)
  | .baload => im_rd pc ls M 1 (im_al it_aty .boolean len pc st M)
  | .laload => im_rd pc ls M 1 (im_al it_aty .long len pc st M)
  | .aaload => im_rd pc ls M 1 (im_al2 len pc st M)
  | .iastore => im_wr pc ls 1 (im_ai .int len st M)
  | .castore => im_wr pc ls 1 (im_ai .char len st M)
  | .bastore => im_wr pc ls 1 (im_ai .boolean len st M)
  | .lastore => im_wr pc ls 1 (im_al64 len st M)
  | .aastore => im_wr pc ls 1 (im_aa len st M)
  | .ldc idx => if len = 2 then (match it_str y idx with | some k => some ((pc + 2, ls, .ref k :: st), M) | none => none) else none
  | i => (match im_p i len pc ls st with | some r => some (r, M) | none => none)
/-- how a method ends -/
abbrev im_O : Type := Option Value ⊕ (Nat × Nat)
def im_ret (y : Nat) (i : Instr) (len : Nat) (st : List Value) : Option (Option Value) := match it_met y with
  | some me => (match i with
    | .ireturn => if len = 1 then (match st, me.2.2.2.1 with | [.int x], some ty => if narrow ty (.int x) = .int x ∧ ty.isReference = false ∧ fits ty (.int x) = true then some (some (.int x)) else none | _, _ => none) else none
    | .areturn => if len = 1 then (match st, me.2.2.2.1 with | [.ref k], some ty => if ty.isReference = true then some (some (.ref k)) else none | _, _ => none) else none
    | .return_ => if len = 1 then (match st, me.2.2.2.1 with | [], none => some none | _, _ => none) else none
    | _ => none)
  | none => none
/-- a call: what is called, its arguments, what stays on the stack -/
def im_call (y : Nat) (i : Instr) (len : Nat) (st : List Value) : Option (Nat × List Value × List Value) := if len = 3 then (match i with
  | .invokevirtual idx => (match it_cal y idx with
    | some q => if q.1 = 0 ∧ q.2.2.1 < st.length ∧ ((st.drop (q.2.2.1 + 1)).map Value.category).sum ≤ 8 then some (q.2.1, (st.take (q.2.2.1 + 1)).reverse, st.drop (q.2.2.1 + 1)) else none
    | none => none)
  | .invokestatic idx => (match it_cal y idx with
    | some q => if q.1 = 1 ∧ q.2.2.1 ≤ st.length ∧ ((st.drop q.2.2.1).map Value.category).sum ≤ 8 then some (q.2.1, (st.take q.2.2.1).reverse, st.drop q.2.2.1) else none
    | none => none)
  | .invokespecial idx => (match it_cal y idx with
    | some q => if q.1 = 2 ∧ q.2.2.1 < st.length ∧ ((st.drop (q.2.2.1 + 1)).map Value.category).sum ≤ 8 then some (q.2.1, (st.take (q.2.2.1 + 1)).reverse, st.drop (q.2.2.1 + 1)) else none
    | none => none)
  | _ => none) else none
/-- the two texts' characters, and where a character stands in them -/
def it_txl (k : Nat) : List Int32 := if k = 1 then [112, 110, 117, 114, 111] else [112, 110, 117, 115]
def it_ixg (c : Int32) : List Int32 → Nat → Int32
  | [], _ => -1
  | x :: l, n => if x = c then Int32.ofNat n else it_ixg c l (n + 1)
def it_ix (k : Nat) (c : Int32) : Int32 := it_ixg c (it_txl k) 0
/-- Object.<init>, Math.max, String.indexOf -/
def im_prim (y : Nat) (i : Instr) (len : Nat) (st : List Value) (M : im_M) : Option (List Value) := if len = 3 then (match i with
  | .invokespecial idx => if it_obi y idx = true then (match st with | .ref k :: r => (if (r.map Value.category).sum ≤ 8 then some r else none) | _ => none) else none
  | .invokestatic idx => if it_mxx y idx = true then (match st with | .int b :: .int a :: r => (if (r.map Value.category).sum ≤ 8 then some (.int (if a < b then b else a) :: r) else none) | _ => none) else none
  | .invokevirtual idx => if it_ixo y idx = true then (match st with | .int c :: .ref k :: r => (if (k = 1 ∨ k = 2) ∧ 0 ≤ c ∧ c < 128 ∧ (r.map Value.category).sum ≤ 8 then some (.int (it_ix k c) :: r) else none) | _ => none) else none
  | _ => none) else none
def im_hand (y pc ec : Nat) : Option Nat := match it_met y with
  | some me => (me.2.2.2.2.find? fun h => decide (h.1 ≤ pc) && decide (pc < h.2.1) && it_cat y h.2.2.2 ec).map fun h => h.2.2.1
  | none => none
def im_nohand (y : Nat) : Bool := match it_met y with | some me => me.2.2.2.2.isEmpty | none => false
/-- the receiver of an instance call is of the callee's class -/
def im_recv (i : Instr) (z : Nat) (as : List Value) (M : im_M) : Bool := match i with
  | .invokestatic _ => as.all im_c1
  | _ => as.all im_c1 && (match as with | .ref k :: _ => decide (8 ≤ k ∧ k < M.1.1 ∧ it_mcl z = some (M.2.1 k).1) | _ => false)
def im_dec (y pc : Nat) : Option (Instr × Nat) := match it_met y with
  | some me => (match decode me.2.1 pc with | .ok q => some q | .error _ => none)
  | none => none
def im_max (y : Nat) : Nat := match it_met y with | some me => me.2.2.1 | none => 0
/-- one step, what is called and what comes behind by f -/
def im_F (f : Nat → Nat → Nat → List Value → List Value → im_M → Option (im_O × im_M)) (d y pc : Nat) (ls st : List Value) (M : im_M) : Option (im_O × im_M) := match im_dec y pc with
    | none => none
    | some (i, len) => match im_ret y i len st with
      | some v => some (.inl v, M)
      | none => match it_thr y pc with
        | some ec => if ((st.map Value.category).sum ≤ 8) then some (.inr (ec, im_tot M), im_dead M 1 6) else none
        | none => match im_prim y i len st M with
          | some st' => f d y (pc + 3) ls st' M
          | none => match im_call y i len st with
            | some (z, as, rest) => (match d with
              | 0 => none
              | d' + 1 => if as.length ≤ im_max z ∧ im_recv i z as M = true then (match f d' z 0 (as ++ List.replicate (im_max z - as.length) (.retAddr 0)) [] M with
                | some (.inl v, M1) => f (d' + 1) y (pc + 3) ls (v.toList ++ rest) M1
                | some (.inr q, M1) => (match im_hand y pc q.1 with
                  | some h => f (d' + 1) y h ls [.ref q.2] M1
                  | none => if im_nohand y = true then some (.inr q, M1) else none)
                | none => none) else none)
            | none => match im_ns y i len pc ls st M with
              | some (r, M1) => f d y r.1 r.2.1 r.2.2 M1
              | none => none
def im_run : Nat → Nat → Nat → Nat → List Value → List Value → im_M → Option (im_O × im_M)
  | 0 => fun _ _ _ _ _ _ => none
  | n + 1 => im_F (im_run n)
