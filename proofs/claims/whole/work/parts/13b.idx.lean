/-! Parts of the machine that are right: String.indexOf(I) on the Reader's two texts: the library's theorem, paid. -/
section IXA
theorem im_Of.moved {nm d : String} {v : Value} {ca : Cell} {u U : State} (hvm : u.vm.Alike U.vm) (h : im_Of nm d v ca u) : im_Of nm d v ca U := by
  obtain ⟨cf, k, i, f, h1, h2, h3, h4⟩ := h
  obtain ⟨k', hi', -⟩ := State.fieldFound?_setVm hvm h1
  exact ⟨cf, k', i, f, hi', h2, by rw [hvm.assignable]; exact h3, h4⟩
theorem im_Sz.moved {idx : Nat} {f : List Int32} {H0 : Heap} {u U : State} (hW : u.WarmedH U.vm) (h : im_Sz idx f H0 u) : im_Sz idx f H0 U := by
  obtain ⟨a, d, ca, arr, kS, tx, h1, h2, h3, h4, h5, h6, h7, h8, h9, h10, h11, h12, h13⟩ := h
  obtain ⟨k', hk', he⟩ := hW.alike.2.2 _ _ h5
  exact ⟨a, d, ca, arr, k', tx, vk_R.warm hW h1, h2, h3, by rw [hW.alike.findClass]; exact h4, hk', by rw [he]; exact h6, h7, h8.moved hW.alike, h9.moved hW.alike, h10, State.isArrayOf_alike hW.alike h11, h12, h13⟩
theorem im_Sx.moved {H0 : Heap} {u U : State} (hW : u.WarmedH U.vm) (h : im_Sx H0 u) : im_Sx H0 U := ⟨h.1.moved hW, h.2.1.moved hW, h.2.2.moved hW.alike⟩
theorem im_exa {A : Array Value} {V : State} {a : Nat} {ca : Cell} {kS : Class} (h0 : A[0]? = some (.ref a)) (hc : V.heap[a]? = some ca) (hs : ca.vm.isStatics = false) (hf : V.vm.findClass "java/lang/String" = some ca.cls) (hk : V.vm.classes[ca.cls]? = some kS) (ho : kS.kind = .ordinary → ca.slots.size = kS.instanceTypes.size) : (Cond.exactly (.arg 0) "java/lang/String").before A V = true := by
  have ht : (Term.arg 0).eval A V none [] V = some (.ref a) := h0
  simp only [Cond.before, Cond.holds, Cond.value, ht, hf, hc, hk, Option.bind_eq_bind, Option.bind_some]
  by_cases hkk : kS.kind = .ordinary
  · simp [hs, hkk, ho hkk]
  · simp [hs, hkk]
theorem im_Of.eval {nm d : String} {v : Value} {ca : Cell} {V : State} {A : Array Value} {a : Nat} (h : im_Of nm d v ca V) (h0 : A[0]? = some (.ref a)) (hc : V.heap[a]? = some ca) (hs : ca.vm.isStatics = false) (hn : ca.vm ≠ .unknown) : (Term.field (.arg 0) "java/lang/String" nm d).eval A V none [] V = some v := by
  obtain ⟨cf, k, i, f, h1, h2, h3, h4⟩ := h
  exact Term.field_eval h1 (show (Term.arg 0).eval A V none [] V = some (.ref a) from h0) h2 hc hn hs h3 h4
theorem im_dcl {y : MethodName} {bytes : ByteArray} {ml : Nat} {rt : Option FieldType} {A : Array Value} {V : State} (h1 : (Cond.instanceMethod y).before A V = true) (h2 : (Cond.code y bytes ml rt).before A V = true) : (Cond.declares y).before A V = true := by
  obtain ⟨mk, meth, e1, e2, e3, -⟩ := Cond.instanceMethod_spec h1
  obtain ⟨meth', c, f1, -, -, -, -, -, -, f2⟩ := Cond.code_spec e1 h2
  cases e2.symm.trans f1
  simp [Cond.before, Cond.holds, Cond.value, e1, e2, e3, f2]
theorem im_Zst {V : State} {H0 : Heap} (h : va_Z "java/lang/String" "COMPACT_STRINGS" "Z" (.int 1) (fun q => H0.size ≤ q) V H0) (hh : ∀ q, q < H0.size → V.heap[q]? = H0[q]?) : Jvm.Lib.Cold.StaticIs V "java/lang/String" "COMPACT_STRINGS" "Z" (.int 1) := by
  obtain ⟨cf, kf, fi, f, a, cell, h1, h2, h3, h4, h5, h6, h7, h8⟩ := h
  exact ⟨cf, fi, kf, f, a, cell, h1, h2, h3, h4, by rw [hh a (Array.getElem?_eq_some_iff.mp h5).1]; exact h5, (fun e => by rw [e] at h6; cases h6), h7⟩
theorem it_wx {i : Nat} {w : Cond} {V : State} {A : Array Value} (h : it_wd i w = true) (hT : im_T V) : w.before A V = true := hT _ (it_wd_in h) _
end IXA
section IXB
theorem im_ixP {V : State} {H0 : Heap} {a d : Nat} {ca arr : Cell} {kS : Class} {ch : Int32} {f : List Int32} (hT : im_T V) (hh : ∀ q, q < H0.size → V.heap[q]? = H0[q]?) (h2 : H0[a]? = some ca) (h3 : ca.vm.isStatics = false) (h4 : V.vm.findClass "java/lang/String" = some ca.cls) (h5 : V.vm.classes[ca.cls]? = some kS) (h6 : kS.kind = .ordinary → ca.slots.size = kS.instanceTypes.size)
    (h7 : ca.vm ≠ .unknown) (h8 : im_Of "coder" "B" (.int 0) ca V) (h9 : im_Of "value" "[B" (.ref d) ca V) (h10 : H0[d]? = some arr) (h11 : V.isArrayOf arr .byte) (h12 : arr.vm ≠ .unknown) (h13 : arr.slots = (f.map Value.int).toArray) (hl : f.length < 2 ^ 31) (hz : va_Z "java/lang/String" "COMPACT_STRINGS" "Z" (.int 1) (fun q => H0.size ≤ q) V H0) :
    Jvm.Free.StrIndexOf.S1.spec.pre.before #[.ref a, .int ch] V = true ∧ Jvm.Free.StrIndexOf.S1.P a d ch 1 arr #[.ref a, .int ch] V := by
  have hc : V.heap[a]? = some ca := by rw [hh a (Array.getElem?_eq_some_iff.mp h2).1]; exact h2
  have hd : V.heap[d]? = some arr := by rw [hh d (Array.getElem?_eq_some_iff.mp h10).1]; exact h10
  have hst := im_Zst hz hh
  have ex : ∀ A : Array Value, A[0]? = some (.ref a) → (Cond.exactly (.arg 0) "java/lang/String").before A V = true := fun A h0 => im_exa h0 hc h3 h4 h5 h6
  have iI2 : ∀ A : Array Value, (Cond.instanceMethod Jvm.Free.StrIndexOf.indexOf2N).before A V = true := fun A => it_wx (i := 629) (by decide +kernel) hT
  have cI2 : ∀ A : Array Value, (Cond.code Jvm.Free.StrIndexOf.indexOf2N Jvm.Free.StrIndexOf.indexOf2B 3 (some .int)).before A V = true := fun A => it_wx (i := 631) (by decide +kernel) hT
  have iIL : ∀ A : Array Value, (Cond.instanceMethod Jvm.Lib.Str.isLatin1.name).before A V = true := fun A => it_wx (i := 633) (by decide +kernel) hT
  have cIL : ∀ A : Array Value, (Cond.code Jvm.Lib.Str.isLatin1.name Jvm.Lib.String.isLatin1.code 1 (some .boolean)).before A V = true := fun A => it_wx (i := 635) (by decide +kernel) hT
  have iLN : ∀ A : Array Value, (Cond.instanceMethod Jvm.Lib.Str.length.name).before A V = true := fun A => it_wx (i := 639) (by decide +kernel) hT
  have cLN : ∀ A : Array Value, (Cond.code Jvm.Lib.Str.length.name Jvm.Lib.String.length.code 1 (some .int)).before A V = true := fun A => it_wx (i := 641) (by decide +kernel) hT
  have iCO : ∀ A : Array Value, (Cond.instanceMethod Jvm.Lib.String.coder.name).before A V = true := fun A => it_wx (i := 643) (by decide +kernel) hT
  have cCO : ∀ A : Array Value, (Cond.code Jvm.Lib.String.coder.name Jvm.Lib.String.coder.code 1 (some .byte)).before A V = true := fun A => it_wx (i := 645) (by decide +kernel) hT
  have nS : ∀ A : Array Value, (Cond.initialized "java/lang/String").before A V = true := fun A => it_wx (i := 49) (by decide +kernel) hT
  have fV : ∀ A : Array Value, (Cond.fieldLink "java/lang/String" 9 "java/lang/String" "value" "[B").before A V = true := fun A => it_wx (i := 1167) (by decide +kernel) hT
  have fC : ∀ A : Array Value, (Cond.fieldLink "java/lang/String" 15 "java/lang/String" "coder" "B").before A V = true := fun A => it_wx (i := 1166) (by decide +kernel) hT
  have fZ : ∀ A : Array Value, (Cond.fieldLink "java/lang/String" 38 "java/lang/String" "COMPACT_STRINGS" "Z").before A V = true := fun A => it_wx (i := 636) (by decide +kernel) hT
  have eC : (Term.field (.arg 0) "java/lang/String" "coder" "B").eval #[.ref a] V none [] V = some (.int 0) := h8.eval rfl hc h3 h7
  have eV : (Term.field (.arg 0) "java/lang/String" "value" "[B").eval #[.ref a] V none [] V = some (.ref d) := h9.eval rfl hc h3 h7
  have eV3 : (Term.field (.arg 0) "java/lang/String" "value" "[B").eval #[.ref a, .int ch, .int 0] V none [] V = some (.ref d) := h9.eval rfl hc h3 h7
  have pIL : Jvm.Lib.Cold.isLatin1.spec.pre.before #[.ref a] V = true := by
    simp only [Jvm.Lib.Cold.isLatin1.spec, Cond.before_and, Bool.and_eq_true]
    exact ⟨cIL _, rfl, fZ _, fC _⟩
  have pCO : Jvm.Lib.Cold.coder.spec.pre.before #[.ref a] V = true := by
    simp only [Jvm.Lib.Cold.coder.spec, Cond.before_and, Bool.and_eq_true]
    exact ⟨cCO _, rfl, fZ _, fC _⟩
  have pLN : Jvm.Lib.Cold.length.spec.pre.before #[.ref a] V = true := by
    simp only [Jvm.Lib.Cold.length.spec, Cond.before_and, Bool.and_eq_true]
    exact ⟨cLN _, rfl, ex _ rfl, fV _, it_wx (i := 642) (by decide +kernel) hT, im_dcl (iCO _) (cCO _), it_wx (i := 644) (by decide +kernel) hT, iCO _, nS _⟩
  have pTB : Jvm.Free.SL1IndexOf.Idx.tab.before #[.ref a, .int ch, .int 0] V = true := by
    simp only [Jvm.Free.SL1IndexOf.Idx.tab, Jvm.Free.SL1IndexOf.Can.tab, Jvm.Free.SL1IndexOf.Chr.tab, Cond.before_and, Bool.and_eq_true]
    exact ⟨it_wx (i := 648) (by decide +kernel) hT, it_wx (i := 649) (by decide +kernel) hT, it_wx (i := 650) (by decide +kernel) hT, it_wx (i := 651) (by decide +kernel) hT, it_wx (i := 652) (by decide +kernel) hT, it_wx (i := 408) (by decide +kernel) hT, it_wx (i := 409) (by decide +kernel) hT, it_wx (i := 653) (by decide +kernel) hT, it_wx (i := 654) (by decide +kernel) hT, it_wx (i := 655) (by decide +kernel) hT, it_wx (i := 51) (by decide +kernel) hT, it_wx (i := 656) (by decide +kernel) hT, it_wx (i := 657) (by decide +kernel) hT, it_wx (i := 658) (by decide +kernel) hT⟩
  have p2 : Jvm.Free.StrIndexOf.S2.spec.pre.before #[.ref a, .int ch, .int 0] V = true := by
    simp only [Jvm.Free.StrIndexOf.S2.spec, Cond.before_and, Bool.and_eq_true]
    exact ⟨cI2 _, rfl, ex _ rfl, it_wx (i := 632) (by decide +kernel) hT, im_dcl (iIL _) (cIL _), it_wx (i := 634) (by decide +kernel) hT, iIL _, fV _, it_wx (i := 638) (by decide +kernel) hT, im_dcl (iLN _) (cLN _), it_wx (i := 640) (by decide +kernel) hT, iLN _, it_wx (i := 646) (by decide +kernel) hT, it_wx (i := 647) (by decide +kernel) hT, pTB, it_wx (i := 50) (by decide +kernel) hT, nS _⟩
  have hsz : arr.slots.size = f.length := by rw [h13]; simp
  refine ⟨?_, rfl, p2, rfl, eV3, pIL, ⟨rfl, hst, by decide, eC⟩, pLN, ⟨rfl, eV, hd, h11, pCO, rfl, hst, by decide, eC⟩, h12, by rw [hsz]; exact hl, fun i hi => ?_⟩
  · simp only [Jvm.Free.StrIndexOf.S1.spec, Cond.before_and, Bool.and_eq_true]
    exact ⟨it_wx (i := 627) (by decide +kernel) hT, rfl, ex _ rfl, it_wx (i := 628) (by decide +kernel) hT, im_dcl (iI2 _) (cI2 _), it_wx (i := 630) (by decide +kernel) hT, iI2 _, nS _⟩
  · rw [hsz] at hi
    have e : arr.slots[i]? = some (.int f[i]) := by rw [h13]; simp [hi]
    rw [e]
    unfold Jvm.Lib.StringLatin1.equals.intAt
    rw [e]
end IXB
section IXC
variable {p : Program} {l : Launch} {e : Env} {R : Room} {s : State} {m : MethodId} {args : Array Value} {below : List Frame} {meth : Method} {c : Code} {H : Heap} {locs : List Loc} {cells slots : Nat} {Q : State → Prop}
theorem im_fst {F : Nat → Int32} {t : Int32} : ∀ (g : List Int32) (k : Nat), (∀ j, j < g.length → F (k + j) = g.getD j 0) → Jvm.Free.SL1IndexOf.Chr.firstIdx F t k g.length = it_ixg t g k
  | [], k, _ => rfl
  | x :: g, k, h => by
    have h0 : F k = x := h 0 (by simp)
    have hr := im_fst (F := F) (t := t) g (k + 1) (fun j hj => by
      have := h (j + 1) (by simpa using hj)
      rw [show k + 1 + j = k + (j + 1) by omega, this]
      simp)
    show (if F k = t then Int32.ofNat k else Jvm.Free.SL1IndexOf.Chr.firstIdx F t (k + 1) g.length) = if x = t then Int32.ofNat k else it_ixg t g (k + 1)
    rw [h0, hr]
theorem im_i128 {t : Int32} (h0 : 0 ≤ t) (h1 : t < 128) : t ≤ 255 ∧ t.toInt8.toInt32 = t := by
  have e0 : (0 : Int) ≤ t.toInt := by simpa using Int32.le_iff_toInt_le.mp h0
  have e1 : t.toInt < 128 := by simpa using Int32.lt_iff_toInt_lt.mp h1
  have hn : t = Int32.ofNat t.toInt.toNat := by
    apply Int32.toInt_inj.mp
    rw [Int32.toInt_ofNat_of_lt (by omega)]
    omega
  have hall : ∀ n : Nat, n < 128 → Int32.ofNat n ≤ 255 ∧ (Int32.ofNat n).toInt8.toInt32 = Int32.ofNat n := by decide +kernel
  rw [hn]
  exact hall _ (by omega)
theorem im_ans {arr : Cell} {f : List Int32} {t : Int32} (hs : arr.slots = (f.map Value.int).toArray) (h0 : 0 ≤ t) (h1 : t < 128) (hl : 0 < f.length ∧ f.length < 2 ^ 31) : Jvm.Free.SL1IndexOf.Idx.answer arr t 0 arr.slots.size.toInt32 = it_ixg t f 0 := by
  obtain ⟨h2, h3⟩ := im_i128 h0 h1
  have hsz : arr.slots.size = f.length := by rw [hs]; simp
  have hcan : Jvm.Free.SL1IndexOf.Can.can t = 1 := by unfold Jvm.Free.SL1IndexOf.Can.can; rw [if_pos ⟨h0, h2⟩]
  have hlo : Jvm.Free.SL1IndexOf.Idx.lo 0 = 0 := rfl
  have hhi : Jvm.Free.SL1IndexOf.Idx.hi arr arr.slots.size.toInt32 = f.length.toInt32 := by unfold Jvm.Free.SL1IndexOf.Idx.hi; rw [hsz]; split <;> rfl
  have hpos : (0 : Int32) < f.length.toInt32 := by
    apply Int32.lt_iff_toInt_lt.mpr
    rw [show (f.length.toInt32).toInt = (f.length : Int) from Int32.toInt_ofNat_of_lt hl.2]
    show (0 : Int) < _
    omega
  have hcl : (f.length.toInt32).toNatClampNeg = f.length := Int32.toNatClampNeg_ofNat_of_lt hl.2
  unfold Jvm.Free.SL1IndexOf.Idx.answer
  rw [hcan, if_neg (by decide), hlo, hhi, if_pos hpos, hcl, h3]
  show Jvm.Free.SL1IndexOf.Chr.firstIdx _ t 0 f.length = _
  refine im_fst f 0 (fun j hj => ?_)
  unfold Jvm.Lib.StringLatin1.equals.intAt
  have e : arr.slots[0 + j]? = some (.int (f.getD j 0)) := by rw [hs]; simp [hj]
  rw [e]
theorem im_ixW {H0 : Heap} {own tx : String} {index ix b pc : Nat} {ch : Int32} {f : List Int32} {lr : Array Slot} {rest : List Value} (hx : p.tables.exec = Jvm.exec) (hsz : lr.size = c.maxLocals) (hown : s.vm.findClass own = some m.cls) (hT : im_T s) (hz : im_Sz ix f H0 s) (hZ : va_Z "java/lang/String" "COMPACT_STRINGS" "Z" (.int 1) (fun q => H0.size ≤ q) s H0) (hb : vk_R "IssueFold$Reader" ix tx b s) (hh : ∀ q, q < H0.size → H[q]? = H0[q]?)
    (hlink : (Cond.methodLink own index Jvm.Free.StrIndexOf.indexOf1N).before args s = true) (h0 : 0 ≤ ch) (h1 : ch < 128) (hl : 0 < f.length ∧ f.length < 2 ^ 31) (hfr : 40 ≤ R.frames) (hlc : 4000 ≤ R.locals) (hrc : cells ≤ R.cells) (hrs : slots ≤ R.slots) (hcs : (rest.map fun v => v.category).sum ≤ 8) (hdg : decode c.code pc = .ok (.invokevirtual index, 3))
    (kk : W p l e R s m args below meth c H locs cells slots Q (F0 m (pc + 3) lr (.int (it_ixg ch f 0) :: rest))) : W p l e R s m args below meth c H locs cells slots Q (F0 m pc lr (.int ch :: .ref b :: rest)) := by
  obtain ⟨a, d, ca, arr, kS, tx', g1, g2, g3, g4, g5, g6, g7, g8, g9, g10, g11, g12, g13⟩ := hz
  have hab : b = a := by
    have := hb.2.symm.trans g1.2
    cases this
    rfl
  subst hab
  have core : ∀ V : State, s.WarmedH V.vm → V.heap = H → Jvm.Free.StrIndexOf.S1.spec.pre.before #[.ref b, .int ch] V = true ∧ Jvm.Free.StrIndexOf.S1.P b d ch 1 arr #[.ref b, .int ch] V := by
    intro V hW hV
    obtain ⟨k', hk', he⟩ := hW.alike.2.2 _ _ g5
    exact im_ixP (H0 := H0) (f := f) (fun w hw A => it_tb_word hW hw (hT w hw A)) (by rw [hV]; exact hh) g2 g3 (by rw [hW.alike.findClass]; exact g4) hk' (by rw [he]; exact g6) g7 (g8.moved hW.alike) (g9.moved hW.alike) g10 (State.isArrayOf_alike hW.alike g11) g12 g13 hl.2 (hZ.moved hW.alike)
  have hB : Jvm.Free.Back l R p e below s args Jvm.Free.StrIndexOf.indexOf1N 3 8 (fun A a' => a' = #[.ref b, .int ch] ∧ A.U.heap = H ∧ A.cells ≤ R.cells ∧ A.slots ≤ R.slots) (fun A a' v B => Jvm.Free.pureAt A B ∧ v = some (.int (it_ixg ch f 0))) := by
    refine Jvm.Free.Back.of_free (S := Jvm.Free.StrIndexOf.S1.spec) (bytes := Jvm.Free.StrIndexOf.indexOf1B) (maxL := 2) (ret := some .int) (E := fun _ _ _ _ L k n => L = [] ∧ k = 0 ∧ n = 0) (Jvm.Free.StrIndexOf.S1.met l b d ch 1 arr) (by show 4 + 1 ≤ _; omega) (by show 8 + (2 + 11) + 160 ≤ _; omega) ?_ ?_ (fun _ _ _ _ _ _ _ _ _ => trivial) ?_ ?_
    · rintro m' meth' c' A a' X' ⟨rfl, hH, e1, e2⟩
      have hT' : im_T A.U := fun w hw A' => it_tb_word X'.warmed hw (hT w hw A')
      exact ⟨(core A.U X'.warmed hH).1, it_wx (i := 627) (by decide +kernel) hT', it_wx (i := 49) (by decide +kernel) hT', e1, e2⟩
    · rintro m' meth' c' A a' g mk X' ⟨rfl, hH, e1, e2⟩
      exact (core (A.U.calling g mk #[.ref b, .int ch]) X'.warmed hH).2
    · rintro a' first o t ⟨⟨hv, hw, hs⟩, -⟩
      exact ⟨[], 0, 0, ⟨hv, hw, hs.sameButNew 0 0⟩, rfl, rfl, rfl⟩
    · rintro m' meth' c' A a' g mk v t L k n X' ⟨rfl, hH, e1, e2⟩ ⟨hpe, ho⟩ hfe ⟨rfl, rfl, rfl⟩
      have hheap := Jvm.Free.SL1IndexOf.heapEq0 hfe.2.2
      refine ⟨⟨hheap, by simp [Jvm.Free.Pt.locs], rfl, rfl⟩, ?_⟩
      rw [im_ans g13 h0 h1 hl] at ho
      cases ho
      rfl
  have iI1 : (Cond.instanceMethod Jvm.Free.StrIndexOf.indexOf1N).before args s = true := it_wx (i := 625) (by decide +kernel) hT
  have hsel : (Cond.selects "java/lang/String" Jvm.Free.StrIndexOf.indexOf1N Jvm.Free.StrIndexOf.indexOf1N).before args s = true := it_wx (i := 626) (by decide +kernel) hT
  have cI1 : (Cond.code Jvm.Free.StrIndexOf.indexOf1N Jvm.Free.StrIndexOf.indexOf1B 2 (some .int)).before args s = true := it_wx (i := 627) (by decide +kernel) hT
  intro T hTH X
  obtain ⟨v, vm1, ⟨T4, L4, c4, s4⟩, hW4, X4, ⟨⟨q1, q2, q3, q4⟩, rel⟩, come⟩ := X.virtualBack hx (own := own) (C := "java/lang/String") (index := index) hown hlink (im_dcl iI1 cI1) (Jvm.Free.notFace_of_selects hsel) hsel iI1 (by decide) hB (b := b) (cB := ca.cls) g4 ⟨ca, by rw [hTH, hh b (Array.getElem?_eq_some_iff.mp g2).1]; exact g2, rfl, g3⟩
    (g := F0 m pc lr (.int ch :: .ref b :: rest)) rfl hsz (Steps.refl _) (argsL := [.int ch]) (rest := rest) (fun sig h => by
      have : parseMethodDescriptor Jvm.Free.StrIndexOf.indexOf1N.desc = some ⟨[.int], some .int⟩ := by decide +kernel
      rw [this] at h; rw [← Option.some.inj h]; rfl) rfl (by show 2 * 0 + _ ≤ 8; omega) hdg (fun vm₁ hW => ⟨rfl, hTH, hrc, hrs⟩)
  dsimp only [Jvm.Free.Pt.U, Jvm.Free.Pt.locs, Jvm.Free.Pt.cells, Jvm.Free.Pt.slots] at X4 q1 q2 q3 q4 rel come
  subst q2 q3 q4
  subst rel
  obtain ⟨t, a1, b1⟩ := kk T4 (q1.trans hTH) X4
  exact ⟨t, come.trans a1, b1⟩
end IXC
section IXD
theorem im_OfOf {A : Array Value} {s : State} {tm : Term} {a : Nat} {ca : Cell} {n d : String} {v : Value} (ht : tm.eval A s none [] s = some (.ref a)) (hc : s.heap[a]? = some ca) (hv : (Term.field tm "java/lang/String" n d).eval A s none [] s = some v) : im_Of n d v ca s ∧ ca.vm ≠ .unknown := by
  cases hfo : s.fieldFound? "java/lang/String" n d with
  | none =>
    rw [va_fe ht] at hv
    simp [State.fieldOf?, State.fieldNamed?, hfo] at hv
  | some x =>
    obtain ⟨cf, k, fi, f⟩ := x
    obtain ⟨g1, cell, g2, g3, -, g5, g6⟩ := Term.field_spec hfo ht hv
    cases hc.symm.trans g2
    exact ⟨⟨cf, k, fi, f, hfo, g1, g5, g6⟩, g3⟩
theorem im_Szof {A : Array Value} {s : State} {idx : Nat} {tx : String} {f : List Int32} (hn : f.length < 2 ^ 31) (hr : (Cond.stringRef "IssueFold$Reader" idx tx).before #[] s = true) (hex : (Cond.exactly (.string "IssueFold$Reader" idx) "java/lang/String").before A s = true) (hco : (Cond.eq (.field (.string "IssueFold$Reader" idx) "java/lang/String" "coder" "B") (.int 0)).before A s = true)
    (har : (Cond.arrayOf (.field (.string "IssueFold$Reader" idx) "java/lang/String" "value" "[B") .byte).before A s = true) (hle : (Cond.eq (.length (.field (.string "IssueFold$Reader" idx) "java/lang/String" "value" "[B")) (.int (Int32.ofNat f.length))).before A s = true)
    (hel : ∀ j, j < f.length → (Cond.eq (.elem (.field (.string "IssueFold$Reader" idx) "java/lang/String" "value" "[B") (.int (Int32.ofNat j))) (.int (f.getD j 0))).before A s = true) : im_Sz idx f s.heap s := by
  obtain ⟨a, cI, ca, kS, q1, q2, q3, q4, q5, q6, q7⟩ := Cond.exactly_spec hex
  subst q6
  obtain ⟨d, hd, hT⟩ := va_Tof (f := fun j => .int (f.getD j 0)) (A := fun q => s.heap.size ≤ q) hn har (va_eqt hle) (fun j hj => va_eqt (hel j hj)) (fun a ha => Nat.not_le.mpr ha)
  obtain ⟨arr, e1, e2, e3, e4, e5, e6, -⟩ := hT
  obtain ⟨b9, cell9, w1, w2, w3, w4⟩ := Jvm.Lib.length_spec (va_eqt hle)
  cases hd.symm.trans w1
  cases e1.symm.trans (State.arrayAt?_spec w2).1
  have hsz : arr.slots.size = f.length := by
    have h1 := congrArg Int32.toNatClampNeg e5
    rw [Int32.toNatClampNeg_ofNat_of_lt hn] at h1
    rw [← h1]
    exact (Int32.toNatClampNeg_ofNat_of_lt w3).symm
  obtain ⟨c1, c2⟩ := im_OfOf q1 q3 (va_eqt hco)
  obtain ⟨c3, -⟩ := im_OfOf q1 q3 hd
  refine ⟨a, d, ca, arr, kS, tx, ⟨hr, q1⟩, q3, q5, q2, q4, q7, c2, c1, c3, e1, e2, e3, ?_⟩
  apply Array.ext_getElem?
  intro j
  by_cases hj : j < f.length
  · rw [e6 j hj]; simp [hj]
  · rw [Array.getElem?_eq_none (by omega), Array.getElem?_eq_none (by simp; omega)]
def it_g19 (idx : Nat) (f : List Int32) : List Cond := [.exactly (.string "IssueFold$Reader" idx) "java/lang/String", .eq (.field (.string "IssueFold$Reader" idx) "java/lang/String" "coder" "B") (.int 0), .arrayOf (.field (.string "IssueFold$Reader" idx) "java/lang/String" "value" "[B") .byte,
  .eq (.length (.field (.string "IssueFold$Reader" idx) "java/lang/String" "value" "[B")) (.int (Int32.ofNat f.length))] ++ (List.range f.length).map (fun j => .eq (.elem (.field (.string "IssueFold$Reader" idx) "java/lang/String" "value" "[B") (.int (Int32.ofNat j))) (.int (f.getD j 0)))
theorem it_given2 : (it_g19 21 [112, 110, 117, 114, 111] ++ it_g19 19 [112, 110, 117, 115] ++ [Cond.eq (.static "java/lang/String" "COMPACT_STRINGS" "Z") (.int 1)]).all (fun w => decide (w ∈ flatC (Jvm.Cond.and given_1 narrow_1))) = true := by decide +kernel
theorem im_Szof2 {A : Array Value} {s : State} {idx : Nat} {tx : String} {f : List Int32} (hn : f.length < 2 ^ 31) (hr : (Cond.stringRef "IssueFold$Reader" idx tx).before #[] s = true) (h : ∀ w ∈ it_g19 idx f, w.before A s = true) : im_Sz idx f s.heap s := by
  unfold it_g19 at h
  exact im_Szof hn hr (h _ (by simp)) (h _ (by simp)) (h _ (by simp)) (h _ (by simp)) (fun j hj => h _ (List.mem_append_right _ (List.mem_map.mpr ⟨j, List.mem_range.mpr hj, rfl⟩)))
theorem im_Sxof {A : Array Value} {s : State} (hT : im_T s) (hts : ∀ w ∈ lw_tbl, w.before A s = true) (hgv : (Jvm.Cond.and given_1 narrow_1).before A s = true) : im_Sx s.heap s := by
  have hg : ∀ w ∈ (it_g19 21 [112, 110, 117, 114, 111] ++ it_g19 19 [112, 110, 117, 115] ++ [Cond.eq (.static "java/lang/String" "COMPACT_STRINGS" "Z") (.int 1)]), w.before A s = true := fun w hw => flat_of_before _ hgv w (of_decide_eq_true (List.all_eq_true.mp it_given2 w hw))
  have hl : (Cond.laysStatic "java/lang/String" "COMPACT_STRINGS" "Z") ∈ lw_tbl := List.mem_of_getElem? (i := 637) (by decide +kernel)
  refine ⟨im_Szof2 (A := A) (tx := "pnuro") (by decide) (it_wx (i := 72) (by decide +kernel) hT) (fun w hw => hg w (List.mem_append_left _ (List.mem_append_left _ hw))), im_Szof2 (A := A) (tx := "pnus") (by decide) (it_wx (i := 71) (by decide +kernel) hT) (fun w hw => hg w (List.mem_append_left _ (List.mem_append_right _ hw))), ?_⟩
  exact va_Zof (hts _ hl) (it_wx (i := 49) (by decide +kernel) hT) (va_eqi (hg _ (List.mem_append_right _ (by simp)))) (fun a ha => Nat.not_le.mpr ha)
theorem it_ixo_ok {y idx : Nat} {me : it_Me} (h : it_ixo y idx = true) (hme : it_met y = some me) : Cond.methodLink me.1.cls idx Jvm.Free.StrIndexOf.indexOf1N ∈ it_tb ∧ me.1.cls = "IssueFold$Reader" ∧ it_str y 21 = some 1 ∧ it_str y 19 = some 2 := by
  unfold it_ixo at h
  have h1 : (it_ow y, idx) = (2, 94) := by simpa [it_ixs] using List.contains_iff_mem.mp h
  have h2 : it_ow y = 2 := (Prod.mk.inj h1).1
  have h3 : idx = 94 := (Prod.mk.inj h1).2
  have hc : me.1.cls = "IssueFold$Reader" := by rw [← it_own_ok hme, h2]; decide
  subst h3
  rw [hc]
  unfold it_str
  rw [h2]
  exact ⟨it_wd_in (i := 624) (by decide +kernel), rfl, by decide +kernel, by decide +kernel⟩
end IXD
