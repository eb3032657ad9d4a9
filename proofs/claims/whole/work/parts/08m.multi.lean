/-! new int[3][3] -/
section MULTI
theorem im_wpn {E : CtlPost} {e : Env} {d : Bool} {acts : List Action} {S : State} {c comp : ClassId} {k : Class} {type : FieldType} {len : Nat} {init : Value} (hk : S.vm.classes[c]? = some k) (hkind : k.kind = .array comp type)
    (hlimit : ¬ len > e.platform.arrayLengthLimit) (hheap : ¬ len * componentBytes type > e.platform.maxHeapBytes) (hfit : fits type init = true) (hdef : init.isDefault = true) {Qa : Addr → Pre}
    (h1 : S.heap.size < e.platform.maxCells) (h2 : S.slotsUsed + len ≤ e.platform.maxSlots)
    (hq : Qa S.heap.size d acts (S.pushCell { cls := c, slots := Array.replicate len init, vm := .none })) :
    wp (Jvm.newArray c len init) Qa E e d acts S := by
  have hfits : ∀ (i : Nat) v, (Array.replicate len init)[i]? = some v → S.fitsSlot c .none i v = true := by
    intro i v hv
    rw [Array.getElem?_replicate] at hv
    split at hv
    · cases hv; simp [State.fitsSlot, State.slotType?, hk, hkind, hfit]
    · cases hv
  have hda : allocActs (Array.replicate len init) S.heap.size acts = acts := by
    have hall : ((Array.replicate len init).all (·.isDefault)) = true := by
      rw [Array.all_replicate]; split <;> simp [hdef]
    unfold allocActs; rw [if_pos hall]
  simp only [Jvm.newArray, Jvm.arrayFits, wp_bind', W.ask, W.ite, hlimit, if_false, wp_pure', W.theClass, hk, hkind, hheap, W.alloc, W.stop, Option.some.injEq, exists_eq_left', Array.size_replicate, hda]
  rw [if_neg (by omega)]
  exact ⟨h1, h2, hfits, hq⟩
def im_in (comp : ClassId) : Cell := { cls := comp, slots := Array.replicate 3 (.int 0), vm := .none }
def im_o0 (cA : ClassId) : Cell := { cls := cA, slots := Array.replicate 3 .null, vm := .none }
theorem im_mk1 {E : CtlPost} {e : Env} {d : Bool} {acts : List Action} {S : State} {comp cc : ClassId} {kc : Class} (hkc : S.vm.classes[comp]? = some kc) (hkind : kc.kind = .array cc .int) (hl : ¬ 3 > e.platform.arrayLengthLimit) (hh : ¬ 3 * 4 > e.platform.maxHeapBytes)
    (h1 : S.heap.size < e.platform.maxCells) (h2 : S.slotsUsed + 3 ≤ e.platform.maxSlots) {Qa : Addr → Pre} (hq : Qa S.heap.size d acts (S.pushCell (im_in comp))) : wp (Op.multianewarray.make comp [3]) Qa E e d acts S := by
  rw [Op.multianewarray.make]
  simp only [wp_bind', W.ite, show ¬ (3 : Int32) < 0 by decide, if_false, wp_pure', W.theClass, hkc, hkind, Option.some.injEq, exists_eq_left']
  exact im_wpn (len := 3) hkc hkind hl hh rfl rfl h1 h2 hq
/-- one row more -/
def im_nx (S : State) (h0 i : Nat) (cell : Cell) (comp : ClassId) : State := (S.pushCell (im_in comp)).setCell h0 (cell.setSlot i (.ref S.heap.size))
theorem im_mkw {E : CtlPost} {e : Env} {d : Bool} {acts : List Action} {S : State} {c comp cc : ClassId} {k kc : Class} {h0 i : Nat} {cell : Cell} (hk : S.vm.classes[c]? = some k) (hkind : k.kind = .array comp (.array .int)) (hkc : S.vm.classes[comp]? = some kc) (hkindc : kc.kind = .array cc .int) (hl : ¬ 3 > e.platform.arrayLengthLimit) (hh : ¬ 3 * 4 > e.platform.maxHeapBytes)
    (hcell : S.heap[h0]? = some cell) (hc1 : cell.cls = c) (hc2 : cell.vm = .none) (hc3 : cell.slots.size = 3) (hi : i < 3) (h1 : S.heap.size < e.platform.maxCells) (h2 : S.slotsUsed + 3 ≤ e.platform.maxSlots) {Qa : ForInStep PUnit → Pre} (hq : ∀ d' acts', Qa (.yield PUnit.unit) d' acts' (im_nx S h0 i cell comp)) :
    wp (do let a ← Op.multianewarray.make comp [3]; writeLoc h0 i (.ref a); Pure.pure (ForInStep.yield PUnit.unit)) Qa E e d acts S := by
  simp only [wp_bind']
  refine im_mk1 hkc hkindc hl hh h1 h2 ?_
  have hlt : h0 < S.heap.size := (Array.getElem?_eq_some_iff.mp hcell).1
  have hcell' : (S.pushCell (im_in comp)).heap[h0]? = some cell := by rw [State.heap_pushCell_of_lt (h := hlt)]; exact hcell
  simp only [wp_bind', W.writeLoc, wp_pure']
  refine ⟨cell, hcell', by rw [hc2]; simp, by rw [hc3]; exact hi, ?_, hq _ _⟩
  rw [hc1, hc2]
  have hvm : (S.pushCell (im_in comp)).vm = S.vm := rfl
  simp [State.fitsSlot, State.slotType?, hvm, hk, hkind, fits]
theorem im_nx_facts {S : State} {h0 i : Nat} {cell : Cell} {comp : ClassId} (hcell : S.heap[h0]? = some cell) : (im_nx S h0 i cell comp).heap[h0]? = some (cell.setSlot i (.ref S.heap.size)) ∧ (im_nx S h0 i cell comp).heap.size = S.heap.size + 1 ∧ (im_nx S h0 i cell comp).heap[S.heap.size]? = some (im_in comp) ∧ (∀ q, q < S.heap.size → q ≠ h0 → (im_nx S h0 i cell comp).heap[q]? = S.heap[q]?) ∧ (im_nx S h0 i cell comp).vm = S.vm ∧ (im_nx S h0 i cell comp).slotsUsed = S.slotsUsed + 3 := by
  have hlt : h0 < S.heap.size := (Array.getElem?_eq_some_iff.mp hcell).1
  have hcell' : (S.pushCell (im_in comp)).heap[h0]? = some cell := by rw [State.heap_pushCell_of_lt (h := hlt)]; exact hcell
  refine ⟨State.heap_setCell_self hcell', by simp [im_nx, State.setCell], ?_, fun q hq hne => ?_, rfl, by simp [im_nx, im_in]⟩
  · show ((S.pushCell (im_in comp)).setCell h0 _).heap[S.heap.size]? = _
    rw [State.heap_setCell_other (Nat.ne_of_lt hlt)]
    exact State.heap_pushCell_size _ _
  · show ((S.pushCell (im_in comp)).setCell h0 _).heap[q]? = _
    rw [State.heap_setCell_other (Ne.symm hne), State.heap_pushCell_of_lt (h := hq)]
def im_o1 (cA : ClassId) (h0 : Nat) : Cell := (im_o0 cA).setSlot 0 (.ref (h0 + 1))
def im_o2 (cA : ClassId) (h0 : Nat) : Cell := (im_o1 cA h0).setSlot 1 (.ref (h0 + 2))
def im_o3 (cA : ClassId) (h0 : Nat) : Cell := (im_o2 cA h0).setSlot 2 (.ref (h0 + 3))
def im_s1 (S : State) (cA comp : ClassId) : State := im_nx (S.pushCell (im_o0 cA)) S.heap.size 0 (im_o0 cA) comp
def im_s2 (S : State) (cA comp : ClassId) : State := im_nx (im_s1 S cA comp) S.heap.size 1 (im_o1 cA S.heap.size) comp
def im_s3 (S : State) (cA comp : ClassId) : State := im_nx (im_s2 S cA comp) S.heap.size 2 (im_o2 cA S.heap.size) comp
theorem im_s1_facts (S : State) (cA comp : ClassId) : (im_s1 S cA comp).heap[S.heap.size]? = some (im_o1 cA S.heap.size) ∧ (im_s1 S cA comp).heap.size = S.heap.size + 2 ∧ (im_s1 S cA comp).heap[S.heap.size + 1]? = some (im_in comp) ∧ (∀ q, q < S.heap.size → (im_s1 S cA comp).heap[q]? = S.heap[q]?) ∧ (im_s1 S cA comp).vm = S.vm ∧ (im_s1 S cA comp).slotsUsed = S.slotsUsed + 6 := by
  have hz : (S.pushCell (im_o0 cA)).heap.size = S.heap.size + 1 := by simp
  obtain ⟨a1, a2, a3, a4, a5, a6⟩ := im_nx_facts (S := S.pushCell (im_o0 cA)) (h0 := S.heap.size) (i := 0) (cell := im_o0 cA) (comp := comp) (State.heap_pushCell_size _ _)
  rw [hz] at a1 a2 a3 a4
  refine ⟨a1, a2, a3, fun q hq => ?_, a5, ?_⟩
  · rw [show (im_s1 S cA comp).heap[q]? = _ from a4 q (by omega) (by omega), State.heap_pushCell_of_lt (h := hq)]
  · show (im_nx _ _ _ _ _).slotsUsed = _
    rw [a6]; simp [im_o0]
theorem im_s2_facts (S : State) (cA comp : ClassId) : (im_s2 S cA comp).heap[S.heap.size]? = some (im_o2 cA S.heap.size) ∧ (im_s2 S cA comp).heap.size = S.heap.size + 3 ∧ (im_s2 S cA comp).heap[S.heap.size + 1]? = some (im_in comp) ∧ (im_s2 S cA comp).heap[S.heap.size + 2]? = some (im_in comp) ∧ (∀ q, q < S.heap.size → (im_s2 S cA comp).heap[q]? = S.heap[q]?) ∧ (im_s2 S cA comp).vm = S.vm ∧ (im_s2 S cA comp).slotsUsed = S.slotsUsed + 9 := by
  obtain ⟨b1, b2, b3, b4, b5, b6⟩ := im_s1_facts S cA comp
  obtain ⟨a1, a2, a3, a4, a5, a6⟩ := im_nx_facts (S := im_s1 S cA comp) (h0 := S.heap.size) (i := 1) (cell := im_o1 cA S.heap.size) (comp := comp) b1
  rw [b2] at a1 a2 a3 a4
  refine ⟨a1, a2, ?_, a3, fun q hq => ?_, a5.trans b5, a6.trans (by rw [b6])⟩
  · rw [show (im_s2 S cA comp).heap[S.heap.size + 1]? = _ from a4 _ (by omega) (by omega)]; exact b3
  · rw [show (im_s2 S cA comp).heap[q]? = _ from a4 q (by omega) (by omega)]; exact b4 q hq
theorem im_s3_facts (S : State) (cA comp : ClassId) : (im_s3 S cA comp).heap[S.heap.size]? = some (im_o3 cA S.heap.size) ∧ (im_s3 S cA comp).heap.size = S.heap.size + 4 ∧ (im_s3 S cA comp).heap[S.heap.size + 1]? = some (im_in comp) ∧ (im_s3 S cA comp).heap[S.heap.size + 2]? = some (im_in comp) ∧ (im_s3 S cA comp).heap[S.heap.size + 3]? = some (im_in comp) ∧ (∀ q, q < S.heap.size → (im_s3 S cA comp).heap[q]? = S.heap[q]?) ∧ (im_s3 S cA comp).vm = S.vm ∧ (im_s3 S cA comp).slotsUsed = S.slotsUsed + 12 := by
  obtain ⟨b1, b2, b3, b3', b4, b5, b6⟩ := im_s2_facts S cA comp
  obtain ⟨a1, a2, a3, a4, a5, a6⟩ := im_nx_facts (S := im_s2 S cA comp) (h0 := S.heap.size) (i := 2) (cell := im_o2 cA S.heap.size) (comp := comp) b1
  rw [b2] at a1 a2 a3 a4
  refine ⟨a1, a2, ?_, ?_, a3, fun q hq => ?_, a5.trans b5, a6.trans (by rw [b6])⟩
  · rw [show (im_s3 S cA comp).heap[S.heap.size + 1]? = _ from a4 _ (by omega) (by omega)]; exact b3
  · rw [show (im_s3 S cA comp).heap[S.heap.size + 2]? = _ from a4 _ (by omega) (by omega)]; exact b3'
  · rw [show (im_s3 S cA comp).heap[q]? = _ from a4 q (by omega) (by omega)]; exact b4 q hq
theorem im_mk2 {E : CtlPost} {e : Env} {d : Bool} {acts : List Action} {S : State} {c comp cc : ClassId} {k kc : Class} (hk : S.vm.classes[c]? = some k) (hkind : k.kind = .array comp (.array .int)) (hkc : S.vm.classes[comp]? = some kc) (hkindc : kc.kind = .array cc .int) (hl : ¬ 3 > e.platform.arrayLengthLimit) (hh : ¬ 3 * 4 > e.platform.maxHeapBytes)
    (h1 : S.heap.size + 4 ≤ e.platform.maxCells) (h2 : S.slotsUsed + 12 ≤ e.platform.maxSlots) {Qa : Addr → Pre} (hq : ∀ d' acts', Qa S.heap.size d' acts' (im_s3 S c comp)) : wp (Op.multianewarray.make c [3, 3]) Qa E e d acts S := by
  have hz : (S.pushCell (im_o0 c)).heap.size = S.heap.size + 1 := by simp
  have hu : (S.pushCell (im_o0 c)).slotsUsed = S.slotsUsed + 3 := by simp [im_o0]
  obtain ⟨a1, a2, a3, a4, a5, a6⟩ := im_s1_facts S c comp
  obtain ⟨b1, b2, b3, b3', b4, b5, b6⟩ := im_s2_facts S c comp
  rw [Op.multianewarray.make]
  simp only [wp_bind', W.ite, show ¬ (3 : Int32) < 0 by decide, if_false, wp_pure', W.theClass, hk, hkind, Option.some.injEq, exists_eq_left']
  refine im_wpn (len := 3) hk hkind hl hh rfl rfl (by omega) (by omega) ?_
  simp only [show ((3 : Int32) == 0) = false by decide, if_false, Bool.false_eq_true]
  rw [wp_bind', Std.Legacy.Range.forIn_eq_forIn_range']
  show wp (forIn (List.range' 0 3 1) PUnit.unit _) _ E e d acts _
  simp only [List.range'_succ, List.range'_zero, List.forIn_cons, List.forIn_nil]
  rw [wp_bind']
  refine im_mkw (S := S.pushCell (im_o0 c)) (h0 := S.heap.size) (i := 0) (c := c) (k := k) (cell := im_o0 c) hk hkind hkc hkindc hl hh (State.heap_pushCell_size _ _) rfl rfl rfl (by omega) (by rw [hz]; omega) (by rw [hu]; omega) fun d1 ac1 => ?_
  simp only
  rw [wp_bind']
  refine im_mkw (S := im_s1 S c comp) (h0 := S.heap.size) (i := 0 + 1) (c := c) (k := k) (cell := im_o1 c S.heap.size) (by rw [a5]; exact hk) hkind (by rw [a5]; exact hkc) hkindc hl hh a1 rfl rfl (by simp [im_o1, im_o0, Cell.setSlot]) (by omega) (by rw [a2]; omega) (by rw [a6]; omega) fun d2 ac2 => ?_
  simp only
  rw [wp_bind']
  refine im_mkw (S := im_s2 S c comp) (h0 := S.heap.size) (i := 0 + 1 + 1) (c := c) (k := k) (cell := im_o2 c S.heap.size) (by rw [b5]; exact hk) hkind (by rw [b5]; exact hkc) hkindc hl hh b1 rfl rfl (by simp [im_o2, im_o1, im_o0, Cell.setSlot]) (by omega) (by rw [b2]; omega) (by rw [b6]; omega) fun d3 ac3 => ?_
  simp only [wp_pure']
  exact hq _ _
theorem im_nx_top (S : State) (f : JFrame) (h0 i : Nat) (cell : Cell) (comp : ClassId) : im_nx (S.setTop f) h0 i cell comp = (im_nx S h0 i cell comp).setTop f := by
  simp only [im_nx, State.heap_setTop, State.pushCell_setTop, State.setCell_setTop]
theorem im_s3_top (S : State) (f : JFrame) (cA comp : ClassId) : im_s3 (S.setTop f) cA comp = (im_s3 S cA comp).setTop f := by
  simp only [im_s3, im_s2, im_s1, State.heap_setTop, State.pushCell_setTop, im_nx_top]
variable {p : Program} {l : Launch} {e : Env} {R : Room} {s : State} {m : MethodId} {args : Array Value} {below : List Frame} {meth : Method} {c : Code} {T : State} {locs : List Loc} {cells slots : Nat}
theorem im_nx_stand (X : Stand p l e R s m args below meth c T locs cells slots) {h0 i : Nat} {cell : Cell} {comp : ClassId} (hcell : T.heap[h0]? = some cell) : Stand p l e R s m args below meth c (im_nx T h0 i cell comp) (locs ++ [⟨h0, i⟩]) (cells + 1) (slots + 3) := by
  have hlt : h0 < T.heap.size := (Array.getElem?_eq_some_iff.mp hcell).1
  have hcell' : (T.pushCell (im_in comp)).heap[h0]? = some cell := by rw [State.heap_pushCell_of_lt (h := hlt)]; exact hcell
  have h := (X.pushed (im_in comp)).stored hcell' i (.ref T.heap.size)
  exact h
theorem im_multi (X : Stand p l e R s m args below meth c T locs cells slots) (hexec : p.tables.exec = Jvm.exec) {own : String} {index : Nat} (hown : s.vm.findClass own = some m.cls) (hclink : (Cond.classLink own index "[[I").before args s = true) (hover : (Cond.arrayOver (.array .int)).before args s = true) (harr : (Cond.arrayClass .int).before args s = true)
    {g : JFrame} (hg : g.method = m) (hdg : decode c.code g.pc = .ok (.multianewarray index 2, 4)) {rest : List Value} (hstack : g.stack = .int 3 :: .int 3 :: rest) (hcells : cells + 4 ≤ R.cells) (hslots : slots + 12 ≤ R.slots) :
    ∃ (vm₁ : Vm) (cA comp : ClassId), s.vm.findClass ("[" ++ (FieldType.array .int).toString) = some cA ∧ s.vm.findClass (FieldType.array .int).toString = some comp ∧
      Stand p l e R s m args below meth c (im_s3 (T.setVm vm₁) cA comp) (locs ++ [⟨T.heap.size, 0⟩] ++ [⟨T.heap.size, 1⟩] ++ [⟨T.heap.size, 2⟩]) (cells + 4) (slots + 12) ∧
      ∀ target, Steps p.tables e below ((im_s3 (T.setVm vm₁) cA comp).setTop { g with pc := g.pc + 4, stack := .ref T.heap.size :: rest }) target → Steps p.tables e below (T.setTop g) target := by
  subst hg
  have hpl : e.platform.magicAccessors = ({} : Platform).magicAccessors := by rw [X.admits.platform]
  obtain ⟨comp, cA, kA, hcomp, -, hkA, hkindA, hnameA⟩ := arrayOverA_spec hover
  obtain ⟨comp', kC, cc, hcomp', hkC, hkindC⟩ := Cond.arrayClass_spec harr
  have ecomp : comp' = comp := Option.some.inj (hcomp'.symm.trans hcomp)
  subst ecomp
  obtain ⟨c0, hfc0, hcl⟩ := Cond.classLink_spec hown hclink e.platform hpl
  cases hnameA.symm.trans hfc0
  obtain ⟨hg₁, hwarm₁, hready₁⟩ := State.classEntry (e := e) X.warmed hcl
  generalize T.vm.noted g.method.cls index (.cls cA) = vm₁ at hg₁ hwarm₁ hready₁
  have hal : s.vm.Alike vm₁ := hwarm₁.alike
  obtain ⟨kA₁, hkA₁, heA⟩ := hal.2.2 _ _ hkA
  obtain ⟨kC₁, hkC₁, heC⟩ := hal.2.2 _ _ hkC
  have hkindA₁ : kA₁.kind = .array comp' (.array .int) := by rw [heA]; exact hkindA
  have hkindC₁ : kC₁.kind = .array cc .int := by rw [heC]; exact hkindC
  have X₁ := X.noted hwarm₁
  obtain ⟨hr1, hr2⟩ := X.roomAbove hcells hslots
  have Y0 := X₁.pushed (im_o0 cA)
  have Y1 := im_nx_stand Y0 (h0 := T.heap.size) (i := 0) (cell := im_o0 cA) (comp := comp') (State.heap_pushCell_size _ _)
  have Y2 := im_nx_stand Y1 (h0 := T.heap.size) (i := 1) (cell := im_o1 cA T.heap.size) (comp := comp') (im_s1_facts (T.setVm vm₁) cA comp').1
  have Y3 := im_nx_stand Y2 (h0 := T.heap.size) (i := 2) (cell := im_o2 cA T.heap.size) (comp := comp') (im_s2_facts (T.setVm vm₁) cA comp').1
  have XF : Stand p l e R s g.method args below meth c (im_s3 (T.setVm vm₁) cA comp') (locs ++ [⟨T.heap.size, 0⟩] ++ [⟨T.heap.size, 1⟩] ++ [⟨T.heap.size, 2⟩]) (cells + 4) (slots + 12) := by
    have e1 : (im_o0 cA).slots.size = 3 := by simp [im_o0]
    rw [e1] at Y3
    exact Y3
  refine ⟨vm₁, cA, comp', hnameA, hcomp, XF, fun target hrest => ?_⟩
  have hl1 : ¬ 3 > e.platform.arrayLengthLimit := by rw [Launch.admits_arrayLengthLimit X.admits]; decide
  have hh1 : ¬ 3 * 4 > e.platform.maxHeapBytes := by rw [Launch.admits_maxHeapBytes X.admits]; decide
  jvm_step X.here [hexec, hdg]
  simp only [Op.multianewarray.sem, wp_bind', W.resolveClassAt_links (State.method?_setTop g X.here.top) hg₁]
  rw [W.popN, if_neg (by decide)]
  refine ⟨g, State.topJava?_setTop' (s := T.setVm vm₁) g X.here.top, [.int 3, .int 3], rest, rfl, hstack, ?_⟩
  simp only [List.mapM_cons, List.mapM_nil, wp_bind', wp_pure']
  refine im_mk2 (k := kA₁) (kc := kC₁) (comp := comp') (cc := cc) hkA₁ hkindA₁ hkC₁ hkindC₁ hl1 hh1 (by show T.heap.size + 4 ≤ _; omega) (by show T.slotsUsed + 12 ≤ _; omega) (fun d' acts' => ?_)
  have eS : ((T.setTop g).setVm vm₁).setTop { g with stack := rest } = (T.setVm vm₁).setTop { g with stack := rest } := by
    show ((T.setVm vm₁).setTop g).setTop _ = _
    rw [State.setTop_setTop]
  rw [eS, im_s3_top]
  simp only [wp_bind', W.mark, W.pushRef, State.topJava?_setTop' _ XF.here.top, Option.some.injEq, exists_eq_left', State.setTop_setTop, State.heap_setTop]
  intro acts
  simp [jvm, XF.here.top]
  exact hrest
theorem im_o3_slots (cA : ClassId) (h0 : Nat) : (im_o3 cA h0).slots[0]? = some (.ref (h0 + 1)) ∧ (im_o3 cA h0).slots[1]? = some (.ref (h0 + 2)) ∧ (im_o3 cA h0).slots[2]? = some (.ref (h0 + 3)) ∧ (im_o3 cA h0).slots.size = 3 ∧ (im_o3 cA h0).cls = cA ∧ (im_o3 cA h0).vm = .none := by
  refine ⟨?_, ?_, ?_, ?_, rfl, rfl⟩ <;> simp [im_o3, im_o2, im_o1, im_o0, Cell.setSlot]
end MULTI
