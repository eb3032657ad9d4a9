/-! Throws: 'throw new E("text")' out of a method, and a throw of a callee that is caught by the caller's own table. -/
/-- the words of 'throw new E(text)' -/
def it_nms : List String := ["java/lang/RuntimeException", "java/lang/Exception"]
def it_hw (w : Cond) : Bool := decide (w = .isRef (.static Jvm.Bundle.tN "UNASSIGNED_STACK" Jvm.Bundle.steD)) || decide (w = .isRef (.static Jvm.Bundle.tN "SUPPRESSED_SENTINEL" Jvm.Bundle.listD)) || decide (w = .laysStatic Jvm.Bundle.tN "UNASSIGNED_STACK" Jvm.Bundle.steD) || decide (w = .laysStatic Jvm.Bundle.tN "SUPPRESSED_SENTINEL" Jvm.Bundle.listD)
theorem it_own3 : ([(90, 0), (101, 1), (158, 2)] : List (Nat × Nat)).all (fun q => (Jvm.Bundle.ownAtoms "IssueFold" q.1 (it_ecn q.2) it_nms).all (fun w => (decide (w ∈ lw_tbl) && it_mv w) || it_hw w)) = true := by decide +kernel
def it_thc (r : ((Nat × Nat) × (Nat × Nat × Nat × Nat × String)) × Nat × Nat × Nat) : Bool := match it_met r.1.1.1 with
  | some me => decide (decode me.2.1 r.1.1.2 = .ok (.new r.1.2.2.1, 3)) && decide (decode me.2.1 (r.1.1.2 + 3) = .ok (.dup, 1)) && decide (decode me.2.1 (r.1.1.2 + 4) = .ok (.ldc r.1.2.2.2.1, 2)) && decide (decode me.2.1 (r.1.1.2 + 6) = .ok (.invokespecial r.1.2.2.2.2.1, 3)) && decide (decode me.2.1 (r.1.1.2 + 9) = .ok (.athrow, 1)) &&
    Jvm.Bundle.fit (it_ecn r.1.2.1) && it_wd r.2.1 (.classLink me.1.cls r.1.2.2.1 (it_ecn r.1.2.1)) && it_wd r.2.2.1 (.initialized (it_ecn r.1.2.1)) && it_wd r.2.2.2 (.stringRef me.1.cls r.1.2.2.2.1 r.1.2.2.2.2.2) && decide (me.1.cls = "IssueFold") && decide (me.2.2.2.2 = []) && decide ((r.1.2.2.2.2.1, r.1.2.1) ∈ ([(90, 0), (101, 1), (158, 2)] : List (Nat × Nat)))
  | none => false
theorem it_th_all : it_ths.all it_thc = true := by decide +kernel
theorem it_nms_fit : ∀ n ∈ it_nms, Jvm.Bundle.fit n = true := by decide +kernel
theorem it_thr_ok {y pc ec : Nat} {me : it_Me} (h : it_thr y pc = some ec) (hme : it_met y = some me) : ∃ (ik is ic : Nat) (tx : String) (names : List String), decode me.2.1 pc = .ok (.new ik, 3) ∧ decode me.2.1 (pc + 3) = .ok (.dup, 1) ∧ decode me.2.1 (pc + 4) = .ok (.ldc is, 2) ∧ decode me.2.1 (pc + 6) = .ok (.invokespecial ic, 3) ∧ decode me.2.1 (pc + 9) = .ok (.athrow, 1) ∧
    Jvm.Bundle.fit (it_ecn ec) = true ∧ (∀ n ∈ names, Jvm.Bundle.fit n = true) ∧ (names.length ≤ 5 ∧ ec < 3) ∧ Cond.classLink me.1.cls ik (it_ecn ec) ∈ it_tb ∧ Cond.initialized (it_ecn ec) ∈ it_tb ∧ Cond.stringRef me.1.cls is tx ∈ it_tb ∧
    (∀ w ∈ Jvm.Bundle.ownAtoms me.1.cls ic (it_ecn ec) names, w ∈ it_tb ∨ w = .isRef (.static Jvm.Bundle.tN "UNASSIGNED_STACK" Jvm.Bundle.steD) ∨ w = .isRef (.static Jvm.Bundle.tN "SUPPRESSED_SENTINEL" Jvm.Bundle.listD) ∨ w = .laysStatic Jvm.Bundle.tN "UNASSIGNED_STACK" Jvm.Bundle.steD ∨ w = .laysStatic Jvm.Bundle.tN "SUPPRESSED_SENTINEL" Jvm.Bundle.listD) ∧ me.2.2.2.2 = [] := by
  unfold it_thr at h
  rw [Option.map_eq_some_iff] at h
  obtain ⟨q, hq, rfl⟩ := h
  obtain ⟨r, hr, he⟩ := List.mem_map.mp (it_lk hq)
  have h1 := List.all_eq_true.mp it_th_all r hr
  unfold it_thc at h1
  rw [he] at h1
  simp only [hme, Bool.and_eq_true, decide_eq_true_eq] at h1
  obtain ⟨⟨⟨⟨⟨⟨⟨⟨⟨⟨⟨d0, d3⟩, d4⟩, d6⟩, d9⟩, hf⟩, w1⟩, w2⟩, w3⟩, hc⟩, hn⟩, hm⟩ := h1
  have hlt : q.1 < 3 := by
    simp only [List.mem_cons, Prod.mk.injEq, List.not_mem_nil, or_false] at hm
    omega
  refine ⟨_, _, _, _, it_nms, d0, d3, d4, d6, d9, hf, it_nms_fit, ⟨by decide, hlt⟩, it_wd_in w1, it_wd_in w2, it_wd_in w3, fun w hw => ?_, hn⟩
  have h2 := List.all_eq_true.mp it_own3 _ hm
  rw [hc] at hw
  have h3 := List.all_eq_true.mp h2 w hw
  simp only [Bool.or_eq_true, Bool.and_eq_true, decide_eq_true_eq, it_hw] at h3
  rcases h3 with h3 | ((h3 | h3) | h3) | h3
  · exact Or.inl (List.mem_filter.mpr ⟨List.mem_cons_of_mem _ h3.1, h3.2⟩)
  · exact Or.inr (Or.inl h3)
  · exact Or.inr (Or.inr (Or.inl h3))
  · exact Or.inr (Or.inr (Or.inr (Or.inl h3)))
  · exact Or.inr (Or.inr (Or.inr (Or.inr h3)))
theorem it_ct_all : (List.range 125).all (fun y => match it_met y with | some me => me.2.2.2.2.all (fun h => decide (h.2.2.2 ≠ 0) && (match it_cts.lookup h.2.2.2 with | some q => decide (q.1 < 3) && it_wd q.2 (.classLink me.1.cls h.2.2.2 (it_ecn q.1)) | none => false)) | none => false) = true := by decide +kernel
theorem it_cs_all : it_cas2.all (fun q => it_wd q.2 (.castable (it_ecn q.1) (it_ecn q.1))) && decide (it_cas2.map (·.1) = [0, 1, 2]) = true := by decide +kernel
theorem it_castable {e : Nat} (h : e < 3) : Cond.castable (it_ecn e) (it_ecn e) ∈ it_tb := by
  have hw := it_cs_all
  simp only [Bool.and_eq_true, decide_eq_true_eq] at hw
  have h1 : e ∈ it_cas2.map (·.1) := by
    rw [hw.2]
    simp only [List.mem_cons, List.not_mem_nil, or_false]
    omega
  obtain ⟨q, hq, rfl⟩ := List.mem_map.mp h1
  exact it_wd_in (List.all_eq_true.mp hw.1 q hq)
theorem it_cat_ok {y ec : Nat} {h : Nat × Nat × Nat × Nat} {me : it_Me} (hme : it_met y = some me) (hh : h ∈ me.2.2.2.2) (hec : ec < 3) : h.2.2.2 ≠ 0 ∧ ∃ nm, Cond.classLink me.1.cls h.2.2.2 nm ∈ it_tb ∧ (it_cat y h.2.2.2 ec = true → Cond.castable (it_ecn ec) nm ∈ it_tb) ∧ (it_cat y h.2.2.2 ec = false → ∀ s, im_N s → va_Nc (it_ecn ec) nm s) := by
  have h1 := List.all_eq_true.mp it_ct_all y (List.mem_range.mpr (it_met_lt hme))
  rw [hme] at h1
  have h2 := List.all_eq_true.mp h1 h hh
  simp only [Bool.and_eq_true, decide_eq_true_eq] at h2
  obtain ⟨h3, h4⟩ := h2
  refine ⟨h3, ?_⟩
  split at h4
  · rename_i q hq
    simp only [Bool.and_eq_true, decide_eq_true_eq] at h4
    refine ⟨it_ecn q.1, it_wd_in h4.2, fun hc => ?_, fun hc s hN => ?_⟩
    · unfold it_cat at hc
      simp only [hq, beq_iff_eq] at hc
      rw [hc]
      exact it_castable hec
    · unfold it_cat at hc
      simp only [hq, beq_eq_false_iff_ne, ne_eq] at hc
      exact hN ec q.1 hec h4.1 (fun e => hc e.symm)
  · cases h4
theorem im_Sl.moved {C n d : String} {H0 : Heap} {u U : State} (hvm : u.vm.Alike U.vm) (h : im_Sl C n d H0 u) : im_Sl C n d H0 U := by
  obtain ⟨h0, c, k, i, f, a, cell, h1, h2, h3, h4, h5, h6, h7, h8, h9⟩ := h
  obtain ⟨k', hi', he⟩ := State.fieldFound?_setVm hvm h2
  exact ⟨va_Zq.moved hvm h0, c, k', i, f, a, cell, by rw [hvm.findClass]; exact h1, hi', h3, by rw [he]; exact h4, h5, h6, h7, h8, by rw [he]; exact h9⟩
theorem im_Sf.moved {H0 : Heap} {u U : State} (hW : u.WarmedH U.vm) (h : im_Sf H0 u) : im_Sf H0 U := ⟨h.1.moved hW.alike, h.2.1.moved hW.alike, h.2.2.moved hW⟩
theorem im_Sl.words {C n d : String} {H0 : Heap} {base : Nat} {s : State} {args : Array Value} (h : im_Sl C n d H0 s) (hA : im_A base H0 s.heap) : (Cond.laysStatic C n d).before args s = true ∧ (Cond.isRef (.static C n d)).before args s = true := by
  obtain ⟨h0, c, k, i, f, a, cell, h1, h2, h3, h4, h5, h6, h7, h8, h9⟩ := h
  obtain ⟨e1, e2, e3⟩ := hA
  have hin : s.heap[a]? = some cell := by rw [e2 a (by rw [← e1]; exact (Array.getElem?_eq_some_iff.mp h5).1)]; exact h5
  refine ⟨Cond.laysStatic_of h1 h2 h3 h4 hin h6 h7 h8 h9, ?_⟩
  have key : ∀ v : Value, va_Z C n d v (fun q => H0.size ≤ q) s H0 → v.isRef = true → (Cond.isRef (.static C n d)).before args s = true := by
    intro v hz hv
    obtain ⟨cf, kf, fi, fd, b, cb, g1, g2, g3, g4, g5, g6, g7, -⟩ := hz
    have hin2 : s.heap[b]? = some cb := by rw [e2 b (by rw [← e1]; exact (Array.getElem?_eq_some_iff.mp g5).1)]; exact g5
    have he : (Term.static C n d).eval args s none [] s = some v := by
      simp [Term.eval, State.fieldNamed?, g1, g2, g4, hin2, g6, g7]
    simp only [Cond.before, Cond.holds, Cond.value, he]
    cases v <;> simp_all [Value.isRef]
  rcases h0 with h0 | ⟨t, h0⟩
  · exact key _ h0 rfl
  · exact key _ h0 rfl
section THROWS
variable {p : Program} {l : Launch} {e : Env} {R : Room} {s : State} {m : MethodId} {args : Array Value} {below : List Frame} {meth : Method} {c : Code} {H : Heap} {locs : List Loc} {cells slots : Nat} {Q : State → Prop}
variable {D : va_G} {E : Nat → ClassId} {base : Nat} {sp : Nat → Nat} {H0 : Heap} {M : im_M}
/-- a frame as if its method had been called in the heap as it is now -/
theorem im_rebase {T : State} (X : Stand p l e R s m args below meth c T locs cells slots) {k n : Nat} (hc : cells + k ≤ R.cells) (hs : slots + n ≤ R.slots) :
    Stand p l e { frames := R.frames, cells := k, slots := n, locals := R.locals } ((T.setVm s.vm).setFrames (.invoking m args :: below)) m args below meth c T [] 0 0 := by
  have htop : (T.setVm s.vm).topJava?.isSome := X.here.top
  have hF : ((T.setVm s.vm).setFrames (.invoking m args :: below)).frames = .invoking m args :: below := State.frames_setFrames _ (State.cur_lt_of_top htop)
  obtain ⟨g₀, hg0⟩ := Option.isSome_iff_exists.mp htop
  obtain ⟨r, hr⟩ := State.topJava?_eq_some.mp hg0
  have q1 := X.heapSize
  have q2 := X.used
  have hl9 : e.platform.stackLimits (T.setVm s.vm).me = e.platform.stackLimits s.me := X.limits
  have hb9 : (T.setVm s.vm).me.stackBytes = s.me.stackBytes := X.bytes
  have hdrop : ((T.heap.toList.drop T.heap.size).map (·.slots.size)).sum = 0 := by
    rw [List.drop_eq_nil_of_le (Nat.le_of_eq Array.length_toList)]; rfl
  have hroom : ((T.setVm s.vm).setFrames (.invoking m args :: below)).hasRoom e.platform { frames := R.frames, cells := k, slots := n, locals := R.locals } = true := by
    have h := X.room
    have hU : ((T.setVm s.vm).setFrames (.invoking m args :: below)).localsInUse = s.localsInUse := by
      rw [State.localsInUse_invoking hF (meth := meth) (c := c) X.method X.code, State.localsInUse_invoking X.frames X.method X.code]
    simp only [State.hasRoom, Bool.and_eq_true, decide_eq_true_eq] at h ⊢
    obtain ⟨⟨⟨⟨h1, h2, h3, h4, h5, h6⟩, h7⟩, h8⟩, h9⟩ := h
    rw [X.frames, List.length_cons] at h2 h3
    simp only [hF, hU, List.length_cons, State.stackLimits_setFrames, State.stackBytes_setFrames, hl9, hb9]
    refine ⟨⟨⟨⟨h1, h2, h3, h4, h5, h6⟩, ?_⟩, ?_⟩, X.book⟩
    · show T.heap.size + k ≤ e.platform.maxCells
      omega
    · show T.slotsUsed + n ≤ e.platform.maxSlots
      omega
  refine ⟨X.admits, X.cas, X.clock, hF, hroom, X.hears, X.method, X.code, X.here, X.tail, X.warmed, ?_, ?_, ?_⟩
  · rw [State.stackLimits_setFrames]; rfl
  · rw [State.stackBytes_setFrames]; rfl
  · obtain ⟨t, ht, -⟩ := State.frames_cons hr
    refine ⟨?_, Nat.le_refl _, Nat.le_refl _, ?_, Nat.le_of_eq hdrop, fun a c9 h9 => ⟨c9, h9, rfl, rfl, fun _ _ => rfl⟩⟩
    · show T.setVm s.vm = { ((T.setVm s.vm).setFrames (.invoking m args :: below)).setFrames (T.setVm s.vm).frames with heap := T.heap, slotsUsed := T.slotsUsed }
      rw [State.setFrames_setFrames, State.setFrames_self ht]
      rfl
    · show T.slotsUsed = T.slotsUsed + ((T.heap.toList.drop T.heap.size).map (·.slots.size)).sum
      rw [hdrop]; rfl
/-- nothing written: the old cells are as they were -/
theorem im_sameold {A B : State} {k n : Nat} (h : A.sameButNew B [] k n) {q : Nat} (hq : q < A.heap.size) : B.heap[q]? = A.heap[q]? := by
  obtain ⟨-, -, -, -, -, h6⟩ := h
  obtain ⟨c9, e1, e2, e3, e4⟩ := h6 q _ (Array.getElem?_eq_getElem hq)
  have hs : c9.slots = (A.heap[q]).slots := Array.ext_getElem? fun i => e4 i (fun hm => by cases hm)
  rw [hs] at e2
  rw [e1, e2, Array.getElem?_eq_getElem hq]
theorem im_thr_ok {y d pc ec mc ms : Nat} {st : List Value} {lr : Array Slot} (hC : im_Cx D E sp d y p l R s m meth c) (hSt : im_St H0 base s) (hR : im_R it_nf D E base sp H0 M H) (hlo : ∀ q ∈ locs, base ≤ q.base) (hsz : lr.size = c.maxLocals)
    (h : it_thr y pc = some ec) (hst : (st.map Value.category).sum ≤ 8) (hrc : cells + 1 ≤ R.cells) (hrs : slots + 6 ≤ R.slots) (hc : cells + 1 = mc) (hs : slots + 6 = ms) :
    W p l e R s m args below meth c H locs cells slots (im_MQ below (im_Qc D E base sp H0 (.inr (ec, im_tot M)) (im_dead M 1 6)) args s mc ms (im_free base)) (F0 m pc lr (st.map (im_v (im_ad base sp)))) := by
  obtain ⟨me, hme, hx, hb, hml, hown, hret, hlocks, hname, hexc, htr, hT, hK, hY, hfr, hlc⟩ := hC
  obtain ⟨ik, is, ic, tx, names, d0, d3, d4, d6, d9, hf1, hf2, hn, hkl, hini, hstr, hwd, hnil⟩ := it_thr_ok h hme
  have hnilc : c.exceptionTable.toList = [] := by
    rw [hnil] at hexc
    exact List.map_eq_nil_iff.mp hexc
  intro T hTH X
  have htr' : e.platform.stackTraces = false := (show e.platform.stackTraces = l.stackTraces by rw [X.admits.platform]).trans htr
  have Y := im_rebase X (k := 1) (n := 6) hrc hrs
  obtain ⟨s', hA⟩ : ∃ z, z = (T.setVm s.vm).setFrames (.invoking m args :: below) := ⟨_, rfl⟩
  rw [← hA] at Y
  have hvm : s'.vm = s.vm := by rw [hA]; rfl
  have hhp : s'.heap = H := by rw [hA]; exact hTH
  have hW0 : s.WarmedH s'.vm := by rw [hvm]; exact State.WarmedH.refl s
  have hT' : im_T s' := fun w hw A => it_tb_word hW0 hw (hT w hw A)
  have hA' : im_A base H0 s'.heap := by rw [hhp]; exact ⟨hSt.1.1, hR.2.2.1, hR.2.2.2.2.1⟩
  have hSf := hSt.2.moved hW0
  have hat : ∀ w ∈ Jvm.Bundle.ownAtoms me.1.cls ic (it_ecn ec) names, w.before args s' = true := by
    intro w hw
    rcases hwd w hw with h1 | h1 | h1 | h1 | h1
    · exact hT' w h1 _
    · rw [h1]; exact (hSf.1.words hA').2
    · rw [h1]; exact (hSf.2.1.words hA').2
    · rw [h1]; exact (hSf.1.words hA').1
    · rw [h1]; exact (hSf.2.1.words hA').1
  have hown' : s'.vm.findClass me.1.cls = some m.cls := by rw [hvm]; exact hown
  have hins : (Cond.instantiable (it_ecn ec) 6).before args s' = true := hat _ (by simp [Jvm.Bundle.ownAtoms])
  obtain ⟨sa, hsa⟩ : ∃ sa, vk_R me.1.cls is tx sa s' := im_strref (hT' _ hstr #[])
  have hb0 : decode c.code pc = .ok (.new ik, 3) := by rw [hb]; exact d0
  have hb3 : decode c.code (pc + 3) = .ok (.dup, 1) := by rw [hb]; exact d3
  have hb4 : decode c.code (pc + 4) = .ok (.ldc is, 2) := by rw [hb]; exact d4
  obtain ⟨vm₁, cX, kX, hfX, hkX, -, -, X₁, st1⟩ := Y.newCold hx (own := me.1.cls) (C := it_ecn ec) (index := ik) (n := 6) hown' (hT' _ hkl _) hins (hT' _ hini _)
    (g := F0 m pc lr (st.map (im_v (im_ad base sp)))) rfl hb0 (Nat.le_refl _) (Nat.le_refl _)
  generalize hT1 : (T.setVm vm₁).pushCell { cls := cX, slots := kX.instanceTypes.map defaultValue, vm := .none } = T1 at X₁ st1
  have hcellA : T1.heap[T.heap.size]? = some (freshCell cX kX) := by rw [← hT1]; exact State.heap_pushCell_size _ _
  have hcs : ((st.map (im_v (im_ad base sp))).map fun v => v.category).sum ≤ 8 := by rw [im_catsum]; exact hst
  have hcat : (Value.ref T.heap.size).category = 1 := rfl
  obtain ⟨U, hsteps, hrun, hend, hW, hsame, ce, hce, hO⟩ := X₁.ctorThrowS hx htr' (own := me.1.cls) (cls := it_ecn ec) (names := names) (ic := ic) hown' hf1 hf2 hat (fun x hx => nomatch hx) hfX hkX hcellA (by rw [hhp, hTH]; exact Nat.le_refl _) (msg := .ref sa) rfl
    (g := { method := m, pc := pc + 6, locals := lr, stack := .ref sa :: .ref T.heap.size :: .ref T.heap.size :: st.map (im_v (im_ad base sp)), locked := none }) rfl hsz rfl rfl (rest := st.map (im_v (im_ad base sp))) rfl
    (by rw [hb]; exact d6) (by rw [hb]; exact d9) (by rw [hnilc]; intro x hx'; cases hx') (by have := hn.1; show names.length + 3 < R.frames; omega) (by show 2 * 0 + _ + _ ≤ R.locals; simp only [List.map_cons, List.sum_cons, hcat]; have := hn.1; omega) hlocks
  have hsame' : s'.sameButNew ({ U with vm := s'.vm } : State) [] 1 6 := by simpa using hsame
  have hold : ∀ q, q < H.size → U.heap[q]? = H[q]? := fun q hq => by
    have := im_sameold hsame' (q := q) (by rw [hhp]; exact hq)
    rw [hhp] at this
    exact this
  have hz : U.heap.size = H.size + 1 := by
    have h1 : U.heap.size ≤ s'.heap.size + 1 := hsame'.2.2.1
    have h2 : T.heap.size < U.heap.size := (Array.getElem?_eq_some_iff.mp hce).1
    rw [hhp] at h1
    rw [hTH] at h2
    omega
  have had : im_ad base sp (im_tot M) = T.heap.size := by
    have h8 := hR.1
    have h2 := hR.2.1
    have h9 : 8 ≤ im_tot M := by unfold im_tot; omega
    rw [im_ad_own h9, hTH]
    omega
  have hall : s.sameButNew ({ U with vm := s.vm } : State) locs mc ms := by
    subst hA
    obtain ⟨e1, e2⟩ := hsame'
    rw [State.setFrames_setFrames] at e1
    have h2 : (T.setVm s.vm).sameButNew ({ U with vm := s.vm } : State) [] 1 6 := ⟨e1, e2⟩
    have h3 := X.same.trans h2
    rw [List.append_nil, hc, hs] at h3
    exact h3
  have hWs : s.WarmedH U.vm := State.WarmedH.trans hW0 hW
  refine ⟨U, st1 _ ?_, .threw T.heap.size, hrun, hend, ⟨by rw [← had]; rfl, hR.dead hz hold (fun q c9 hq hc9 => ?_), fun q hq => ?_⟩, locs, ⟨hWs, hall⟩, hlo⟩
  · show Steps p.tables e below (T1.setTop { method := m, pc := pc + 3, locals := lr, stack := .ref T.heap.size :: st.map (im_v (im_ad base sp)), locked := none }) _
    jvm_step X₁.here [X₁.here.top, hx, hb3, Value.category]
    exact X₁.ldcString hx (own := me.1.cls) (text := tx) (index := is) (a := sa) hown' hsa.1 hsa.2
      (g := { method := m, pc := pc + 4, locals := lr, stack := .ref T.heap.size :: .ref T.heap.size :: st.map (im_v (im_ad base sp)), locked := none }) rfl hb4 _ hsteps
  · have hlt : q < U.heap.size := (Array.getElem?_eq_some_iff.mp hc9).1
    have hqe : q = T.heap.size := by rw [hTH]; omega
    subst hqe
    cases hce.symm.trans hc9
    rw [hO.vm]; rfl
  · cases hq
    refine ⟨by have := hR.1; show 8 ≤ im_tot M; unfold im_tot; omega, hn.2, ce, by rw [had]; exact hce, hO.vm, ?_⟩
    have h9 := hO.cls
    rw [hvm] at h9
    exact h9
/-- one row of a table that names a class, resolved or not -/
theorem im_fh {e : Env} {dd : Bool} {acts : List Action} {S : State} {f : JFrame} {a : Addr} {Qh : Handler → Pre} {Ec : CtlPost} {x : ExceptionTableEntry} {t : List ExceptionTableEntry} {k : ClassId} {cell : Cell} (hx : covers x f.pc = true) (h0 : x.catchType ≠ 0)
    (hl : S.vm.ClassLinks e.platform f.method.cls x.catchType k) (hcell : S.heap[a]? = some cell) (hobj : ∀ q, cell.vm ≠ .statics q) (hk : ∃ q, S.vm.classes[cell.cls]? = some q) (hc : ∃ q, S.vm.classes[k]? = some q) :
    wp (findHandler.go f a (x :: t)) Qh Ec e dd acts S ↔ if S.vm.assignable cell.cls k = true then Qh (.found x.handlerPc) dd acts (S.setVm (S.vm.noted f.method.cls x.catchType (.cls k))) else wp (findHandler.go f a t) Qh Ec e dd acts (S.setVm (S.vm.noted f.method.cls x.catchType (.cls k))) := by
  simp only [covers] at hx
  obtain ⟨ha, ht⟩ := (resolveClass_links e.toSetting hl).op (op := VmOp.resolveClass f.method.cls x.catchType) rfl
  have hal : S.vm.Alike (S.vm.noted f.method.cls x.catchType (.cls k)) := (Vm.Alike.refl S.vm).noted _ _ _
  obtain ⟨k1, hk1⟩ := hk
  obtain ⟨k2, hk2⟩ := hc
  obtain ⟨k1', hk1', -⟩ := hal.2.2 _ _ hk1
  obtain ⟨k2', hk2', -⟩ := hal.2.2 _ _ hk2
  have has : (S.vm.noted f.method.cls x.catchType (.cls k)).assignable cell.cls k = S.vm.assignable cell.cls k := hal.assignable _ _
  cases hfit : S.vm.assignable cell.cls k <;> rw [hfit] at has <;>
    simp [findHandler.go, hx, h0, ha, ht, hcell, hobj, hk1', hk2', has, VmOp.dirties, VmOp.acts]
/-- a row is passed, a row catches -/
def im_pass (pl : Platform) (s : State) (d : ClassId) (pc : Nat) (th : ClassId) (y : ExceptionTableEntry) : Prop := covers y pc = false ∨ (y.catchType ≠ 0 ∧ ∃ k, s.vm.ClassLinks pl d y.catchType k ∧ s.vm.assignable th k = false)
theorem im_fhs {e : Env} {s : State} {f : JFrame} {a : Addr} {cell : Cell} (hobj : ∀ q, cell.vm ≠ .statics q) (hk0 : ∃ q, s.vm.classes[cell.cls]? = some q) (x : ExceptionTableEntry) (suf : List ExceptionTableEntry) (hx : covers x f.pc = true) (h0 : x.catchType ≠ 0) {k : ClassId} (hl : s.vm.ClassLinks e.platform f.method.cls x.catchType k) (hfit : s.vm.assignable cell.cls k = true) :
    ∀ (pre : List ExceptionTableEntry) (S : State), s.WarmedH S.vm → S.heap[a]? = some cell → (∀ y ∈ pre, im_pass e.platform s f.method.cls f.pc cell.cls y) →
      ∃ vm', s.WarmedH vm' ∧ ∀ (Qh : Handler → Pre) (Ec : CtlPost) (dd : Bool) (acts : List Action), wp (findHandler.go f a (pre ++ x :: suf)) Qh Ec e dd acts S ↔ Qh (.found x.handlerPc) dd acts (S.setVm vm') := by
  obtain ⟨k0, hk0⟩ := hk0
  intro pre
  induction pre with
  | nil =>
    intro S hW hcell _
    obtain ⟨k0', hk0', -⟩ := hW.alike.2.2 _ _ hk0
    obtain ⟨dk, _, _, kt, hd, _, _, _, _, hkt, _, hopen⟩ := hl.here
    obtain ⟨kt', hkt', -⟩ := hW.alike.2.2 _ _ hkt
    refine ⟨_, hW.noted hd hopen (State.rightAt_cls hl), fun Qh Ec dd acts => ?_⟩
    rw [List.nil_append, im_fh hx h0 (hW.classLinks hl) hcell hobj ⟨k0', hk0'⟩ ⟨kt', hkt'⟩, if_pos (by rw [hW.alike.assignable]; exact hfit)]
  | cons y ys ih =>
    intro S hW hcell hpass
    obtain ⟨k0', hk0', -⟩ := hW.alike.2.2 _ _ hk0
    have hrest : ∀ z ∈ ys, im_pass e.platform s f.method.cls f.pc cell.cls z := fun z hz => hpass z (List.mem_cons_of_mem _ hz)
    by_cases hcov : covers y f.pc = true
    · rcases hpass y List.mem_cons_self with h | ⟨h0', k', hl', hno⟩
      · rw [h] at hcov; cases hcov
      · obtain ⟨dk, _, _, kt, hd, _, _, _, _, hkt, _, hopen⟩ := hl'.here
        obtain ⟨kt', hkt', -⟩ := hW.alike.2.2 _ _ hkt
        obtain ⟨vm', hW', hq⟩ := ih (S.setVm (S.vm.noted f.method.cls y.catchType (.cls k'))) (hW.noted hd hopen (State.rightAt_cls hl')) hcell hrest
        refine ⟨vm', hW', fun Qh Ec dd acts => ?_⟩
        rw [List.cons_append, im_fh hcov h0' (hW.classLinks hl') hcell hobj ⟨k0', hk0'⟩ ⟨kt', hkt'⟩, if_neg (by rw [hW.alike.assignable, hno]; decide)]
        exact hq Qh Ec dd acts
    · obtain ⟨vm', hW', hq⟩ := ih S hW hcell hrest
      refine ⟨vm', hW', fun Qh Ec dd acts => ?_⟩
      rw [List.cons_append, Jvm.W.findHandler_go_skip (by simpa using hcov)]
      exact hq Qh Ec dd acts
theorem im_caught {T : State} (X : Stand p l e R s m args below meth c T locs cells slots) {a : Addr} {g : JFrame} (hg : g.method = m) {cell : Cell} (hcell : T.heap[a]? = some cell) (hobj : ∀ q, cell.vm ≠ .statics q) (hk0 : ∃ q, s.vm.classes[cell.cls]? = some q)
    (pre : List ExceptionTableEntry) (x : ExceptionTableEntry) (suf : List ExceptionTableEntry) (hsplit : c.exceptionTable.toList = pre ++ x :: suf) (hpass : ∀ y ∈ pre, im_pass e.platform s m.cls g.pc cell.cls y) (hx : covers x g.pc = true) (h0 : x.catchType ≠ 0) {k : ClassId}
    (hl : s.vm.ClassLinks e.platform m.cls x.catchType k) (hfit : s.vm.assignable cell.cls k = true) :
    ∃ vm', Stand p l e R s m args below meth c (T.setVm vm') locs cells slots ∧ ∀ target, Steps p.tables e below ((T.setVm vm').setTop { g with pc := x.handlerPc, stack := [.ref a] }) target → Steps p.tables e below ((T.setTop g).pushFrame (.throwing a)) target := by
  subst hg
  obtain ⟨vm', hW', hf⟩ := im_fhs (e := e) (f := g) (a := a) hobj hk0 x suf hx h0 hl hfit pre ((T.setTop g).pushFrame (.throwing a)) (by rw [Stand.throwing_vm]; exact X.warmed) (by rw [Stand.throwing_heap]; exact hcell) hpass
  refine ⟨vm', X.noted hW', fun target hrest => ?_⟩
  have hm : ((T.setTop g).pushFrame (.throwing a)).vm.method? g.method = some meth := by rw [Stand.throwing_vm]; exact X.method'
  have hfind : ∀ (Qh : Handler → Pre) (Ec : CtlPost) (dd : Bool) (acts : List Action), wp (findHandler g a) Qh Ec e dd acts ((T.setTop g).pushFrame (.throwing a)) ↔ Qh (.found x.handlerPc) dd acts (((T.setTop g).pushFrame (.throwing a)).setVm vm') := fun Qh Ec dd acts => by
    rw [Jvm.W.findHandler_eq hm X.code, hsplit]
    exact hf Qh Ec dd acts
  obtain ⟨hgo, hw⟩ := X.here.throwing a
  refine Steps.head hgo hw ?_
  have hstep : (stepThrowing e ((T.setTop g).pushFrame (.throwing a)) a (.java g :: T.frames.tail)).1 = (((T.setTop g).pushFrame (.throwing a)).setVm vm').setFrames (.java { g with pc := x.handlerPc, stack := [.ref a] } :: T.frames.tail) := by
    simp only [stepThrowing, searchFrame, vmDo]
    generalize hr : Sem.go _ e false [] ((T.setTop g).pushFrame (.throwing a)) = res
    obtain ⟨as, rfl, ha⟩ := Sem.eq_ok_of hr (a := Handler.found x.handlerPc) (s' := ((T.setTop g).pushFrame (.throwing a)).setVm vm') (acts' := []) (by simp [hfind _ _ _ _])
    rfl
  rw [stepThread_throwing (frames_entered X.here.top _), hstep]
  obtain ⟨g₀, hg0⟩ := Option.isSome_iff_exists.mp X.here.top
  obtain ⟨r, hr⟩ := State.topJava?_eq_some.mp hg0
  have hr' : (T.setVm vm').frames = .java g₀ :: r := hr
  rw [State.setTop_of_frames _ hr'] at hrest
  have e1 : (((T.setTop g).pushFrame (.throwing a)).setVm vm').setFrames (.java { g with pc := x.handlerPc, stack := [.ref a] } :: T.frames.tail) = (T.setVm vm').setFrames (.java { g with pc := x.handlerPc, stack := [.ref a] } :: r) := by
    rw [State.pushFrame, State.setTop_of_frames _ hr, State.setFrames_setFrames, hr]
    exact State.setFrames_setFrames (T.setVm vm') _ _
  rw [e1]
  exact hrest
theorem im_find_split {α : Type} {P : α → Bool} : ∀ {L : List α} {x : α}, L.find? P = some x → ∃ pre suf, L = pre ++ x :: suf ∧ P x = true ∧ ∀ y ∈ pre, P y = false
  | [], _, h => by cases h
  | a :: L, x, h => by
    rw [List.find?_cons] at h
    cases ha : P a with
    | true =>
      rw [ha] at h
      cases h
      exact ⟨[], L, rfl, ha, fun y hy => by cases hy⟩
    | false =>
      rw [ha] at h
      obtain ⟨pre, suf, h1, h2, h3⟩ := im_find_split h
      exact ⟨a :: pre, suf, by rw [h1]; rfl, h2, fun y hy => (List.mem_cons.mp hy).elim (fun e => by rw [e]; exact ha) (h3 y)⟩
/-- caught by this method's table -/
theorem im_catch_ok {y d pc ec hp a : Nat} {rest : List Value} {lr : Array Slot} {cell : Cell} (hC : im_Cx D E sp d y p l R s m meth c) (h : im_hand y pc ec = some hp) (hec : ec < 3) (hcell : H[a]? = some cell) (hv : cell.vm = .none) (hcl : s.vm.findClass (it_ecn ec) = some cell.cls)
    (kk : W p l e R s m args below meth c H locs cells slots Q (F0 m hp lr [.ref a])) (T : State) (hTH : T.heap = H) (X : Stand p l e R s m args below meth c T locs cells slots) :
    ∃ t, Steps p.tables e below ((T.setTop (F0 m pc lr rest)).pushFrame (.throwing a)) t ∧ Q t := by
  obtain ⟨me, hme, hx, hb, hml, hown, hret, hlocks, hname, hexc, htr, hT, hK, hY, hfr, hlc⟩ := hC
  have hpl : e.platform.magicAccessors = ({} : Platform).magicAccessors := by rw [X.admits.platform]
  unfold im_hand at h
  rw [hme] at h
  simp only [Option.map_eq_some_iff] at h
  obtain ⟨hrow, hfind, rfl⟩ := h
  obtain ⟨pre, suf, e1, e2, e3⟩ := im_find_split hfind
  rw [e1] at hexc
  obtain ⟨pre', suf', f1, f2, f3⟩ := List.map_eq_append_iff.mp hexc
  obtain ⟨x, suf'', rfl, f4, f5⟩ := List.map_eq_cons_iff.mp f3
  simp only [Bool.and_eq_true, decide_eq_true_eq] at e2
  obtain ⟨⟨c1, c2⟩, c3⟩ := e2
  have hxin : hrow ∈ me.2.2.2.2 := by rw [e1]; exact List.mem_append_right _ List.mem_cons_self
  obtain ⟨n0, nm, w1, w2, w3⟩ := it_cat_ok (ec := ec) hme hxin hec
  have hxr : x.startPc = hrow.1 ∧ x.endPc = hrow.2.1 ∧ x.handlerPc = hrow.2.2.1 ∧ x.catchType = hrow.2.2.2 := by rw [← f4]; exact ⟨rfl, rfl, rfl, rfl⟩
  obtain ⟨x1, x2, x3, x4⟩ := hxr
  obtain ⟨k, hk, hl⟩ := Cond.classLink_spec hown (hT _ w1 #[]) e.platform hpl
  obtain ⟨c4, c5, hc4, hc5, hasg⟩ := Cond.castable_spec (hT _ (w2 c3) #[])
  cases Option.some.inj (hc4.symm.trans hcl)
  cases Option.some.inj (hc5.symm.trans hk)
  obtain ⟨vm', X', st⟩ := im_caught X (a := a) (g := F0 m pc lr rest) rfl (by rw [hTH]; exact hcell) (by rw [hv]; exact fun q h => by cases h) (by obtain ⟨k9, h9, -⟩ := Vm.findClass_spec hcl; exact ⟨k9, h9⟩) pre' x suf'' f1
    (fun z hz => by
      have hzt : (z.startPc, z.endPc, z.handlerPc, z.catchType) ∈ pre := by rw [← f2]; exact List.mem_map.mpr ⟨z, hz, rfl⟩
      have hz3 := e3 _ hzt
      have hzin : (z.startPc, z.endPc, z.handlerPc, z.catchType) ∈ me.2.2.2.2 := by rw [e1]; exact List.mem_append_left _ hzt
      obtain ⟨m0, nm', v1, v2, v3⟩ := it_cat_ok (ec := ec) hme hzin hec
      by_cases hcov : covers z pc = true
      · right
        simp only [covers, Bool.and_eq_true, decide_eq_true_eq] at hcov
        have hcat : it_cat y z.catchType ec = false := by
          simp only [hcov.1, hcov.2, decide_true, Bool.true_and] at hz3
          exact hz3
        obtain ⟨k', hk', hl'⟩ := Cond.classLink_spec hown (hT _ v1 #[]) e.platform hpl
        obtain ⟨a8, b8, g1, g2, g3⟩ := v3 hcat s hY.2
        cases Option.some.inj (g1.symm.trans hcl)
        cases Option.some.inj (g2.symm.trans hk')
        exact ⟨m0, _, hl', g3⟩
      · exact Or.inl (by simpa using hcov))
    (by simp only [covers, Bool.and_eq_true, decide_eq_true_eq]; rw [x1, x2]; exact ⟨c1, c2⟩) (by rw [x4]; exact n0) (by rw [x4]; exact hl) hasg
  obtain ⟨t, a1, b1⟩ := kk (T.setVm vm') hTH X'
  refine ⟨t, st t ?_, b1⟩
  rw [x3]
  exact a1
end THROWS
