/-! The abstract machine is right, first part: what a state must say, all instructions but calls, returns and throws. -/
section SOUND
variable {p : Program} {l : Launch} {e : Env} {R : Room} {s : State} {m : MethodId} {args : Array Value} {below : List Frame} {meth : Method} {c : Code} {H : Heap} {locs : List Loc} {cells slots : Nat} {Q : State → Prop}
variable {D : va_G} {E : Nat → ClassId} {base : Nat} {sp : Nat → Nat} {H0 : Heap} {M : im_M}
/-- the words hold, whatever the arguments -/
def im_T (s : State) : Prop := ∀ w ∈ it_tb, ∀ A : Array Value, w.before A s = true
/-- the two texts -/
def im_Y (sp : Nat → Nat) (s : State) : Prop := ∀ (y idx k : Nat) (me : it_Me), it_str y idx = some k → it_met y = some me → ∃ tx, vk_R me.1.cls idx tx (sp k) s
/-- exceptions that are none of another kind -/
def im_N (s : State) : Prop := ∀ a b, a < 3 → b < 3 → a ≠ b → va_Nc (it_ecn a) (it_ecn b) s
/-- where the two static fields lie that a throw reads, and that no cell of ours is a class's -/
def im_Sl (C n d : String) (H0 : Heap) (U : State) : Prop := va_Zq C n d (fun q => H0.size ≤ q) U H0 ∧ ∃ (c : ClassId) (k : Class) (i : Nat) (f : Field) (a : Nat) (cell : Cell), U.vm.findClass C = some c ∧ U.fieldFound? C n d = some (c, k, i, f) ∧ f.isStatic = true ∧ k.statics = some a ∧ H0[a]? = some cell ∧ cell.vm.isStatics = true ∧ cell.cls = c ∧ f.slot < cell.slots.size ∧ k.staticTypes[f.slot]? = some f.type
/-- a field of a String -/
def im_Of (nm d : String) (v : Value) (ca : Cell) (U : State) : Prop := ∃ (cf : ClassId) (k : Class) (i : Nat) (f : Field), U.fieldFound? "java/lang/String" nm d = some (cf, k, i, f) ∧ f.isStatic = false ∧ U.vm.assignable ca.cls cf = true ∧ ca.slots[f.slot]? = some v
/-- a text of the Reader's: its cell, its bytes -/
def im_Sz (idx : Nat) (f : List Int32) (H0 : Heap) (U : State) : Prop := ∃ (a d : Nat) (ca arr : Cell) (kS : Class) (tx : String), vk_R "IssueFold$Reader" idx tx a U ∧ H0[a]? = some ca ∧ ca.vm.isStatics = false ∧ U.vm.findClass "java/lang/String" = some ca.cls ∧ U.vm.classes[ca.cls]? = some kS ∧ (kS.kind = .ordinary → ca.slots.size = kS.instanceTypes.size) ∧
  ca.vm ≠ .unknown ∧ im_Of "coder" "B" (.int 0) ca U ∧ im_Of "value" "[B" (.ref d) ca U ∧ H0[d]? = some arr ∧ U.isArrayOf arr .byte ∧ arr.vm ≠ .unknown ∧ arr.slots = (f.map Value.int).toArray
def im_Sx (H0 : Heap) (U : State) : Prop := im_Sz 21 [112, 110, 117, 114, 111] H0 U ∧ im_Sz 19 [112, 110, 117, 115] H0 U ∧ va_Z "java/lang/String" "COMPACT_STRINGS" "Z" (.int 1) (fun q => H0.size ≤ q) U H0
def im_Sf (H0 : Heap) (U : State) : Prop := im_Sl Jvm.Bundle.tN "UNASSIGNED_STACK" Jvm.Bundle.steD H0 U ∧ im_Sl Jvm.Bundle.tN "SUPPRESSED_SENTINEL" Jvm.Bundle.listD H0 U ∧ im_Sx H0 U
def im_A (base : Nat) (H0 H : Heap) : Prop := H0.size = base ∧ (∀ q, q < base → H[q]? = H0[q]?) ∧ ∀ (q : Nat) (cell : Cell), base ≤ q → H[q]? = some cell → cell.vm.isStatics = false
def im_St (H0 : Heap) (base : Nat) (s : State) : Prop := im_A base H0 s.heap ∧ im_Sf H0 s
/-- where a method's body is walked -/
def im_Cx (D : va_G) (E : Nat → ClassId) (sp : Nat → Nat) (d y : Nat) (p : Program) (l : Launch) (R : Room) (s : State) (m : MethodId) (meth : Method) (c : Code) : Prop :=
  ∃ me : it_Me, it_met y = some me ∧ p.tables.exec = Jvm.exec ∧ c.code = me.2.1 ∧ c.maxLocals = me.2.2.1 ∧ s.vm.findClass me.1.cls = some m.cls ∧ meth.sig.returnType = me.2.2.2.1 ∧ meth.locks = false ∧ meth.name = me.1.name ∧
    c.exceptionTable.toList.map (fun h => (h.startPc, h.endPc, h.handlerPc, h.catchType)) = me.2.2.2.2 ∧ l.stackTraces = false ∧ im_T s ∧ im_K it_cl it_aty D E s ∧ (im_Y sp s ∧ im_N s) ∧ d + 40 ≤ R.frames ∧ 100 * d + 4000 ≤ R.locals
theorem im_v_narrow {ad : Nat → Nat} {ty : FieldType} {v : Value} (h : narrow ty v = v) : narrow ty (im_v ad v) = im_v ad v := by
  cases v with
  | ref k => cases ty <;> rfl
  | _ => exact h
theorem im_v_fits {ad : Nat → Nat} {ty : FieldType} {v : Value} (h : fits ty v = true) : fits ty (im_v ad v) = true := by
  cases v with
  | ref k => cases ty <;> exact h
  | _ => exact h
theorem it_ma_all : it_mas.all (fun r => it_wd r.2.1 (.classLink (it_own r.1.1) r.1.2 "[[I") && it_wd r.2.2 (.arrayOver (.array .int))) = true := by decide +kernel
theorem it_man_ok {y idx : Nat} {me : it_Me} (h : it_man y idx = true) (hme : it_met y = some me) : Cond.classLink me.1.cls idx "[[I" ∈ it_tb ∧ Cond.arrayOver (.array .int) ∈ it_tb ∧ Cond.arrayClass .int ∈ it_tb := by
  unfold it_man at h
  obtain ⟨r, hr, he⟩ := List.mem_map.mp (List.contains_iff_mem.mp h)
  have h1 := List.all_eq_true.mp it_ma_all r hr
  rw [he, it_own_ok hme] at h1
  simp only [Bool.and_eq_true] at h1
  have hw := it_ac_all
  simp only [Bool.and_eq_true] at hw
  exact ⟨it_wd_in h1.1, it_wd_in h1.2, it_wd_in hw.1.1.1⟩
theorem im_v_def {ad : Nat → Nat} (ty : FieldType) : im_v ad (defaultValue ty) = defaultValue ty := by cases ty <;> rfl
theorem im_mw_ok {y idx dim pc len nL : Nat} {me : it_Me} {ls st : List Value} {lr : Array Slot} {r : im_S} {M1 : im_M} (hx : p.tables.exec = Jvm.exec) (hb : c.code = me.2.1) (hdg : decode me.2.1 pc = .ok (.multianewarray idx dim, len)) (hme : it_met y = some me) (hown : s.vm.findClass me.1.cls = some m.cls) (hT : im_T s) (hK : im_K it_cl it_aty D E s) (hR : im_R it_nf D E base sp H0 M H) (hlo : ∀ q ∈ locs, base ≤ q.base) (hL : im_L (im_ad base sp) nL ls lr)
    (h : im_ns y (.multianewarray idx dim) len pc ls st M = some (r, M1)) (hcells : cells + im_tot M1 ≤ R.cells + im_tot M) (hslots : slots + M1.1.2.2 ≤ R.slots + M.1.2.2)
    (kk : ∀ (H' : Heap) (locs' : List Loc) (lr' : Array Slot) (cells' slots' : Nat), im_R it_nf D E base sp H0 M1 H' → (∀ q ∈ locs', base ≤ q.base) → im_L (im_ad base sp) nL r.2.1 lr' → cells' + im_tot M = cells + im_tot M1 → slots' + M.1.2.2 = slots + M1.1.2.2 →
      W p l e R s m args below meth c H' locs' cells' slots' Q (F0 m r.1 lr' (r.2.2.map (im_v (im_ad base sp))))) : W p l e R s m args below meth c H locs cells slots Q (F0 m pc lr (st.map (im_v (im_ad base sp)))) := by
  have h' : im_wr pc ls 4 (im_mw y idx dim len st M) = some (r, M1) := h
  cases hmw : im_mw y idx dim len st M with
  | none => rw [hmw] at h'; cases h'
  | some qq =>
    rw [hmw] at h'
    unfold im_mw at hmw
    split at hmw
    · rename_i hl
      obtain ⟨hl, hd, hg0, hman⟩ := hl
      subst hl; subst hd
      split at hmw
      · rename_i b a r'
        split at hmw
        · rename_i hab
          obtain ⟨rfl, rfl⟩ := hab
          cases hmw
          cases h'
          obtain ⟨w1, w2, w3⟩ := it_man_ok hman hme
          simp only [im_tot, im_new] at hcells hslots
          intro T hTH X
          obtain ⟨vm₁, cA, comp, f1, f2, XF, st⟩ := im_multi X hx hown (hT _ w1 _) (hT _ w2 _) (hT _ w3 _) (g := F0 m pc lr (.int 3 :: .int 3 :: r'.map (im_v (im_ad base sp)))) rfl (by rw [hb]; exact hdg) rfl (by omega) (by omega)
          obtain ⟨a1, a2, a3, a4, a5, a6, a7, a8⟩ := im_s3_facts (T.setVm vm₁) cA comp
          have hsz : (T.setVm vm₁).heap = H := hTH
          rw [hsz] at a1 a2 a3 a4 a5 a6
          obtain ⟨kA, cm, k1, k2, k3, -, k4⟩ := hK.2 36 (.array .int) rfl
          obtain ⟨kB, cn, j1, j2, j3, -, -⟩ := hK.2 30 .int rfl
          have hcA : cA = E 36 := Option.some.inj (f1.symm.trans (k3 (by decide)))
          have hco : comp = E 30 := Option.some.inj (f2.symm.trans (j3 (by decide)))
          have hin : ∀ kd, kd = 30 → im_cell it_nf D E (im_ad base sp) (kd, 3) (fun _ => .int 0) (im_in comp) := by
            intro kd hkd
            subst hkd
            rw [hco]
            have := im_arr_cell (nf := it_nf) (D := D) (E := E) (ad := im_ad base sp) (kd := 30) (n := 3) (v := .int 0) (by decide) rfl
            rwa [← arrV_new] at this
          have h8 := hR.1
          have h2 := hR.2.1
          unfold im_tot at h2
          have had : ∀ j, im_ad base sp (M.1.1 + 1 + j) = H.size + 1 + j := fun j => by rw [im_ad_own (by omega)]; omega
          have hout : im_cell it_nf D E (im_ad base sp) (36, 3) (fun j => .ref (M.1.1 + 1 + j)) (im_o3 cA H.size) := by
            obtain ⟨o1, o2, o3, o4, o5, o6⟩ := im_o3_slots cA H.size
            unfold im_cell
            rw [if_neg (by decide)]
            refine ⟨by rw [o5]; exact hcA, by rw [o6]; exact fun q => (by cases q), by rw [o6]; exact fun q hq => (by cases hq), o4, fun j hj => ?_⟩
            show _ = some (Value.ref (im_ad base sp (M.1.1 + 1 + j)))
            rw [had]
            match j, hj with
            | 0, _ => exact o1
            | 1, _ => exact o2
            | 2, _ => exact o3
          have p0 : ∀ (A : Heap) (c9 : Cell), (A.push c9)[A.size]? = some c9 ∧ (A.push c9).size = A.size + 1 ∧ ∀ q, q < A.size → (A.push c9)[q]? = A[q]? := fun A c9 => ⟨by simp, by simp, fun q hq => by rw [Array.getElem?_push, if_neg (Nat.ne_of_lt hq)]⟩
          obtain ⟨r1, d1⟩ := hR.new (H' := H.push (im_o3 cA H.size)) hg0 (sl := 3) (p0 _ _).1 (p0 _ _).2.1 (p0 _ _).2.2 hout
          obtain ⟨r2, d2⟩ := r1.new (H' := (H.push (im_o3 cA H.size)).push (im_in comp)) hg0 (sl := 3) (p0 _ _).1 (p0 _ _).2.1 (p0 _ _).2.2 (hin 30 rfl)
          obtain ⟨r3, d3⟩ := r2.new (H' := ((H.push (im_o3 cA H.size)).push (im_in comp)).push (im_in comp)) hg0 (sl := 3) (p0 _ _).1 (p0 _ _).2.1 (p0 _ _).2.2 (hin 30 rfl)
          obtain ⟨r4, d4⟩ := r3.new (H' := (((H.push (im_o3 cA H.size)).push (im_in comp)).push (im_in comp)).push (im_in comp)) hg0 (sl := 3) (p0 _ _).1 (p0 _ _).2.1 (p0 _ _).2.2 (hin 30 rfl)
          have hH : (im_s3 (T.setVm vm₁) cA comp).heap = (((H.push (im_o3 cA H.size)).push (im_in comp)).push (im_in comp)).push (im_in comp) := by
            apply Array.ext_getElem?
            intro q
            simp only [Array.getElem?_push, Array.size_push]
            by_cases q4 : q = H.size + 3
            · subst q4; rw [a5]; simp
            · by_cases q3 : q = H.size + 2
              · subst q3; rw [a4]; simp
              · by_cases q2 : q = H.size + 1
                · subst q2; rw [a3]; simp
                · by_cases q1 : q = H.size
                  · subst q1
                    rw [a1, if_neg (by omega), if_neg (by omega), if_neg (by omega), if_pos rfl]
                  · by_cases ql : q < H.size
                    · rw [a6 q ql]
                      simp [q1, show ¬ q = H.size + 1 + 1 + 1 by omega, show ¬ q = H.size + 1 + 1 by omega, show ¬ q = H.size + 1 by omega]
                    · rw [Array.getElem?_eq_none (by rw [a2]; omega)]
                      simp [q1, show ¬ q = H.size + 1 + 1 + 1 by omega, show ¬ q = H.size + 1 + 1 by omega, show ¬ q = H.size + 1 by omega]
                      omega
          have hd : im_ad base sp M.1.1 = T.heap.size := by rw [d1, hTH]
          have kkW := kk (im_s3 (T.setVm vm₁) cA comp).heap (locs ++ [⟨T.heap.size, 0⟩] ++ [⟨T.heap.size, 1⟩] ++ [⟨T.heap.size, 2⟩]) lr (cells + 4) (slots + 12) (by rw [hH]; exact r4) (fun q hq => by
            simp only [List.mem_append, List.mem_cons, List.not_mem_nil, or_false] at hq
            rcases hq with ((hq | rfl) | rfl) | rfl
            · exact hlo q hq
            all_goals (show base ≤ T.heap.size; rw [hTH]; omega)) hL (by simp only [im_tot, im_new]; omega) (by simp only [im_new]; omega)
          obtain ⟨t, b1, b2⟩ := kkW _ rfl XF
          refine ⟨t, st t ?_, b2⟩
          simpa only [List.map_cons, im_v, hd] using b1
        · cases hmw
      · cases hmw
    · cases hmw
theorem im_ns_ok {y d pc len nL : Nat} {i : Instr} {ls st : List Value} {lr : Array Slot} {r : im_S} {M1 : im_M} (hC : im_Cx D E sp d y p l R s m meth c) (hR : im_R it_nf D E base sp H0 M H) (hlo : ∀ q ∈ locs, base ≤ q.base) (hL : im_L (im_ad base sp) nL ls lr)
    (hdg : decode c.code pc = .ok (i, len)) (h : im_ns y i len pc ls st M = some (r, M1)) (hcells : cells + im_tot M1 ≤ R.cells + im_tot M) (hslots : slots + M1.1.2.2 ≤ R.slots + M.1.2.2)
    (kk : ∀ (H' : Heap) (locs' : List Loc) (lr' : Array Slot) (cells' slots' : Nat), im_R it_nf D E base sp H0 M1 H' → (∀ q ∈ locs', base ≤ q.base) → im_L (im_ad base sp) nL r.2.1 lr' → cells' + im_tot M = cells + im_tot M1 → slots' + M.1.2.2 = slots + M1.1.2.2 →
      W p l e R s m args below meth c H' locs' cells' slots' Q (F0 m r.1 lr' (r.2.2.map (im_v (im_ad base sp))))) : W p l e R s m args below meth c H locs cells slots Q (F0 m pc lr (st.map (im_v (im_ad base sp)))) := by
  obtain ⟨me, hme, hx, hb, hml, hown, hret, hlocks, hname, hexc, htr, hT, hK, hY, hfr, hlc⟩ := hC
  rw [hb] at hdg
  -- what stays as it is
  have rd : ∀ {L : Nat} {o : Option (List Value)}, im_rd pc ls M L o = some (r, M1) → (∀ st', o = some st' → W p l e R s m args below meth c H locs cells slots Q (F0 m (pc + L) lr (st'.map (im_v (im_ad base sp)))) → W p l e R s m args below meth c H locs cells slots Q (F0 m pc lr (st.map (im_v (im_ad base sp))))) →
      W p l e R s m args below meth c H locs cells slots Q (F0 m pc lr (st.map (im_v (im_ad base sp)))) := by
    intro L o ho k
    cases o with
    | none => cases ho
    | some st' =>
      cases ho
      exact k st' rfl (kk H locs lr cells slots hR hlo hL rfl rfl)
  have wr : ∀ {L : Nat} {o : Option (List Value × im_M)}, im_wr pc ls L o = some (r, M1) → (∀ st' M', o = some (st', M') → cells + im_tot M' ≤ R.cells + im_tot M → slots + M'.1.2.2 ≤ R.slots + M.1.2.2 →
        (∀ (H' : Heap) (locs' : List Loc) (cells' slots' : Nat), im_R it_nf D E base sp H0 M' H' → (∀ q ∈ locs', base ≤ q.base) → cells' + im_tot M = cells + im_tot M' → slots' + M.1.2.2 = slots + M'.1.2.2 → W p l e R s m args below meth c H' locs' cells' slots' Q (F0 m (pc + L) lr (st'.map (im_v (im_ad base sp))))) →
        W p l e R s m args below meth c H locs cells slots Q (F0 m pc lr (st.map (im_v (im_ad base sp))))) → W p l e R s m args below meth c H locs cells slots Q (F0 m pc lr (st.map (im_v (im_ad base sp)))) := by
    intro L o ho k
    cases o with
    | none => cases ho
    | some q =>
      obtain ⟨st', M'⟩ := q
      cases ho
      exact k st' M' rfl hcells hslots fun H' locs' c' s' h1 h2 h3 h4 => kk H' locs' lr c' s' h1 h2 hL h3 h4
  have pure_ : im_p i len pc ls st = some r → M1 = M → W p l e R s m args below meth c H locs cells slots Q (F0 m pc lr (st.map (im_v (im_ad base sp)))) := by
    intro h1 h2
    subst h2
    exact im_p_ok i hx hb hdg h1 hL fun lr' hL' => kk H locs lr' cells slots hR hlo hL' rfl rfl
  have other : (match im_p i len pc ls st with | some r => some (r, M) | none => none) = some (r, M1) → W p l e R s m args below meth c H locs cells slots Q (F0 m pc lr (st.map (im_v (im_ad base sp)))) := by
    intro h1
    cases hp : im_p i len pc ls st with
    | none => rw [hp] at h1; cases h1
    | some r' =>
      rw [hp] at h1
      cases h1
      exact pure_ hp rfl
  cases i with
  | getfield idx =>
    refine rd h fun st' ho kk => ?_
    unfold im_gf at ho
    split at ho
    · rename_i hl
      split at ho
      · rename_i q hq
        split at ho
        · rename_i a r'
          split at ho
          · rename_i hc
            obtain ⟨h8, hlt, hci⟩ := hc
            cases ho
            obtain ⟨C, T, N, g1, g2, g3, g4, g5⟩ := it_fld_ok hq hme
            obtain ⟨k1, k2, k3⟩ := it_cl_ok g1
            obtain ⟨cell, c1, c2⟩ := hR.at hlt (Or.inl h8)
            have c3 := c2.obj (by rw [hci]; exact g2)
            rw [hci, k3] at c3
            exact im_get_row (ci := q.1) hx hb (hK.1 _ _ g1) g3 (hT _ (k1 _ g3).1 _) hown (hT _ g5 _) g4 c1 c3 (by rw [hdg, hl]) kk
          · cases ho
        · cases ho
      · cases ho
    · cases ho
  | putfield idx =>
    refine wr h fun st' M' ho hc1 hs1 kk => ?_
    unfold im_pf at ho
    split at ho
    · rename_i hl
      obtain ⟨hl, hpok⟩ := hl
      split at ho
      · rename_i q hq
        split at ho
        · rename_i v a r'
          split at ho
          · rename_i hc
            obtain ⟨h8, hlt, hci, hn, hf⟩ := hc
            cases ho
            obtain ⟨C, T, N, g1, g2, g3, g4, g5⟩ := it_fld_ok hq hme
            obtain ⟨k1, k2, k3⟩ := it_cl_ok g1
            obtain ⟨cell, c1, c2⟩ := hR.at hlt (Or.inl h8)
            have c3 := c2.obj (by rw [hci]; exact g2)
            rw [hci, k3] at c3
            refine im_put_row (ci := q.1) (k := q.2.1) (f := M.2.2 a) hx hb (hK.1 _ _ g1) g3 (fun k hk => hT _ (k1 k hk).1 _) (it_ty q.1) (fun k hk => (k1 k hk).2) k2 hown (hT _ g5 _) g4 ?_ c1 c3 (im_v_narrow hn) (im_v_fits hf) (by rw [hdg, hl]) fun H' slot cell' e1 e2 e3 e4 => ?_
            · rcases it_pok_ok hpok hq hme g1 with h9 | ⟨h91, h92, h93⟩
              · exact Or.inl h9
              · exact Or.inr ⟨h91, h92, by rw [hname]; exact h93⟩
            · refine kk H' _ cells slots (hR.set hlt h8 e1 e2 e3 ?_) (t_lc (free := fun a => base ≤ a) hlo (by rw [im_ad_own h8]; exact Nat.le_add_right _ _)) rfl rfl
              unfold im_cell
              rw [if_pos (by rw [hci]; exact g2), hci, k3]
              exact e4
          · cases ho
        · cases ho
      · cases ho
    · cases ho
  | new idx =>
    refine wr h fun st' M' ho hc1 hs1 kk => ?_
    unfold im_nw at ho
    split at ho
    · rename_i hl
      obtain ⟨hl, hg0⟩ := hl
      split at ho
      · rename_i ci hq
        cases ho
        obtain ⟨C, T, N, g1, g2, g3, g4, g5⟩ := it_nwc_ok hq hme
        obtain ⟨k1, k2, k3⟩ := it_cl_ok g1
        simp only [im_tot, im_new] at hc1 hs1
        refine im_new_row (ci := ci) hx hb (hK.1 _ _ g1) (fun k hk => hT _ (k1 k hk).1 _) (it_ty ci) (fun k hk => (k1 k hk).2) hown (hT _ g3 _) (hT _ g4 _) (hT _ g5 _) (by omega) (by omega) (by rw [hdg, hl]) fun H' cell' e1 e2 e3 e4 => ?_
        obtain ⟨hR', had⟩ := hR.new (H' := H') hg0 (kd := ci) (len := 0) (sl := it_nsl ci) (f := fun j => defaultValue (it_ty ci j)) e1 e2 e3 (by
          unfold im_cell
          rw [if_pos g2, k3]
          refine ⟨e4.1, e4.2.1, fun j hj => ?_⟩
          rw [e4.2.2 j hj, im_v_def])
        have := kk H' locs (cells + 1) (slots + it_nsl ci) hR' hlo (by simp only [im_tot, im_new]; omega) (by simp only [im_new]; omega)
        simpa only [List.map_cons, im_v, had] using this
      · cases ho
    · cases ho
  | newarray at_ =>
    refine wr h fun st' M' ho hc1 hs1 kk => ?_
    unfold im_na at ho
    split at ho
    · rename_i hl
      obtain ⟨hl, hg0⟩ := hl
      split at ho
      · rename_i kd hq
        split at ho
        · rename_i n r'
          split at ho
          · rename_i hn
            cases ho
            obtain ⟨g1, g2, g3, g4, g5, g6⟩ := it_nak_ok hq
            simp only [im_tot, im_new] at hc1 hs1
            have hb9 : n.toNatClampNeg * componentBytes (newarray.typeOf at_) ≤ 536870912 := Nat.le_trans (Nat.mul_le_mul hn.2 g5) (by decide)
            refine im_newa_row hx hb (hT _ g4 _) hK g3 g2 hn.1 hb9 (by omega) (by omega) (by rw [hdg, hl]) fun H' e1 e2 e3 => ?_
            obtain ⟨hR', had⟩ := hR.new (H' := H') hg0 (kd := kd) (len := n.toNatClampNeg) (sl := n.toNatClampNeg) (f := fun _ => defaultValue (newarray.typeOf at_)) e1 e2 e3 (im_arr_cell g1 (g6 _))
            have := kk H' locs (cells + 1) (slots + n.toNatClampNeg) hR' hlo (by simp only [im_tot, im_new]; omega) (by simp only [im_new]; omega)
            simpa only [List.map_cons, im_v, had] using this
          · cases ho
        · cases ho
      · cases ho
    · cases ho
  | anewarray idx =>
    refine wr h fun st' M' ho hc1 hs1 kk => ?_
    unfold im_aw at ho
    split at ho
    · rename_i hl
      obtain ⟨hl, hg0⟩ := hl
      split at ho
      · rename_i kd hq
        split at ho
        · rename_i n r'
          split at ho
          · rename_i hn
            cases ho
            obtain ⟨C, g1, g2, g3, g4, g5⟩ := it_anw_ok hq hme
            simp only [im_tot, im_new] at hc1 hs1
            have hb9 : n.toNatClampNeg * 4 ≤ 536870912 := Nat.le_trans (Nat.mul_le_mul hn.2 (Nat.le_refl 4)) (by decide)
            refine im_newq_row hx hb hK g1 g3 hown (hT _ g4 _) (hT _ g5 _) hn.1 hb9 (by omega) (by omega) (by rw [hdg, hl]) fun H' e1 e2 e3 => ?_
            obtain ⟨hR', had⟩ := hR.new (H' := H') hg0 (kd := kd) (len := n.toNatClampNeg) (sl := n.toNatClampNeg) (f := fun _ => .null) e1 e2 e3 (im_arr_cell g2 rfl)
            have := kk H' locs (cells + 1) (slots + n.toNatClampNeg) hR' hlo (by simp only [im_tot, im_new]; omega) (by simp only [im_new]; omega)
            simpa only [List.map_cons, im_v, had] using this
          · cases ho
        · cases ho
      · cases ho
    · cases ho
  | multianewarray idx dim => exact im_mw_ok hx hb hdg hme hown hT hK hR hlo hL h hcells hslots kk
  | arraylength =>
    refine rd h fun st' ho kk => ?_
    unfold im_len at ho
    split at ho
    · rename_i hl
      split at ho
      · rename_i k r'
        split at ho
        · rename_i hc
          obtain ⟨h1, h30, hty⟩ := hc
          cases ho
          obtain ⟨ty, hty⟩ := Option.isSome_iff_exists.mp hty
          obtain ⟨cell, g1, g2⟩ := hR.at h1 (Or.inr h30)
          obtain ⟨a1, a2, a3, a4, a5⟩ := g2.arr h30
          exact W.alen hx hb g1 (im_isarr hK hty a1 a3) (by rw [a4]) rfl rfl (by rw [hdg, hl]) kk
        · cases ho
      · cases ho
    · cases ho
  | iaload => exact rd h fun st' ho kk => im_al_ok hK hR ho (fun a j cell v rest hl h1 h2 h3 h4 h5 k => W.iald hx hb h1 h2 h3 h4 h5 rfl rfl (by rw [hdg, hl]) k) kk
  | caload => exact rd h fun st' ho kk => im_al_ok hK hR ho (fun a j cell v rest hl h1 h2 h3 h4 h5 k => W.cald hx hb h1 h2 h3 h4 h5 rfl rfl (by rw [hdg, hl]) k) kk
  | baload => exact rd h fun st' ho kk => im_al_ok hK hR ho (fun a j cell v rest hl h1 h2 h3 h4 h5 k => W.zald hx hb h1 h2 h3 h4 h5 rfl rfl (by rw [hdg, hl]) k) kk
  | laload => exact rd h fun st' ho kk => im_al_ok hK hR ho (fun a j cell v rest hl h1 h2 h3 h4 h5 k => W.lald hx hb h1 h2 h3 h4 h5 rfl rfl (by rw [hdg, hl]) k) kk
  | aaload =>
    refine rd h fun st' ho kk => ?_
    unfold im_al2 at ho
    split at ho
    · rename_i j k r'
      split at ho
      · rename_i ty hty
        split at ho
        · rename_i hrf
          exact im_al_ok hK hR ho (fun a j cell v rest hl h1 h2 h3 h4 h5 k => W.aald hx hb h1 h2 hrf h3 h4 h5 rfl rfl (by rw [hdg, hl]) k) kk
        · cases ho
      · cases ho
    · cases ho
  | iastore =>
    refine wr h fun st' M' ho hc1 hs1 kk => ?_
    unfold im_ai at ho
    split at ho
    · rename_i x j k r'
      split at ho
      · rename_i M2 hM2
        cases ho
        exact im_as_ok hK hR hlo hM2 (w := .int x) rfl (fun cell hl h1 h2 h2' h3 h4 k => W.iast hx hb h1 h2 h3 h4 rfl rfl (by rw [hdg, hl]) k) fun H' locs' q1 q2 => kk H' locs' cells slots q1 q2 (by rw [im_as_tot hM2]) (by rw [im_as_z hM2])
      · cases ho
    · cases ho
  | castore =>
    refine wr h fun st' M' ho hc1 hs1 kk => ?_
    unfold im_ai at ho
    split at ho
    · rename_i x j k r'
      split at ho
      · rename_i M2 hM2
        cases ho
        exact im_as_ok hK hR hlo hM2 (w := narrow .char (.int x)) rfl (fun cell hl h1 h2 h2' h3 h4 k => W.cast hx hb h1 h2 h3 h4 rfl rfl (by rw [hdg, hl]) k) fun H' locs' q1 q2 => kk H' locs' cells slots q1 q2 (by rw [im_as_tot hM2]) (by rw [im_as_z hM2])
      · cases ho
    · cases ho
  | bastore =>
    refine wr h fun st' M' ho hc1 hs1 kk => ?_
    unfold im_ai at ho
    split at ho
    · rename_i x j k r'
      split at ho
      · rename_i M2 hM2
        cases ho
        exact im_as_ok hK hR hlo hM2 (w := narrow .boolean (.int x)) rfl (fun cell hl h1 h2 h2' h3 h4 k => W.zast hx hb h1 h2 h3 h4 rfl rfl (by rw [hdg, hl]) k) fun H' locs' q1 q2 => kk H' locs' cells slots q1 q2 (by rw [im_as_tot hM2]) (by rw [im_as_z hM2])
      · cases ho
    · cases ho
  | lastore =>
    refine wr h fun st' M' ho hc1 hs1 kk => ?_
    unfold im_al64 at ho
    split at ho
    · rename_i x j k r'
      split at ho
      · rename_i M2 hM2
        cases ho
        exact im_as_ok hK hR hlo hM2 (w := .long x) rfl (fun cell hl h1 h2 h2' h3 h4 k => W.last hx hb h1 h2 h3 h4 rfl rfl (by rw [hdg, hl]) k) fun H' locs' q1 q2 => kk H' locs' cells slots q1 q2 (by rw [im_as_tot hM2]) (by rw [im_as_z hM2])
      · cases ho
    · cases ho
  | aastore =>
    refine wr h fun st' M' ho hc1 hs1 kk => ?_
    unfold im_aa at ho
    split at ho
    · rename_i v j k r'
      split at ho
      · rename_i ty hty
        split at ho
        · rename_i hv
          obtain ⟨hv8, hvl, hacp⟩ := hv
          split at ho
          · rename_i M2 hM2
            cases ho
            obtain ⟨cv, v1, v2⟩ := hR.at hvl (Or.inl hv8)
            obtain ⟨h30, C, T, N, hcl, hC⟩ := it_acp_ok hacp hty
            obtain ⟨w1, w2, w3⟩ := v2.obj h30
            obtain ⟨kA, comp, a1, a2, -, a3, -⟩ := hK.2 _ _ hty
            obtain ⟨hS, hfc, kC, hkC, hkind⟩ := hK.1 _ _ hcl
            have hcomp : comp = D.1 (M.2.1 v).1 := Option.some.inj ((a3 C hC).symm.trans hfc)
            refine im_as_ok hK hR hlo hM2 (w := .ref (im_ad base sp v)) rfl (fun cell hl h1 h2 h2' h3 h4 k => W.aast hx hb (comp := comp) (k := kA) (kv := kC) (kcomp := kC) (t := ty) h1 h2.1 h3 (by rw [h2']; exact a1) a2 (by rw [hC]; rfl) (by rw [hcomp]; exact hkC) ⟨fun q => h4 (Or.inl q), Nat.not_le.mp fun q => h4 (Or.inr q)⟩ v1 (by rw [w2]; exact fun q h => by cases h) (by rw [w1]; exact hkC) (by rw [w1, hcomp]; exact va_asg _ _) rfl rfl (by rw [hdg, hl]) k) fun H' locs' q1 q2 => kk H' locs' cells slots q1 q2 (by rw [im_as_tot hM2]) (by rw [im_as_z hM2])
          · cases ho
        · cases ho
      · cases ho
    · cases ho
  | ldc idx =>
    have h' : (if len = 2 then (match it_str y idx with | some k => some (((pc + 2, ls, .ref k :: st) : im_S), M) | none => none) else none) = some (r, M1) := h
    split at h'
    · rename_i hl
      split at h'
      · rename_i k hk
        cases h'
        obtain ⟨tx, hZ⟩ := hY.1 y idx k me hk hme
        have h8 : k < 8 := it_str_ok hk
        refine va_ldcS hx hb hown hZ (by rw [hdg, hl]) ?_
        have := kk H locs lr cells slots hR hlo hL rfl rfl
        simpa only [List.map_cons, im_v, im_ad, h8, if_true] using this
      · cases h'
    · cases h'
  | _ => exact other h
end SOUND
