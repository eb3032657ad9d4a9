/-! The abstract machine is right: the theorem. -/
section SOUND3
variable {p : Program} {l : Launch} {e : Env} {R : Room} {s : State} {m : MethodId} {args : Array Value} {below : List Frame} {meth : Method} {c : Code} {H : Heap} {locs : List Loc} {cells slots : Nat} {Q : State → Prop}
variable {D : va_G} {E : Nat → ClassId} {base : Nat} {sp : Nat → Nat} {H0 : Heap} {M : im_M}
/-- what the theorem says of n steps -/
def im_Snd (D : va_G) (E : Nat → ClassId) (base : Nat) (sp : Nat → Nat) (H0 : Heap) (l : Launch) (n : Nat) : Prop :=
  ∀ (d y pc : Nat) (ls st : List Value) (M : im_M) (o : im_O) (M' : im_M), im_run n d y pc ls st M = some (o, M') →
    ∀ (p : Program) (e : Env) (R : Room) (s : State) (m : MethodId) (args : Array Value) (below : List Frame) (meth : Method) (c : Code) (H : Heap) (locs : List Loc) (cells slots : Nat) (lr : Array Slot) (mc ms : Nat),
      im_Cx D E sp d y p l R s m meth c → im_St H0 base s → im_R it_nf D E base sp H0 M H → (∀ q ∈ locs, base ≤ q.base) → im_L (im_ad base sp) (im_max y) ls lr → R.cells = mc → R.slots = ms → cells + im_tot M' = mc + im_tot M → slots + M'.1.2.2 = ms + M.1.2.2 →
      W p l e R s m args below meth c H locs cells slots (im_MQ below (im_Qc D E base sp H0 o M') args s mc ms (im_free base)) (F0 m pc lr (st.map (im_v (im_ad base sp))))
theorem im_sl1 (vs : List Value) (h : ∀ v ∈ vs, v.category = 1) : lg_sl vs = vs.map Slot.val := by
  induction vs with
  | nil => rfl
  | cons v t ih =>
    have h1 : ¬ v.category = 2 := by rw [h v List.mem_cons_self]; decide
    have h2 := ih fun w hw => h w (List.mem_cons_of_mem _ hw)
    unfold lg_sl at h2 ⊢
    rw [List.flatMap_cons, h2, if_neg h1]
    rfl
/-- the locals at a method's start -/
theorem im_L.start {ad : Nat → Nat} {as : List Value} {n : Nat} (hc : ∀ v ∈ as, v.category = 1) (hn : as.length ≤ n) :
    im_L ad n (as ++ List.replicate (n - as.length) (.retAddr 0)) ((lg_sl (as.map (im_v ad)) ++ List.replicate (n - (lg_sl (as.map (im_v ad))).length) Slot.unset).toArray) := by
  have hc' : ∀ v ∈ as.map (im_v ad), v.category = 1 := fun v hv => by
    obtain ⟨w, hw, rfl⟩ := List.mem_map.mp hv
    rw [im_v_cat]; exact hc w hw
  have hsl := im_sl1 _ hc'
  have hlen : (lg_sl (as.map (im_v ad))).length = as.length := by rw [hsl]; simp
  have h1 := lv_entry (as.map (im_v ad)) (n := n) (by rw [hlen]; exact hn)
  refine ⟨by simp; omega, fun v hv => ?_, h1.1, h1.2.1, fun q hq => ?_⟩
  · rcases List.mem_append.mp hv with hv | hv
    · exact hc v hv
    · rw [(List.mem_replicate.mp hv).2]; rfl
  · obtain ⟨v, hv, hr, hq2⟩ := im_ll_mem.mp hq
    have hlt : q.1 < as.length := by
      refine Nat.lt_of_not_le fun hle => ?_
      rw [List.getElem?_append_right hle, List.getElem?_replicate] at hv
      split at hv
      · cases hv; exact hr rfl
      · cases hv
    rw [List.getElem?_append_left hlt] at hv
    have hv9 : as[q.1]? = some v := hv
    have hv8 : as[q.1] = v := (List.getElem?_eq_some_iff.mp hv9).2
    simp [hsl, hlt, hq2, List.getElem?_append, hv9, hv8]
/-- a method's contract, out of the theorem at n -/
theorem im_contract {n d z : Nat} {as : List Value} {o : im_O} {M' : im_M} {me : it_Me} (hS : im_Snd D E base sp H0 l n) (hme : it_met z = some me) (hl : l.stackTraces = false) (h : im_run n d z 0 (as ++ List.replicate (im_max z - as.length) (.retAddr 0)) [] M = some (o, M')) (hn : as.length ≤ im_max z) (hc : ∀ v ∈ as, v.category = 1) :
    im_Met l me.1 (im_ws z) (im_rm d (im_tot M' - im_tot M) (M'.1.2.2 - M.1.2.2)) (im_Pc D E base sp H0 as M) (im_Qc D E base sp H0 o M') (im_tot M' - im_tot M) (M'.1.2.2 - M.1.2.2) (im_free base) := by
  obtain ⟨k1, k2, k3, k4, k5⟩ := it_met_ok hme
  have hmono := im_run_mono _ _ _ _ _ _ _ _ _ h
  have hmax : im_max z = me.2.2.1 := by unfold im_max; rw [hme]
  have hin : Cond.code me.1 me.2.1 me.2.2.1 me.2.2.2.1 ∈ im_ws z ∨ ∃ hh, Cond.codeWith me.1 me.2.1 me.2.2.1 me.2.2.2.1 hh ∈ im_ws z := by
    unfold im_ws
    rw [hme]
    simp only
    split
    · exact Or.inl List.mem_cons_self
    · exact Or.inr ⟨_, List.mem_cons_self⟩
  refine im_Met.ofW (cc := me.2.1) (maxL := me.2.2.1) (ret := me.2.2.2.1) k3 hin ?_
  intro p e s m args below meth c s₁ B hml hP
  obtain ⟨ha, hR, hT, hK, hY, hSt⟩ := hP
  subst ha
  rw [lg_entry_eq, ← hmax]
  have hexc : c.exceptionTable.toList.map (fun h => (h.startPc, h.endPc, h.handlerPc, h.catchType)) = me.2.2.2.2 := by
    have hpre := atoms_spec (ws := im_ws z) B.pre
    unfold im_ws at hpre
    rw [hme] at hpre
    have hw := hpre _ List.mem_cons_self
    by_cases he : me.2.2.2.2 = []
    · simp only [he, if_true] at hw
      obtain ⟨meth', c', g1, g2, -, -, -, -, g3, -⟩ := Cond.code_spec B.named hw
      cases B.method.symm.trans g1
      have hcc : c' = c := by
        have h1 := B.here.code
        rw [State.code?_eq, B.method₁] at h1
        exact Option.some.inj (g2.symm.trans h1)
      subst hcc
      rw [he, List.map_eq_nil_iff]
      simpa using g3
    · simp only [he, if_false] at hw
      obtain ⟨m9, meth', c', hn9, g1, g2, -, -, g3, -⟩ := Cond.codeWith_spec hw
      cases B.named.symm.trans hn9
      cases B.method.symm.trans g1
      have hcc : c' = c := by
        have h1 := B.here.code
        rw [State.code?_eq, B.method₁] at h1
        exact Option.some.inj (g2.symm.trans h1)
      subst hcc
      exact g3
  exact hS d z 0 _ [] M o M' h p e _ s m _ below meth c s.heap [] 0 0 _ _ _
    ⟨me, hme, B.exec, B.bytes, hml, findClass_of_methodNamed B.named, B.returns, B.notSynchronized, (name_of_methodNamed B.named B.method).1, hexc, hl, hT, hK, hY, Nat.le_refl _, Nat.le_refl _⟩
    hSt hR (fun q hq => by cases hq) (im_L.start hc hn) rfl rfl (by omega) (by omega)
theorem im_word {args a' : Array Value} {s U : State} {w : Cond} (hW : s.WarmedH U.vm) (hg : goodWord w = true) (h : w.before args s = true) : w.before a' U = true := word_at hW (good_of_word hg) h
theorem im_ws_in {z : Nat} {me : it_Me} (hme : it_met z = some me) (hT : im_T s) : ∀ w ∈ im_ws z, ∀ (a' : Array Value) (U : State), s.WarmedH U.vm → w.before a' U = true := by
  intro w hw a' U hW
  obtain ⟨k1, -⟩ := it_met_ok hme
  unfold im_ws at hw
  rw [hme] at hw
  have hw2 := List.mem_singleton.mp hw
  have hin : w ∈ it_tb := by rw [hw2]; exact k1
  exact im_word hW (by rw [hw2]; split <;> rfl) (hT w hin a')
theorem im_split {st As : List Value} {b k : Nat} (hk : k < st.length) (h : (st.take (k + 1)).reverse = .ref b :: As) : st = As.reverse ++ .ref b :: st.drop (k + 1) ∧ As.length = k := by
  have h2 : st.take (k + 1) = As.reverse ++ [.ref b] := by
    rw [← List.reverse_reverse (st.take (k + 1)), h, List.reverse_cons]
  have hl := congrArg List.length h
  rw [List.length_reverse, List.length_take, Nat.min_eq_left hk] at hl
  refine ⟨?_, by simpa using hl.symm⟩
  conv => lhs; rw [← List.take_append_drop (k + 1) st, h2]
  simp
theorem im_room {a d r k : Nat} (h1 : a ≤ 60) (h2 : 100 * (d + 1) + k ≤ r) : 8 + (a + 11) + (100 * d + k) ≤ r := by omega
theorem im_Pc_blind {as : List Value} {a : Array Value} {U : State} {g : JFrame} {mk : MethodId} (h : im_Pc D E base sp H0 as M a U) : im_Pc D E base sp H0 as M a (U.calling g mk a) := by
  obtain ⟨h1, h2, h3, h4, ⟨h5, h6⟩, h7, h8⟩ := h
  have hW : U.WarmedH (U.calling g mk a).vm := State.WarmedH.refl U
  exact ⟨h1, h2, fun w hw A => it_tb_word hW hw (h3 w hw A), h4.moved hW.alike, ⟨fun y idx k me e1 e2 => (by
    obtain ⟨tx, e3⟩ := h5 y idx k me e1 e2
    exact ⟨tx, vk_R.warm hW e3⟩), fun a b ha hb hab => (h6 a b ha hb hab).moved hW.alike⟩, h7, h8.moved hW⟩
/-- a call and what comes behind it -/
theorem im_call_ok {n d y pc len z : Nat} {i : Instr} {ls st as rest : List Value} {lr : Array Slot} {o1 : im_O} {M1 : im_M} (hS : im_Snd D E base sp H0 l n) (hC : im_Cx D E sp (d + 1) y p l R s m meth c) (hSt : im_St H0 base s) (hR : im_R it_nf D E base sp H0 M H) (hlo : ∀ q ∈ locs, base ≤ q.base) (hL : im_L (im_ad base sp) (im_max y) ls lr)
    (hdg : decode c.code pc = .ok (i, len)) (h : im_call y i len st = some (z, as, rest)) (hrv : im_recv i z as M = true) (hn : as.length ≤ im_max z) (hgo : im_run n d z 0 (as ++ List.replicate (im_max z - as.length) (.retAddr 0)) [] M = some (o1, M1))
    (hcells : cells + (im_tot M1 - im_tot M) ≤ R.cells) (hslots : slots + (M1.1.2.2 - M.1.2.2) ≤ R.slots)
    (kk : ∀ (H' : Heap) (locs' : List Loc), im_R it_nf D E base sp H0 M1 H' → (∀ q ∈ locs', base ≤ q.base) → (∀ v, o1 = .inl v → W p l e R s m args below meth c H' locs' (cells + (im_tot M1 - im_tot M)) (slots + (M1.1.2.2 - M.1.2.2)) Q (F0 m (pc + 3) lr ((v.toList ++ rest).map (im_v (im_ad base sp))))) ∧
      ∀ q, o1 = .inr q → 8 ≤ q.2 → q.1 < 3 → ∀ cell : Cell, H'[im_ad base sp q.2]? = some cell → cell.vm = .none → s.vm.findClass (it_ecn q.1) = some cell.cls → ∀ T : State, T.heap = H' → Stand p l e R s m args below meth c T locs' (cells + (im_tot M1 - im_tot M)) (slots + (M1.1.2.2 - M.1.2.2)) → ∃ t, Steps p.tables e below ((T.setTop (F0 m pc lr (rest.map (im_v (im_ad base sp))))).pushFrame (.throwing (im_ad base sp q.2))) t ∧ Q t) :
    W p l e R s m args below meth c H locs cells slots Q (F0 m pc lr (st.map (im_v (im_ad base sp)))) := by
  obtain ⟨me, hme, hx, hb, hml, hown, hret, hlocks, hname, hexc, htr, hT, hK, hY, hfr, hlc⟩ := hC
  have hmax : im_max y = me.2.2.1 := by unfold im_max; rw [hme]
  have hcat : ∀ v ∈ as, v.category = 1 := by
    intro v hv
    have hall : as.all im_c1 = true := by
      unfold im_recv at hrv
      split at hrv
      · exact hrv
      · exact (Bool.and_eq_true _ _ ▸ hrv).1
    simpa [im_c1] using List.all_eq_true.mp hall v hv
  intro T hTH X
  -- the callee
  have core : ∀ (mz : it_Me), it_met z = some mz → im_Bk l R p e below s args mz.1 3 8 (im_tot M1 - im_tot M) (M1.1.2.2 - M.1.2.2) (im_Pc D E base sp H0 as M) (im_Qc D E base sp H0 o1 M1) (im_free base) := by
    intro mz hmz
    obtain ⟨k1, k2, k3, k4, k5⟩ := it_met_ok hmz
    have hin : Cond.code mz.1 mz.2.1 mz.2.2.1 mz.2.2.2.1 ∈ im_ws z ∨ ∃ hh, Cond.codeWith mz.1 mz.2.1 mz.2.2.1 mz.2.2.2.1 hh ∈ im_ws z := by
      unfold im_ws
      rw [hmz]
      simp only
      split
      · exact Or.inl List.mem_cons_self
      · exact Or.inr ⟨_, List.mem_cons_self⟩
    refine im_pay (bytes := mz.2.1) (maxL := mz.2.2.1) (ret := mz.2.2.2.1) (im_contract hS hmz htr hgo hn hcat) (fun a U g mk h => im_Pc_blind h) rfl rfl ?_ ?_ (im_ws_in hmz hT) hin (fun a' U hW => im_word hW rfl (hT _ k2 a'))
    · show d + 40 + 1 ≤ R.frames
      omega
    · show 8 + (mz.2.2.1 + 11) + (100 * d + 4000) ≤ R.locals
      exact im_room k5 hlc
  have hpre : ∀ vm₁, s.WarmedH vm₁ → im_Pc D E base sp H0 as M (as.map (im_v (im_ad base sp))).toArray (T.setVm vm₁) := by
    intro vm₁ hW
    have hW' : s.WarmedH (T.setVm vm₁).vm := hW
    refine ⟨rfl, by show im_R it_nf D E base sp H0 M T.heap; rw [hTH]; exact hR, fun w hw A => it_tb_word hW' hw (hT w hw A), hK.moved hW'.alike, ⟨fun y idx k me h1 h2 => ?_, fun a b ha hb hab => (hY.2 a b ha hb hab).moved hW'.alike⟩, ⟨⟨hSt.1.1, ?_, ?_⟩, hSt.2.moved hW'⟩⟩
    · obtain ⟨tx, h3⟩ := hY.1 y idx k me h1 h2
      exact ⟨tx, vk_R.warm hW' h3⟩
    · show ∀ q, q < base → T.heap[q]? = H0[q]?
      rw [hTH]; exact hR.2.2.1
    · show ∀ (q : Nat) (cell : Cell), base ≤ q → T.heap[q]? = some cell → cell.vm.isStatics = false
      rw [hTH]; exact hR.2.2.2.2.1
  have fin : im_Cr p l e R s m args below meth c T locs cells slots (im_tot M1 - im_tot M) (M1.1.2.2 - M.1.2.2) (F0 m pc lr (st.map (im_v (im_ad base sp)))) (rest.map (im_v (im_ad base sp))) (as.map (im_v (im_ad base sp))).toArray (im_Qc D E base sp H0 o1 M1) (im_free base) → ∃ t, Steps p.tables e below (T.setTop (F0 m pc lr (st.map (im_v (im_ad base sp))))) t ∧ Q t := by
    rintro ⟨o, st0, t, V, L, XV, v1, v2, v3, v4, ⟨q1, q2, q3⟩, hLf, hsteps⟩
    have hRV : im_R it_nf D E base sp H0 M1 V.heap := by rw [v1]; exact q2
    have hlo' : ∀ q ∈ locs ++ L, base ≤ q.base := fun q hq => (List.mem_append.mp hq).elim (hlo q) (hLf q)
    obtain ⟨kr, kt⟩ := kk V.heap (locs ++ L) hRV hlo'
    cases o1 with
    | inl v =>
      subst q1
      obtain ⟨t2, a1, b1⟩ := kr v rfl V rfl XV
      refine ⟨t2, hsteps t2 ?_, b1⟩
      cases v with
      | none => exact a1
      | some v => exact a1
    | inr q =>
      subst q1
      obtain ⟨h8, hec, cell, g1, g2, g3⟩ := q3 q rfl
      obtain ⟨t2, a1, b1⟩ := kt q rfl h8 hec cell (by rw [v1]; exact g1) g2 (by rw [← v4.findClass]; exact g3) V rfl XV
      exact ⟨t2, hsteps t2 a1, b1⟩
  refine fin ?_
  have hszl : lr.size = c.maxLocals := by rw [hL.size, hml]; exact hmax
  unfold im_call at h
  split at h
  · rename_i hl
    subst hl
    split at h
    · rename_i idx
      split at h
      · rename_i q hq
        split at h
        · rename_i hq1
          obtain ⟨hq0, hqn, hqs⟩ := hq1
          cases h
          obtain ⟨mz, hmz, hlen, hlk, hv0, -, -⟩ := it_cal_ok hq hme
          obtain ⟨hin1, hin2, hnil, ci, T0, N0, hmc, hci, h30⟩ := hv0 hq0
          obtain ⟨k1, k2, k3, k4, k5⟩ := it_met_ok hmz
          rw [if_pos hnil] at k1
          unfold im_recv at hrv
          rw [Bool.and_eq_true] at hrv
          split at hrv
          · rename_i b As has
            have hb9 := of_decide_eq_true hrv.2
            obtain ⟨hb8, hbl, hbk⟩ := hb9
            obtain ⟨e1, e2⟩ := im_split hqn has
            rw [hmc] at hbk
            have hbk' : (M.2.1 b).1 = ci := (Option.some.inj hbk).symm
            obtain ⟨cell, g1, g2⟩ := hR.at hbl (Or.inl hb8)
            obtain ⟨o1', o2', o3'⟩ := g2.obj (by rw [hbk']; exact h30)
            have hfc := (hK.1 _ _ hci).2.1
            have := im_cV (C := mz.1.cls) (b := im_ad base sp b) (argsL := As.map (im_v (im_ad base sp))) (rest := (st.drop (q.2.2.1 + 1)).map (im_v (im_ad base sp))) (g := F0 m pc lr (st.map (im_v (im_ad base sp)))) X hx (core mz hmz) (host := q.2.2.2) hown (by
              cases hh : q.2.2.2 with
              | none => rw [hh] at hlk; exact hT _ hlk _
              | some h9 => rw [hh] at hlk; exact hT _ hlk _) (hT _ hin1 _) (hT _ hin2 _) (hT _ k1 _) k4 (by rw [hlen, List.length_map, e2]) (by rw [hTH]; exact g1) (by rw [o2']; rfl) (by rw [o1', hbk']; exact hfc) rfl hszl (by
                show st.map (im_v (im_ad base sp)) = _
                conv => lhs; rw [e1]
                simp [im_v]) (by rw [im_catsum]; show 2 * 0 + _ ≤ 8; omega) hdg hcells hslots (by
                intro vm₁ hW
                have := hpre vm₁ hW
                rw [has] at this ⊢
                exact this)
            rw [has]
            exact this
          · exact absurd hrv.2 (by decide)
        · cases h
      · cases h
    · rename_i idx
      split at h
      · rename_i q hq
        split at h
        · rename_i hq1
          obtain ⟨hq0, hqn, hqs⟩ := hq1
          cases h
          obtain ⟨mz, hmz, hlen, hlk, -, hv0, -⟩ := it_cal_ok hq hme
          obtain ⟨k1, k2, k3, k4, k5⟩ := it_met_ok hmz
          refine im_cS (argsL := (st.take q.2.2.1).reverse.map (im_v (im_ad base sp))) (rest := (st.drop q.2.2.1).map (im_v (im_ad base sp))) (g := F0 m pc lr (st.map (im_v (im_ad base sp)))) (bytes := mz.2.1) (maxL := mz.2.2.1) (ret := mz.2.2.2.1) X hx (core mz hmz) (host := q.2.2.2) hown (by
              cases hh : q.2.2.2 with
              | none => rw [hh] at hlk; exact hT _ hlk _
              | some h9 => rw [hh] at hlk; exact hT _ hlk _) (hT _ (hv0 hq0) _) (hT _ k2 _) ?_ k4 (by rw [hlen, List.length_map, List.length_reverse, List.length_take, Nat.min_eq_left hqn]) rfl hszl (by
                show st.map (im_v (im_ad base sp)) = _
                conv => lhs; rw [← List.take_append_drop q.2.2.1 st]
                simp) (by rw [im_catsum]; show 2 * 0 + _ ≤ 8; omega) hdg hcells hslots hpre
          by_cases hnil : mz.2.2.2.2 = []
          · rw [if_pos hnil] at k1
            exact Or.inl (hT _ k1 _)
          · rw [if_neg hnil] at k1
            exact Or.inr ⟨_, hT _ k1 _⟩
        · cases h
      · cases h
    · rename_i idx
      split at h
      · rename_i q hq
        split at h
        · rename_i hq1
          obtain ⟨hq0, hqn, hqs⟩ := hq1
          cases h
          obtain ⟨mz, hmz, hlen, hlk, -, -, hv0⟩ := it_cal_ok hq hme
          obtain ⟨hy1, hin1, hnil, hrt⟩ := hv0 hq0
          obtain ⟨k1, k2, k3, k4, k5⟩ := it_met_ok hmz
          rw [if_pos hnil, hrt] at k1
          unfold im_recv at hrv
          rw [Bool.and_eq_true] at hrv
          split at hrv
          · rename_i b As has
            obtain ⟨e1, e2⟩ := im_split hqn has
            have := im_cI (b := im_ad base sp b) (argsL := As.map (im_v (im_ad base sp))) (rest := (st.drop (q.2.2.1 + 1)).map (im_v (im_ad base sp))) (g := F0 m pc lr (st.map (im_v (im_ad base sp)))) X hx (core mz hmz) (host := q.2.2.2) hown hy1 (by
              cases hh : q.2.2.2 with
              | none => rw [hh] at hlk; exact hT _ hlk _
              | some h9 => rw [hh] at hlk; exact hT _ hlk _) (hT _ hin1 _) (hT _ k1 _) k4 (by rw [hlen, List.length_map, e2]) rfl hszl (by
                show st.map (im_v (im_ad base sp)) = _
                conv => lhs; rw [e1]
                simp [im_v]) (by rw [im_catsum]; show 2 * 0 + _ ≤ 8; omega) hdg hcells hslots (by
                intro vm₁ hW
                have := hpre vm₁ hW
                rw [has] at this ⊢
                exact this)
            rw [has]
            exact this
          · exact absurd hrv.2 (by decide)
        · cases h
      · cases h
    · cases h
  · cases h
theorem im_sound (l : Launch) : ∀ n, im_Snd D E base sp H0 l n := by
  intro n
  induction n with
  | zero => intro d y pc ls st M o M' h; cases h
  | succ n ih =>
    intro d y pc ls st M o M' h p e R s m args below meth c H locs cells slots lr mc ms hC hSt hR hlo hL hRc hRs hcells hslots
    obtain ⟨me, hme, hx, hb, hml, hown, hret, hlocks, hname, hexc, htr, hT, hK, hY, hfr, hlc⟩ := id hC
    have hmax : im_max y = me.2.2.1 := by unfold im_max; rw [hme]
    rw [im_run] at h
    unfold im_F at h
    split at h
    · cases h
    · rename_i i len hdec
      have hdg : decode c.code pc = .ok (i, len) := by rw [hb]; exact im_dec_ok hme hdec
      split at h
      · rename_i v hv
        cases h
        exact im_ret_ok hC hR hlo hdg hv (by omega) (by omega)
      · split at h
        · rename_i ec hec
          split at h
          · rename_i hst
            cases h
            simp only [im_tot, im_dead] at hcells hslots
            exact im_thr_ok hC hSt hR hlo (by rw [hL.size, hml]; exact hmax) hec hst (by omega) (by omega) (by omega) (by omega)
          · cases h
        · split at h
          · rename_i st' hp
            have m2 := im_run_mono _ _ _ _ _ _ _ _ _ h
            exact im_prim_ok hC hSt hR hlo hL hdg hp (by omega) (by omega) (ih d y (pc + 3) ls st' M o M' h p e R s m args below meth c H locs cells slots lr mc ms hC hSt hR hlo hL hRc hRs hcells hslots)
          · split at h
            · rename_i z as rest hcall
              split at h
              · cases h
              · rename_i d'
                split at h
                · rename_i hck
                  split at h
                  · rename_i v M1 hgo
                    have m1 := im_run_mono _ _ _ _ _ _ _ _ _ hgo
                    have m2 := im_run_mono _ _ _ _ _ _ _ _ _ h
                    refine im_call_ok ih hC hSt hR hlo hL hdg hcall hck.2 hck.1 hgo (by omega) (by omega) fun H' locs' hR' hlo' => ⟨fun v' hv' => ?_, fun q hq => (by cases hq)⟩
                    cases hv'
                    exact ih (d' + 1) y (pc + 3) ls (v.toList ++ rest) M1 o M' h p e R s m args below meth c H' locs' _ _ lr mc ms hC hSt hR' hlo' hL hRc hRs (by omega) (by omega)
                  · rename_i q M1 hgo
                    have m1 := im_run_mono _ _ _ _ _ _ _ _ _ hgo
                    split at h
                    · rename_i hp hh
                      have m2 := im_run_mono _ _ _ _ _ _ _ _ _ h
                      refine im_call_ok ih hC hSt hR hlo hL hdg hcall hck.2 hck.1 hgo (by omega) (by omega) fun H' locs' hR' hlo' => ⟨fun v' hv' => (by cases hv'), fun q' hq' h8 hec cell c1 c2 c3 T hT' X => ?_⟩
                      cases hq'
                      refine im_catch_ok hC hh hec c1 c2 c3 ?_ T hT' X
                      exact ih (d' + 1) y hp ls [.ref q.2] M1 o M' h p e R s m args below meth c H' locs' _ _ lr mc ms hC hSt hR' hlo' hL hRc hRs (by omega) (by omega)
                    · split at h
                      · rename_i hno
                        cases h
                        refine im_call_ok ih hC hSt hR hlo hL hdg hcall hck.2 hck.1 hgo (by omega) (by omega) fun H' locs' hR' hlo' => ⟨fun v' hv' => (by cases hv'), fun q' hq' h8 hec cell c1 c2 c3 T hT' X => ?_⟩
                        cases hq'
                        have hnil : c.exceptionTable.toList = [] := by
                          unfold im_nohand at hno
                          rw [hme] at hno
                          have h9 : me.2.2.2.2 = [] := by simpa using hno
                          rw [h9] at hexc
                          exact List.map_eq_nil_iff.mp hexc
                        have X2 := stand_widen X (k := mc) (n := ms) (by omega) (by omega)
                        obtain ⟨st1, hrun, hend, hW, hsm⟩ := X2.leaveThrown (im_ad base sp q.2) (g := F0 m pc lr (rest.map (im_v (im_ad base sp)))) rfl rfl rfl (by rw [hnil]; intro x hx'; cases hx') hlocks
                        refine ⟨_, st1, _, hrun, hend, ⟨rfl, by show im_R it_nf D E base sp H0 _ T.heap; rw [hT']; exact hR', fun q2 hq2 => ?_⟩, locs', ⟨hW, hsm⟩, hlo'⟩
                        cases hq2
                        exact ⟨h8, hec, cell, by show T.heap[_]? = _; rw [hT']; exact c1, c2, c3⟩
                      · cases h
                  · cases h
                · cases h
            · split at h
              · rename_i r M1 hns
                have m1 := im_ns_mono hns
                have m2 := im_run_mono _ _ _ _ _ _ _ _ _ h
                refine im_ns_ok hC hR hlo hL hdg hns (by omega) (by omega) fun H' locs' lr' cells' slots' hR' hlo' hL' hc' hs' => ?_
                exact ih d y r.1 r.2.1 r.2.2 M1 o M' h p e R s m args below meth c H' locs' cells' slots' lr' mc ms hC hSt hR' hlo' hL' hRc hRs (by omega) (by omega)
              · cases h
end SOUND3
