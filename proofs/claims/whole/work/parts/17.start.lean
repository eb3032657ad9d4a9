/-! The law's start: from the Statement's words to the machine. -/
def it_M0 (L : Nat) (xs : Nat → Int32) : im_M := ((8, 0, 0), (fun k => if k = 0 then (39, L) else (0, 0)), (fun k j => if k = 0 then .int (xs j) else .null))
def it_ins : List Nat := [66, 95, 121, 115, 165, 221, 215, 207, 304, 297, 335, 58, 849]
theorem it_ins_all : (List.range 13).all (fun ci => match it_cl[ci]? with | some q => it_wd (it_ins.getD ci 99999) (.instantiable q.1 (it_nsl ci)) | none => false) = true := by decide +kernel
theorem it_over_all : (it_wd 303 (.arrayOver (.object "IssueFold$Message")) && it_wd 206 (.arrayOver (.object "IssueFold$Site")) && it_wd 213 (.arrayOver (.array .int))) = true := by decide +kernel
theorem it_stat_in : (Cond.laysStatic Jvm.Bundle.tN "UNASSIGNED_STACK" Jvm.Bundle.steD) ∈ lw_tbl ∧ (Cond.laysStatic Jvm.Bundle.tN "SUPPRESSED_SENTINEL" Jvm.Bundle.listD) ∈ lw_tbl ∧ (Cond.initialized Jvm.Bundle.tN) ∈ lw_tbl := ⟨List.mem_of_getElem? (i := 547) (by decide +kernel), List.mem_of_getElem? (i := 549) (by decide +kernel), List.mem_of_getElem? (i := 45) (by decide +kernel)⟩
theorem it_given : ([.isRef (.static Jvm.Bundle.tN "UNASSIGNED_STACK" Jvm.Bundle.steD), .isRef (.static Jvm.Bundle.tN "SUPPRESSED_SENTINEL" Jvm.Bundle.listD), .exactly (.string "IssueFold$Reader" 19) "java/lang/String", .exactly (.string "IssueFold$Reader" 21) "java/lang/String",
  .not (.castable (it_ecn 0) (it_ecn 1)), .not (.castable (it_ecn 0) (it_ecn 2)), .not (.castable (it_ecn 1) (it_ecn 0)), .not (.castable (it_ecn 1) (it_ecn 2)), .not (.castable (it_ecn 2) (it_ecn 0)), .not (.castable (it_ecn 2) (it_ecn 1))] : List Cond).all (fun w => decide (w ∈ flatC (Jvm.Cond.and given_1 narrow_1))) = true := by decide +kernel
def R_law : String := "IssueFoldLaw"
def lw_P (b : Addr) (xs : List Int32) (args : Array Value) (s : State) : Prop := args = #[.ref b] ∧ s.IntsAt b xs ∧ xs.length ≤ 3072 ∧ (Jvm.Cond.and given_1 narrow_1).before args s = true
def lw_Q (_ : Array Value) (s : State) (o : Outcome) (t : State) : Prop := o = .returned (some (.int 1)) ∧ Framed s o t [] 601024 7293034
def lw_Z (below : List Frame) (a : Array Value) (s : State) : State → Prop := fun t => ∃ o, t.status = .running ∧ Ended t below o ∧ lw_Q a s o t
def lw_At (p : Program) (s : State) (m : MethodId) (meth : Method) (c : Code) (b L : Nat) (xs : Nat → Int32) : Prop :=
  p.tables.exec = Jvm.exec ∧ c.code = code ∧ meth.sig.returnType = ret ∧ c.maxLocals = 7 ∧ s.vm.findClass R_law = some m.cls ∧ (∀ w ∈ lw_tbl, w.before #[Value.ref b] s = true) ∧ va_X b L xs s s.heap ∧ b < s.heap.size ∧ meth.locks = false ∧ (Jvm.Cond.and given_1 narrow_1).before #[Value.ref b] s = true
theorem it_start {p : Program} {e : Env} {s : State} {m : MethodId} {below : List Frame} {meth : Method} {c : Code} (l : Launch) {b L : Nat} {xs : Nat → Int32} (hl : l.stackTraces = false) (C0 : lw_At p s m meth c b L xs) (hcw : (Cond.code x code maxLocals ret).before #[Value.ref b] s = true) (hnm : meth.name = "law") (hex : c.exceptionTable.toList = []) {n : Nat} {M' : im_M}
    (hgo : im_run n 30 0 0 ([.ref 0] ++ List.replicate 6 (.retAddr 0)) [] (it_M0 L xs) = some (.inl (some (.int 1)), M')) (hc : im_tot M' ≤ 601032) (hs : M'.1.2.2 ≤ 7293034) :
    W p l e room_1 s m #[Value.ref b] below meth c s.heap [] 0 0 (lw_Z below #[Value.ref b] s) (entryFrame m ([Value.ref b] : List Value).toArray 7) := by
  obtain ⟨hx, hb, hret, hml, hown, hts, hX, hbl, hlocks, hgv⟩ := C0
  obtain ⟨scr, x1, x2, x3, x4, x5⟩ := hX
  have hg : ∀ w ∈ ([.isRef (.static Jvm.Bundle.tN "UNASSIGNED_STACK" Jvm.Bundle.steD), .isRef (.static Jvm.Bundle.tN "SUPPRESSED_SENTINEL" Jvm.Bundle.listD), .exactly (.string "IssueFold$Reader" 19) "java/lang/String", .exactly (.string "IssueFold$Reader" 21) "java/lang/String",
  .not (.castable (it_ecn 0) (it_ecn 1)), .not (.castable (it_ecn 0) (it_ecn 2)), .not (.castable (it_ecn 1) (it_ecn 0)), .not (.castable (it_ecn 1) (it_ecn 2)), .not (.castable (it_ecn 2) (it_ecn 0)), .not (.castable (it_ecn 2) (it_ecn 1))] : List Cond), w.before #[Value.ref b] s = true := fun w hw => flat_of_before _ hgv w (of_decide_eq_true (List.all_eq_true.mp it_given w hw))
  have hW0 : s.WarmedH s.vm := State.WarmedH.refl s
  have hT : im_T s := by
    intro w hw A
    have hw' := List.mem_filter.mp hw
    refine it_mv_word hW0 hw'.2 (A := #[Value.ref b]) ?_
    rcases List.mem_cons.mp hw'.1 with h | h
    · rw [h]; exact hcw
    · exact hts w h
  -- classes
  have hD : ∀ ci : Nat, ∃ q : ClassId × (Nat → Nat), ∀ r : vw_C, it_cl[ci]? = some r → u_Kn s r.1 r.2.1 r.2.2 q.1 q.2 := by
    intro ci
    cases hci : it_cl[ci]? with
    | none => exact ⟨(0, fun _ => 0), fun r h => by cases h⟩
    | some r =>
      obtain ⟨C, T, N⟩ := r
      obtain ⟨k1, -, -⟩ := it_cl_ok hci
      have hlt : ci < 13 := (List.getElem?_eq_some_iff.mp hci).1
      have hi := List.all_eq_true.mp it_ins_all ci (List.mem_range.mpr hlt)
      rw [hci] at hi
      obtain ⟨cC, iS, h⟩ := u_known (ws := it_tb) (args := #[]) (T := T) (N := N) (fun w hw => hT w hw _) (fun w hw => by
        obtain ⟨k, hk, rfl⟩ := List.mem_map.mp hw
        exact (k1 k (List.mem_range.mp hk)).1) (hT _ (it_wd_in hi) _)
      exact ⟨(cC, iS), fun r hr => by cases hr; exact h⟩
  have hE : ∀ kd : Nat, ∃ cA : ClassId, ∀ ty : FieldType, it_aty kd = some ty → ∃ (kA : Class) (comp : ClassId), s.vm.classes[cA]? = some kA ∧ kA.kind = .array comp ty ∧ (kd ≠ 39 → s.vm.findClass ("[" ++ ty.toString) = some cA) ∧ (∀ C, ty = .object C → s.vm.findClass C = some comp) ∧ (∀ t, ty = .array t → s.vm.findClass (FieldType.array t).toString = some comp) ∧ (kd = 39 → cA = scr.cls) := by
    have wa := it_ac_all
    have wo := it_over_all
    simp only [Bool.and_eq_true] at wa wo
    have prim : ∀ ty, Cond.arrayClass ty ∈ it_tb → ∃ cA kA comp, s.vm.findClass ("[" ++ ty.toString) = some cA ∧ s.vm.classes[cA]? = some kA ∧ kA.kind = .array comp ty := fun ty h => Cond.arrayClass_spec (hT _ h #[])
    intro kd
    unfold it_aty
    split
    · obtain ⟨cA, kA, comp, f1, f2, f3⟩ := prim .int (it_wd_in wa.1.1.1)
      exact ⟨cA, fun ty h => by cases h; exact ⟨kA, comp, f2, f3, fun _ => f1, fun C h => (by cases h), fun t h => (by cases h), fun h => (by cases h)⟩⟩
    · obtain ⟨cA, kA, comp, f1, f2, f3⟩ := prim .char (it_wd_in wa.1.1.2)
      exact ⟨cA, fun ty h => by cases h; exact ⟨kA, comp, f2, f3, fun _ => f1, fun C h => (by cases h), fun t h => (by cases h), fun h => (by cases h)⟩⟩
    · obtain ⟨cA, kA, comp, f1, f2, f3⟩ := prim .boolean (it_wd_in wa.1.2)
      exact ⟨cA, fun ty h => by cases h; exact ⟨kA, comp, f2, f3, fun _ => f1, fun C h => (by cases h), fun t h => (by cases h), fun h => (by cases h)⟩⟩
    · obtain ⟨cA, kA, comp, f1, f2, f3⟩ := prim .long (it_wd_in wa.2)
      exact ⟨cA, fun ty h => by cases h; exact ⟨kA, comp, f2, f3, fun _ => f1, fun C h => (by cases h), fun t h => (by cases h), fun h => (by cases h)⟩⟩
    · obtain ⟨comp, cA, kA, f1, -, f2, f3, f4⟩ := Cond.arrayOver_spec (hT _ (it_wd_in wo.1.1) #[])
      exact ⟨cA, fun ty h => by cases h; exact ⟨kA, comp, f2, f3, fun _ => f4, fun C h => (by cases h; exact f1), fun t h => (by cases h), fun h => (by cases h)⟩⟩
    · obtain ⟨comp, cA, kA, f1, -, f2, f3, f4⟩ := Cond.arrayOver_spec (hT _ (it_wd_in wo.1.2) #[])
      exact ⟨cA, fun ty h => by cases h; exact ⟨kA, comp, f2, f3, fun _ => f4, fun C h => (by cases h; exact f1), fun t h => (by cases h), fun h => (by cases h)⟩⟩
    · obtain ⟨comp, cA, kA, f1, -, f2, f3, f4⟩ := arrayOverA_spec (hT _ (it_wd_in wo.2) #[])
      exact ⟨cA, fun ty h => by cases h; exact ⟨kA, comp, f2, f3, fun _ => f4, fun C h => (by cases h), fun t h => (by cases h; exact f1), fun h => (by cases h)⟩⟩
    · obtain ⟨-, kA, f2, comp, f3⟩ := x2
      exact ⟨scr.cls, fun ty h => by cases h; exact ⟨kA, comp, f2, f3, fun h => absurd rfl h, fun C h => (by cases h), fun t h => (by cases h), fun _ => rfl⟩⟩
    · exact ⟨0, fun ty h => by cases h⟩
  obtain ⟨D1, hD1⟩ := Classical.axiomOfChoice hD
  obtain ⟨E, hE1⟩ := Classical.axiomOfChoice hE
  have hK : im_K it_cl it_aty (fun ci => (D1 ci).1, fun ci => (D1 ci).2) E s := by
    refine ⟨fun ci q hq => hD1 ci q hq, fun kd ty hty => ?_⟩
    obtain ⟨kA, comp, f1, f2, f3, f4, f5, -⟩ := hE1 kd ty hty
    exact ⟨kA, comp, f1, f2, f3, f4, f5⟩
  -- texts
  obtain ⟨a19, -, c19, -, t19, -, h19, -⟩ := Cond.exactly_spec (hg (.exactly (.string "IssueFold$Reader" 19) "java/lang/String") (by simp))
  obtain ⟨a21, -, c21, -, t21, -, h21, -⟩ := Cond.exactly_spec (hg (.exactly (.string "IssueFold$Reader" 21) "java/lang/String") (by simp))
  have hst : it_sts.all (fun r => it_wd r.2 (.stringRef (it_own r.1.1.1) r.1.1.2 r.1.2.2)) = true := by decide +kernel
  have hY : im_Y (fun k => if k = 0 then b else if k = 1 then a21 else a19) s := by
    intro y idx k me hk hme
    unfold it_str at hk
    rw [Option.map_eq_some_iff] at hk
    obtain ⟨q, hq, rfl⟩ := hk
    obtain ⟨r, hr, he⟩ := List.mem_map.mp (it_lk hq)
    have hw := List.all_eq_true.mp hst r hr
    rw [he, it_own_ok hme] at hw
    have hword := hT _ (it_wd_in hw) #[]
    refine ⟨q.2, hword, ?_⟩
    have hor : r = (((2, 19), (2, "pnus")), 71) ∨ r = (((2, 21), (1, "pnuro")), 72) := by simpa [it_sts] using hr
    have hcls : me.1.cls = it_own (it_ow y) := (it_own_ok hme).symm
    rcases hor with rfl | rfl
    · simp only [Prod.mk.injEq] at he
      obtain ⟨⟨h1, h2⟩, h3⟩ := he
      subst h2
      subst h3
      rw [hcls, ← h1]
      exact t19
    · simp only [Prod.mk.injEq] at he
      obtain ⟨⟨h1, h2⟩, h3⟩ := he
      subst h2
      subst h3
      rw [hcls, ← h1]
      exact t21
  have hN : im_N s := by
    intro a1 b1 ha hb' hab
    have nc : ∀ i j, (Cond.not (.castable (it_ecn i) (it_ecn j))).before #[Value.ref b] s = true → va_Nc (it_ecn i) (it_ecn j) s := fun i j h => va_Nc.of h
    have ha3 : a1 = 0 ∨ a1 = 1 ∨ a1 = 2 := by omega
    have hb3 : b1 = 0 ∨ b1 = 1 ∨ b1 = 2 := by omega
    rcases ha3 with rfl | rfl | rfl <;> rcases hb3 with rfl | rfl | rfl <;> first | exact absurd rfl hab | exact nc _ _ (hg _ (by simp))
  have hA : im_A s.heap.size s.heap s.heap := ⟨rfl, fun _ _ => rfl, fun q cell hq hcell => absurd (Array.getElem?_eq_some_iff.mp hcell).1 (Nat.not_lt.mpr hq)⟩
  have sl : ∀ nm d, (Cond.laysStatic Jvm.Bundle.tN nm d) ∈ lw_tbl → (Cond.isRef (.static Jvm.Bundle.tN nm d)).before #[Value.ref b] s = true → im_Sl Jvm.Bundle.tN nm d s.heap s := by
    intro nm d h1 h2
    obtain ⟨c, k, i, f, a, cell, g1, g2, g3, g4, g5, g6, g7, g8, g9⟩ := Cond.laysStatic_spec (hts _ h1)
    exact ⟨va_Zqof (hts _ h1) (hts _ it_stat_in.2.2) h2 (fun a ha => Nat.not_le.mpr ha), c, k, i, f, a, cell, g1, g2, g3, g4, g5, g6, g7, g8, g9⟩
  have hSt : im_St s.heap s.heap.size s := ⟨hA, sl _ _ it_stat_in.1 (hg _ (by simp)), sl _ _ it_stat_in.2.1 (hg _ (by simp)), im_Sxof hT hts hgv⟩
  have hR : im_R it_nf (fun ci => (D1 ci).1, fun ci => (D1 ci).2) E s.heap.size (fun k => if k = 0 then b else if k = 1 then a21 else a19) s.heap (it_M0 L xs) s.heap := by
    refine ⟨Nat.le_refl _, rfl, fun _ _ => rfl, fun k hk => ?_, hA.2.2, fun k hk h30 => ?_⟩
    · simp only
      split
      · exact hbl
      · split
        · exact (Array.getElem?_eq_some_iff.mp h21).1
        · exact (Array.getElem?_eq_some_iff.mp h19).1
    · have h0 : k = 0 := by
        have hk8 : k < 8 := hk
        rcases h30 with h | h
        · omega
        · simp only [it_M0] at h
          split at h
          · assumption
          · simp at h
      subst h0
      refine ⟨scr, by simpa [im_ad] using x1, ?_⟩
      unfold im_cell
      simp only [it_M0, if_true]
      rw [if_neg (by decide)]
      obtain ⟨kA, comp, f1, f2, f3, f4, f5, f6⟩ := hE1 39 .int rfl
      exact ⟨(f6 rfl).symm, x3, x2.1, x4, fun j hj => x5 j hj⟩
  have hCx : im_Cx (fun ci => (D1 ci).1, fun ci => (D1 ci).2) E (fun k => if k = 0 then b else if k = 1 then a21 else a19) 30 0 p l room_1 s m meth c :=
    ⟨(x, code, maxLocals, ret, []), it_law, hx, hb, hml, hown, hret, hlocks, hnm, by rw [hex]; rfl, hl, hT, hK, ⟨hY, hN⟩, by decide, by decide⟩
  have hmax : im_max 0 = 7 := rfl
  have hLs := im_L.start (ad := im_ad s.heap.size (fun k => if k = 0 then b else if k = 1 then a21 else a19)) (as := [.ref 0]) (n := 7) (by simp [Value.category]) (by decide)
  rw [lg_entry_eq]
  have hWm := im_sound l n 30 0 0 _ [] _ _ _ hgo p e room_1 s m #[Value.ref b] below meth c s.heap [] (601032 - im_tot M') (7293034 - M'.1.2.2) _ 601024 7293034 hCx hSt hR (fun q hq => by cases hq) hLs rfl rfl (by simp only [im_tot, it_M0] at hc ⊢; omega) (by simp only [it_M0]; omega)
  refine W.widen (Nat.zero_le _) (Nat.zero_le _) (im_Wof ?_ hWm)
  rintro t ⟨o, h1, h2, ⟨h3, -, -⟩, Lc, ⟨hw, hsame⟩, hLc⟩
  refine ⟨o, h1, h2, h3, ⟨_, h3⟩, hw, hsame.weaken (fun y hy hlt => ?_) (Nat.le_refl _) (Nat.le_refl _)⟩
  exact absurd (hLc y hy) (Nat.not_le.mpr hlt)
