/-! The abstract machine is right, second part: returns, calls, throws; the theorem. -/
theorem im_catsum {ad : Nat → Nat} {r : List Value} : ((r.map (im_v ad)).map fun v => v.category).sum = (r.map Value.category).sum := by
  rw [List.map_map]
  congr 1
  exact List.map_congr_left fun v _ => im_v_cat ad v
section SOUND2
variable {p : Program} {l : Launch} {e : Env} {R : Room} {s : State} {m : MethodId} {args : Array Value} {below : List Frame} {meth : Method} {c : Code} {H : Heap} {locs : List Loc} {cells slots : Nat} {Q : State → Prop}
variable {D : va_G} {E : Nat → ClassId} {base : Nat} {sp : Nat → Nat} {H0 : Heap} {M : im_M}
/-- how a method ends, in addresses -/
def im_oc (ad : Nat → Nat) : im_O → Outcome
  | .inl v => .returned (v.map (im_v ad))
  | .inr q => .threw (ad q.2)
/-- what is known behind a method -/
def im_Qc (D : va_G) (E : Nat → ClassId) (base : Nat) (sp : Nat → Nat) (H0 : Heap) (o : im_O) (M' : im_M) : Array Value → State → Outcome → State → Prop := fun _ st oc t =>
  oc = im_oc (im_ad base sp) o ∧ im_R it_nf D E base sp H0 M' t.heap ∧ ∀ q, o = .inr q → 8 ≤ q.2 ∧ q.1 < 3 ∧ ∃ cell : Cell, t.heap[im_ad base sp q.2]? = some cell ∧ cell.vm = .none ∧ st.vm.findClass (it_ecn q.1) = some cell.cls
/-- what is known ahead of a method -/
def im_Pc (D : va_G) (E : Nat → ClassId) (base : Nat) (sp : Nat → Nat) (H0 : Heap) (as : List Value) (M : im_M) : Array Value → State → Prop := fun a U =>
  a = (as.map (im_v (im_ad base sp))).toArray ∧ im_R it_nf D E base sp H0 M U.heap ∧ im_T U ∧ im_K it_cl it_aty D E U ∧ (im_Y sp U ∧ im_N U) ∧ im_St H0 base U
abbrev im_free (base : Nat) : Addr → Prop := fun q => base ≤ q
def im_ws (y : Nat) : List Cond := match it_met y with
  | some me => [if me.2.2.2.2 = [] then .code me.1 me.2.1 me.2.2.1 me.2.2.2.1 else .codeWith me.1 me.2.1 me.2.2.1 me.2.2.2.1 me.2.2.2.2]
  | none => []
def im_rm (d mc ms : Nat) : Room := { frames := d + 40, cells := mc, slots := ms, locals := 100 * d + 4000 }
/-- the machine's memory only grows -/
theorem im_rd_mono {pc L : Nat} {ls : List Value} {M M1 : im_M} {o : Option (List Value)} {r : im_S} (h : im_rd pc ls M L o = some (r, M1)) : im_tot M ≤ im_tot M1 ∧ M.1.2.2 ≤ M1.1.2.2 := by
  cases o with
  | none => cases h
  | some st => cases h; exact ⟨Nat.le_refl _, Nat.le_refl _⟩
theorem im_wr_mono {pc L : Nat} {ls : List Value} {M M1 : im_M} {o : Option (List Value × im_M)} {r : im_S} (h : im_wr pc ls L o = some (r, M1)) (k : ∀ st' M', o = some (st', M') → im_tot M ≤ im_tot M' ∧ M.1.2.2 ≤ M'.1.2.2) : im_tot M ≤ im_tot M1 ∧ M.1.2.2 ≤ M1.1.2.2 := by
  cases o with
  | none => cases h
  | some q =>
    obtain ⟨st', M'⟩ := q
    cases h
    exact k st' M' rfl
theorem im_as_mono {ty : FieldType} {len : Nat} {j : Int32} {k : Nat} {v : Value} {M M' : im_M} (h : im_as it_aty ty len j k v M = some M') : im_tot M ≤ im_tot M' ∧ M.1.2.2 ≤ M'.1.2.2 := by
  rw [im_as_tot h, im_as_z h]
  exact ⟨Nat.le_refl _, Nat.le_refl _⟩
theorem im_ns_mono {y len pc : Nat} {i : Instr} {ls st : List Value} {M M1 : im_M} {r : im_S} (h : im_ns y i len pc ls st M = some (r, M1)) : im_tot M ≤ im_tot M1 ∧ M.1.2.2 ≤ M1.1.2.2 := by
  have other : (match im_p i len pc ls st with | some r => some (r, M) | none => none) = some (r, M1) → im_tot M ≤ im_tot M1 ∧ M.1.2.2 ≤ M1.1.2.2 := by
    intro h1
    cases hp : im_p i len pc ls st with
    | none => rw [hp] at h1; cases h1
    | some r' => rw [hp] at h1; cases h1; exact ⟨Nat.le_refl _, Nat.le_refl _⟩
  cases i with
  | getfield idx => exact im_rd_mono h
  | arraylength => exact im_rd_mono h
  | iaload => exact im_rd_mono h
  | caload => exact im_rd_mono h
  | baload => exact im_rd_mono h
  | laload => exact im_rd_mono h
  | aaload => exact im_rd_mono h
  | putfield idx =>
    refine im_wr_mono h fun st' M' ho => ?_
    unfold im_pf at ho
    split at ho
    · split at ho
      · split at ho
        · split at ho
          · cases ho; exact ⟨Nat.le_refl _, Nat.le_refl _⟩
          · cases ho
        · cases ho
      · cases ho
    · cases ho
  | new idx =>
    refine im_wr_mono h fun st' M' ho => ?_
    unfold im_nw at ho
    split at ho
    · split at ho
      · cases ho; simp only [im_tot, im_new]; omega
      · cases ho
    · cases ho
  | newarray a =>
    refine im_wr_mono h fun st' M' ho => ?_
    unfold im_na at ho
    split at ho
    · split at ho
      · split at ho
        · split at ho
          · cases ho; simp only [im_tot, im_new]; omega
          · cases ho
        · cases ho
      · cases ho
    · cases ho
  | anewarray idx =>
    refine im_wr_mono h fun st' M' ho => ?_
    unfold im_aw at ho
    split at ho
    · split at ho
      · split at ho
        · split at ho
          · cases ho; simp only [im_tot, im_new]; omega
          · cases ho
        · cases ho
      · cases ho
    · cases ho
  | multianewarray idx dim =>
    refine im_wr_mono h fun st' M' ho => ?_
    unfold im_mw at ho
    split at ho
    · split at ho
      · split at ho
        · cases ho; simp only [im_tot, im_new]; omega
        · cases ho
      · cases ho
    · cases ho
  | iastore =>
    refine im_wr_mono h fun st' M' ho => ?_
    unfold im_ai at ho
    split at ho
    · split at ho
      · rename_i h2; cases ho; exact im_as_mono h2
      · cases ho
    · cases ho
  | castore =>
    refine im_wr_mono h fun st' M' ho => ?_
    unfold im_ai at ho
    split at ho
    · split at ho
      · rename_i h2; cases ho; exact im_as_mono h2
      · cases ho
    · cases ho
  | bastore =>
    refine im_wr_mono h fun st' M' ho => ?_
    unfold im_ai at ho
    split at ho
    · split at ho
      · rename_i h2; cases ho; exact im_as_mono h2
      · cases ho
    · cases ho
  | lastore =>
    refine im_wr_mono h fun st' M' ho => ?_
    unfold im_al64 at ho
    split at ho
    · split at ho
      · rename_i h2; cases ho; exact im_as_mono h2
      · cases ho
    · cases ho
  | aastore =>
    refine im_wr_mono h fun st' M' ho => ?_
    unfold im_aa at ho
    split at ho
    · split at ho
      · split at ho
        · split at ho
          · rename_i h2; cases ho; exact im_as_mono h2
          · cases ho
        · cases ho
      · cases ho
    · cases ho
  | ldc idx =>
    have h' : (if len = 2 then (match it_str y idx with | some k => some (((pc + 2, ls, .ref k :: st) : im_S), M) | none => none) else none) = some (r, M1) := h
    split at h'
    · split at h'
      · cases h'; exact ⟨Nat.le_refl _, Nat.le_refl _⟩
      · cases h'
    · cases h'
  | _ => exact other h
theorem im_run_mono : ∀ (n d y pc : Nat) (ls st : List Value) (M : im_M) (o : im_O) (M' : im_M), im_run n d y pc ls st M = some (o, M') → im_tot M ≤ im_tot M' ∧ M.1.2.2 ≤ M'.1.2.2 := by
  intro n
  induction n with
  | zero => intro d y pc ls st M o M' h; cases h
  | succ n ih =>
    intro d y pc ls st M o M' h
    rw [im_run] at h
    unfold im_F at h
    split at h
    · cases h
    · split at h
      · cases h; exact ⟨Nat.le_refl _, Nat.le_refl _⟩
      · split at h
        · split at h
          · cases h
            simp only [im_tot, im_dead]
            omega
          · cases h
        · split at h
          · exact ih _ _ _ _ _ _ _ _ h
          · split at h
            · split at h
              · cases h
              · split at h
                · split at h
                  · rename_i hz
                    have h1 := ih _ _ _ _ _ _ _ _ hz
                    have h2 := ih _ _ _ _ _ _ _ _ h
                    omega
                  · rename_i hz
                    have h1 := ih _ _ _ _ _ _ _ _ hz
                    split at h
                    · have h2 := ih _ _ _ _ _ _ _ _ h
                      omega
                    · split at h
                      · cases h; exact h1
                      · cases h
                  · cases h
                · cases h
            · split at h
              · rename_i hz
                have h1 := im_ns_mono hz
                have h2 := ih _ _ _ _ _ _ _ _ h
                omega
              · cases h
theorem im_dec_ok {y pc len : Nat} {i : Instr} {me : it_Me} (hme : it_met y = some me) (h : im_dec y pc = some (i, len)) : decode me.2.1 pc = .ok (i, len) := by
  unfold im_dec at h
  rw [hme] at h
  simp only at h
  split at h
  · rename_i q hq
    cases h
    exact hq
  · cases h
/-- a return -/
theorem im_ret_ok {y d pc len mc ms : Nat} {i : Instr} {st : List Value} {lr : Array Slot} {v : Option Value} (hC : im_Cx D E sp d y p l R s m meth c) (hR : im_R it_nf D E base sp H0 M H) (hlo : ∀ q ∈ locs, base ≤ q.base)
    (hdg : decode c.code pc = .ok (i, len)) (h : im_ret y i len st = some v) (hc : cells = mc) (hs : slots = ms) :
    W p l e R s m args below meth c H locs cells slots (im_MQ below (im_Qc D E base sp H0 (.inl v) M) args s mc ms (im_free base)) (F0 m pc lr (st.map (im_v (im_ad base sp)))) := by
  subst hc; subst hs
  obtain ⟨me, hme, hx, hb, hml, hown, hret, hlocks, hname, hexc, htr, hT, hK, hY, hfr, hlc⟩ := hC
  unfold im_ret at h
  rw [hme] at h
  simp only at h
  have hq : ∀ t : State, t.heap = H → s.WarmedH t.vm → im_Qc D E base sp H0 (.inl v) M args s (.returned (v.map (im_v (im_ad base sp)))) t := fun t ht _ => ⟨rfl, by rw [ht]; exact hR, fun q hq => by cases hq⟩
  split at h
  · split at h
    · rename_i hl
      split at h
      · rename_i x ty hty
        split at h
        · rename_i hn
          cases h
          exact im_Wof (fun t => im_MQ.of) (W.zret hx hb (by rw [hret]; exact hty) hn.1 hq hlo (by rw [← hb, hdg, hl]) hlocks)
        · cases h
      · cases h
    · cases h
  · split at h
    · rename_i hl
      split at h
      · rename_i k ty hty
        split at h
        · rename_i hrf
          cases h
          exact im_Wof (fun t => im_MQ.of) (W.aret (v := .ref (im_ad base sp k)) hx hb (by rw [hret]; exact hty) (by cases ty <;> first | exact Or.inl ⟨_, rfl⟩ | exact Or.inr ⟨_, rfl⟩ | cases hrf) (Or.inr ⟨_, rfl⟩) hq hlo (by rw [← hb, hdg, hl]) hlocks)
        · cases h
      · cases h
    · cases h
  · split at h
    · rename_i hl
      split at h
      · rename_i hty
        cases h
        exact im_Wof (fun t => im_MQ.of) (W.vret hx hb (by rw [hret]; exact hty) hq hlo (by rw [← hb, hdg, hl]) hlocks)
      · cases h
    · cases h
  · cases h
/-- Object.<init>, String.indexOf -/
theorem im_prim_ok {y d pc len : Nat} {i : Instr} {ls st st' : List Value} {lr : Array Slot} (hC : im_Cx D E sp d y p l R s m meth c) (hSt : im_St H0 base s) (hR : im_R it_nf D E base sp H0 M H) (hlo : ∀ q ∈ locs, base ≤ q.base) (hL : im_L (im_ad base sp) (im_max y) ls lr)
    (hdg : decode c.code pc = .ok (i, len)) (h : im_prim y i len st M = some st') (hrc : cells ≤ R.cells) (hrs : slots ≤ R.slots)
    (kk : W p l e R s m args below meth c H locs cells slots Q (F0 m (pc + 3) lr (st'.map (im_v (im_ad base sp))))) : W p l e R s m args below meth c H locs cells slots Q (F0 m pc lr (st.map (im_v (im_ad base sp)))) := by
  obtain ⟨me, hme, hx, hb, hml, hown, hret, hlocks, hname, hexc, htr, hT, hK, hY, hfr, hlc⟩ := hC
  have hmax : im_max y = me.2.2.1 := by unfold im_max; rw [hme]
  unfold im_prim at h
  split at h
  · rename_i hl
    subst hl
    split at h
    · rename_i idx
      split at h
      · rename_i ho
        split at h
        · rename_i k r
          split at h
          · rename_i hr
            cases h
            obtain ⟨w1, w2, w3⟩ := it_obi_ok ho hme
            have hcs : ((st'.map (im_v (im_ad base sp))).map fun v => v.category).sum ≤ 8 := by rw [im_catsum]; exact hr
            refine W.objInit hx rfl hown (hT _ w1 _) (hT _ w2 _) (hT _ w3 _) rfl (by show lr.size = c.maxLocals; rw [hL.size, hml]; exact hmax) (a := im_ad base sp k) (rest := st'.map (im_v (im_ad base sp))) rfl hdg (by omega) (by show 2 * 0 + _ + 12 ≤ _; omega) kk
          · cases h
        · cases h
      · cases h
    · rename_i idx
      split at h
      · rename_i ho
        split at h
        · rename_i b a r
          split at h
          · rename_i hr
            cases h
            obtain ⟨w1, w2, w3, w4⟩ := it_mxx_ok ho hme
            have hcs : ((r.map (im_v (im_ad base sp))).map fun v => v.category).sum ≤ 8 := by rw [im_catsum]; exact hr
            exact va_mmax hx rfl (by rw [hL.size, hml]; exact hmax.symm) hown (hT _ w1 _) (hT _ w2 _) (hT _ w3 _) (hT _ w4 _) (by omega) (by omega) hrc hrs hdg kk
          · cases h
        · cases h
      · cases h
    · rename_i idx
      split at h
      · rename_i ho
        split at h
        · rename_i ch k r
          split at h
          · rename_i hr
            cases h
            obtain ⟨hk, h0, h1, hr⟩ := hr
            obtain ⟨w1, w2, w3, w4⟩ := it_ixo_ok ho hme
            have hcs : ((r.map (im_v (im_ad base sp))).map fun v => v.category).sum ≤ 8 := by rw [im_catsum]; exact hr
            have hh : ∀ q, q < H0.size → H[q]? = H0[q]? := fun q hq => hR.2.2.1 q (by rw [← hSt.1.1]; exact hq)
            have hsz : lr.size = c.maxLocals := by rw [hL.size, hml]; exact hmax
            have hSx := hSt.2.2.2
            rcases hk with rfl | rfl
            · obtain ⟨tx, hZ⟩ := hY.1 y 21 1 me w3 hme
              rw [w2] at hZ
              exact im_ixW (b := sp 1) (f := [112, 110, 117, 114, 111]) hx hsz hown hT hSx.1 hSx.2.2 hZ hh (hT _ w1 _) h0 h1 ⟨by decide, by decide⟩ (by omega) (by omega) hrc hrs hcs hdg kk
            · obtain ⟨tx, hZ⟩ := hY.1 y 19 2 me w4 hme
              rw [w2] at hZ
              exact im_ixW (b := sp 2) (f := [112, 110, 117, 115]) hx hsz hown hT hSx.2.1 hSx.2.2 hZ hh (hT _ w1 _) h0 h1 ⟨by decide, by decide⟩ (by omega) (by omega) hrc hrs hcs hdg kk
          · cases h
        · cases h
      · cases h
    · cases h
  · cases h
end SOUND2
