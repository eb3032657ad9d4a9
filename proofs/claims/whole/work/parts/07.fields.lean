/-! The abstract machine, third part: fields, making of objects and arrays (rows, with what the tables say as hypotheses). -/
section FROWS
variable {p : Program} {l : Launch} {e : Env} {R : Room} {s : State} {m : MethodId} {args : Array Value} {below : List Frame} {meth : Method} {c : Code} {H : Heap} {locs : List Loc} {cells slots : Nat} {Q : State → Prop}
variable {cc : ByteArray} {pc nL : Nat} {lr : Array Slot} {rest : List Value}
variable {cl : List vw_C} {aty : Nat → Option FieldType} {nf : Nat → Nat} {D : va_G} {E : Nat → ClassId} {base : Nat} {sp : Nat → Nat} {H0 : Heap} {M : im_M}
/-- the words of a field: how its class lays it, how the method's class names it -/
abbrev im_lay (C : String) (T : u_T) (k : Nat) : Cond := u_lay C T k
abbrev im_lk (own : String) (index : Nat) (C : String) (T : u_T) (k : Nat) (host : Option String) : Cond := match host with
  | none => .fieldLink own index C (T k).2.1 (T k).2.2.1
  | some h => .fieldLinkNest own index C (T k).2.1 (T k).2.2.1 h
theorem im_lays {C : String} {T : u_T} {k : Nat} (h : (u_lay C T k).before args s = true) : (Cond.lays C (T k).1 (T k).2.1 (T k).2.2.1).before args s = true ∨ (Cond.laysFinal C (T k).1 (T k).2.1 (T k).2.2.1).before args s = true := by
  unfold u_lay at h
  split at h
  · exact Or.inr h
  · exact Or.inl h
theorem im_get_row (hx : p.tables.exec = Jvm.exec) (hb : c.code = cc) {own C : String} {T : u_T} {N ci index k a : Nat} {host : Option String} {f : Nat → Value} (hKn : u_Kn s C T N (D.1 ci) (D.2 ci)) (hk : k < N) (hlay : (u_lay C T k).before args s = true) (hown : s.vm.findClass own = some m.cls)
    (hlink : (im_lk own index C T k host).before args s = true) (hdecl : (T k).1 = C) {cell : Cell} (hcell : H[a]? = some cell) (ho : cell.cls = D.1 ci ∧ cell.vm = .none ∧ ∀ j, j < N → cell.slots[D.2 ci j]? = some (im_v (im_ad base sp) (f j))) (hdg : decode cc pc = .ok (.getfield index, 3))
    (kk : W p l e R s m args below meth c H locs cells slots Q (F0 m (pc + 3) lr (im_v (im_ad base sp) (f k) :: rest))) : W p l e R s m args below meth c H locs cells slots Q (F0 m pc lr (.ref a :: rest)) := by
  obtain ⟨hS, hfc, kC, hkC, hkind⟩ := hKn
  obtain ⟨cf, kf, fi, fd, hi, hsl⟩ := hS k hk
  have hst := (u_facts hfc hkC (im_lays hlay) hi).1
  rw [hdecl] at hi
  have hv : cell.slots[fd.slot]? = some (im_v (im_ad base sp) (f k)) := by rw [hsl]; exact ho.2.2 k hk
  cases host with
  | none => exact W.getf hx hb hown hlink hi hst hcell (by rw [ho.2.1]; exact fun h => by cases h) hv rfl rfl hdg kk
  | some h => exact va_Wgetf hx hb hown hlink hi hst hcell (by rw [ho.2.1]; exact fun h => by cases h) hv rfl rfl hdg kk
/-- fields of a class lie apart -/
theorem im_apart {C : String} {T : u_T} {N ci : Nat} (hKn : u_Kn s C T N (D.1 ci) (D.2 ci)) (hlay : ∀ k, k < N → (u_lay C T k).before args s = true) (ty : Nat → FieldType) (hty : ∀ k, k < N → parseFieldDescriptor (T k).2.2.1 = some (ty k)) (hnm : ∀ a, a < N → ∀ b, b < N → a ≠ b → (T a).2.1 ≠ (T b).2.1) : ∀ x y, x < N → y < N → x ≠ y → (D.2 ci) x ≠ (D.2 ci) y := by
  intro x y hx hy hne
  obtain ⟨hS, -⟩ := hKn
  obtain ⟨_, _, _, fa, hia, ea⟩ := hS x hx
  obtain ⟨_, _, _, fb, hib, eb⟩ := hS y hy
  rw [← ea, ← eb]
  refine u_apart (im_lays (hlay x hx)) (im_lays (hlay y hy)) hia hib ?_
  rw [(State.fieldFound?_type hia (hty x hx)).1, (State.fieldFound?_type hib (hty y hy)).1]
  exact hnm x hx y hy hne
theorem im_put_row (hx : p.tables.exec = Jvm.exec) (hb : c.code = cc) {own C : String} {T : u_T} {N ci index k a : Nat} {host : Option String} {f : Nat → Value} (hKn : u_Kn s C T N (D.1 ci) (D.2 ci)) (hk : k < N) (hlay : ∀ k, k < N → (u_lay C T k).before args s = true)
    (ty : Nat → FieldType) (hty : ∀ k, k < N → parseFieldDescriptor (T k).2.2.1 = some (ty k)) (hnm : ∀ a, a < N → ∀ b, b < N → a ≠ b → (T a).2.1 ≠ (T b).2.1) (hown : s.vm.findClass own = some m.cls)
    (hlink : (im_lk own index C T k host).before args s = true) (hdecl : (T k).1 = C) (hfin : (T k).2.2.2 = false ∨ (host = none ∧ own = C ∧ meth.name = "<init>")) {cell : Cell} (hcell : H[a]? = some cell) (ho : cell.cls = D.1 ci ∧ cell.vm = .none ∧ ∀ j, j < N → cell.slots[D.2 ci j]? = some (im_v (im_ad base sp) (f j)))
    {v : Value} (hn : narrow (ty k) (im_v (im_ad base sp) v) = im_v (im_ad base sp) v) (hfit : fits (ty k) (im_v (im_ad base sp) v) = true) (hdg : decode cc pc = .ok (.putfield index, 3))
    (kk : ∀ (H' : Heap) (slot : Nat) (cell' : Cell), H'[a]? = some cell' → H'.size = H.size → (∀ q, q ≠ a → H'[q]? = H[q]?) → (cell'.cls = D.1 ci ∧ cell'.vm = .none ∧ ∀ j, j < N → cell'.slots[D.2 ci j]? = some (im_v (im_ad base sp) (va_up f k v j))) →
      W p l e R s m args below meth c H' (locs ++ [⟨a, slot⟩]) cells slots Q (F0 m (pc + 3) lr rest)) : W p l e R s m args below meth c H locs cells slots Q (F0 m pc lr (im_v (im_ad base sp) v :: .ref a :: rest)) := by
  have hap := im_apart hKn hlay ty hty hnm
  obtain ⟨hS, hfc, kC, hkC, hkind⟩ := hKn
  obtain ⟨cf, kf, fi, fd, hi, hsl⟩ := hS k hk
  obtain ⟨o1, o2, o3⟩ := ho
  have hst := (u_facts hfc hkC (im_lays (hlay k hk)) hi).1
  have hfits := u_fits hfc hkC hkind (im_lays (hlay k hk)) hi (hty k hk) hn hfit
  have hlt : fd.slot < cell.slots.size := by rw [hsl]; exact k2_hasslot (o3 k hk)
  have hnew : ∀ j, j < N → (cell.setSlot fd.slot (im_v (im_ad base sp) v)).slots[D.2 ci j]? = some (im_v (im_ad base sp) (va_up f k v j)) := by
    intro j hj
    by_cases ej : j = k
    · subst ej
      rw [va_up_self, ← hsl, Cell.slots_setSlot_self _ hlt]
    · rw [va_up_ne _ _ ej, slot_ne _ _ (by rw [hsl]; exact fun q => hap j k hj hk ej q.symm)]
      exact o3 j hj
  have hlayk := hlay k hk
  unfold u_lay at hlayk
  rcases hfin with hfin | ⟨rfl, hoC, hinit⟩
  · rw [if_neg (by rw [hfin]; decide)] at hlayk
    have hS6 := u_store hfc hkC hkind hlayk hi (hty k hk) hn hfit
    rw [hdecl] at hi
    cases host with
    | none => exact W.putK hx hb (f := fd) ⟨hown, hlink, ⟨_, _, _, hi⟩, hst⟩ (by rw [o1]; exact hS6) hcell o2 hlt rfl rfl hdg fun H' e1 e2 e3 => kk H' _ _ e1 e2 e3 ⟨o1, o2, hnew⟩
    | some h => exact va_WputK hx hb (f := fd) hown hlink hi hst (by rw [o1]; exact hS6) hcell o2 hlt rfl rfl hdg fun H' e1 e2 e3 => kk H' _ _ e1 e2 e3 ⟨o1, o2, hnew⟩
  · by_cases hf2 : (T k).2.2.2 = true
    · rw [if_pos hf2] at hlayk
      have hcf : m.cls = cf := by
        obtain ⟨_, _, c', _, _, _, -, -, hf', -, -, -, hown2, -⟩ := Cond.laysFinal_spec hlayk
        have e1 : c' = cf := by have := hi.symm.trans hf'; simp at this; exact this.1.symm
        rw [hdecl, ← hoC] at hown2
        rw [← e1]; exact Option.some.inj (hown.symm.trans hown2)
      rw [hdecl] at hi
      exact W.putFinK hx hb hown hlink hi hst hcf hinit (by rw [o1]; exact hfits) hcell o2 hlt rfl rfl hdg fun H' e1 e2 e3 => kk H' _ _ e1 e2 e3 ⟨o1, o2, hnew⟩
    · rw [if_neg hf2] at hlayk
      have hS6 := u_store hfc hkC hkind hlayk hi (hty k hk) hn hfit
      rw [hdecl] at hi
      exact W.putK hx hb (f := fd) ⟨hown, hlink, ⟨_, _, _, hi⟩, hst⟩ (by rw [o1]; exact hS6) hcell o2 hlt rfl rfl hdg fun H' e1 e2 e3 => kk H' _ _ e1 e2 e3 ⟨o1, o2, hnew⟩
theorem im_new_row (hx : p.tables.exec = Jvm.exec) (hb : c.code = cc) {own C : String} {T : u_T} {N ci index : Nat} (hKn : u_Kn s C T N (D.1 ci) (D.2 ci)) (hlay : ∀ k, k < N → (u_lay C T k).before args s = true) (ty : Nat → FieldType) (hty : ∀ k, k < N → parseFieldDescriptor (T k).2.2.1 = some (ty k)) (hown : s.vm.findClass own = some m.cls)
    (hcl : (Cond.classLink own index C).before args s = true) {n : Nat} (hinst : (Cond.instantiable C n).before args s = true) (hini : (Cond.initialized C).before args s = true) (hcells : cells + 1 ≤ R.cells) (hslots : slots + n ≤ R.slots) (hdg : decode cc pc = .ok (.new index, 3))
    (kk : ∀ (H' : Heap) (cell' : Cell), H'[H.size]? = some cell' → H'.size = H.size + 1 → (∀ q, q < H.size → H'[q]? = H[q]?) → (cell'.cls = D.1 ci ∧ cell'.vm = .none ∧ ∀ j, j < N → cell'.slots[D.2 ci j]? = some (defaultValue (ty j))) →
      W p l e R s m args below meth c H' locs (cells + 1) (slots + n) Q (F0 m (pc + 3) lr (.ref H.size :: rest))) : W p l e R s m args below meth c H locs cells slots Q (F0 m pc lr rest) := by
  refine W.newcK hx hb hown hcl hinst hini rfl hdg hcells hslots hKn.2.1 rfl fun H1 kC hkC e1 z1 o1 => ?_
  obtain ⟨hS, hfc, -⟩ := hKn
  refine kk H1 _ e1 z1 o1 ⟨rfl, rfl, fun k hk => ?_⟩
  obtain ⟨cf, kf, fi, fd, hi, he⟩ := hS k hk
  have h3 := (u_facts hfc hkC (im_lays (hlay k hk)) hi).2.2
  rw [(State.fieldFound?_type hi (hty k hk)).2] at h3
  rw [← he]
  exact k2_blank h3
theorem im_newa_row (hx : p.tables.exec = Jvm.exec) (hb : c.code = cc) {atype : ArrayType} (harr : (Cond.arrayClass (newarray.typeOf atype)).before args s = true) {kd : Nat} (hK : im_K cl aty D E s) (hkd : aty kd = some (newarray.typeOf atype)) (h39 : kd ≠ 39)
    {n : Int32} (hn : ¬ n < 0) (hbytes : n.toNatClampNeg * componentBytes (newarray.typeOf atype) ≤ 536870912) (hcells : cells + 1 ≤ R.cells) (hslots : slots + n.toNatClampNeg ≤ R.slots) (hdg : decode cc pc = .ok (.newarray atype, 2))
    (kk : ∀ (H' : Heap), H'[H.size]? = some (arrV (E kd) n.toNatClampNeg (fun _ => defaultValue (newarray.typeOf atype))) → H'.size = H.size + 1 → (∀ q, q < H.size → H'[q]? = H[q]?) →
      W p l e R s m args below meth c H' locs (cells + 1) (slots + n.toNatClampNeg) Q (F0 m (pc + 2) lr (.ref H.size :: rest))) : W p l e R s m args below meth c H locs cells slots Q (F0 m pc lr (.int n :: rest)) := by
  refine va_newaK hx hb harr rfl hdg rfl hn rfl hbytes hcells hslots rfl fun H1 cA e1 z1 o1 hAr hNm => ?_
  obtain ⟨kA, comp, g1, g2, g3, -⟩ := hK.2 kd _ hkd
  cases (g3 h39).symm.trans hNm
  exact kk H1 e1 z1 o1
theorem im_newq_row (hx : p.tables.exec = Jvm.exec) (hb : c.code = cc) {own C : String} {index kd : Nat} (hK : im_K cl aty D E s) (hkd : aty kd = some (.object C)) (h39 : kd ≠ 39) (hown : s.vm.findClass own = some m.cls) (hcl : (Cond.classLink own index C).before args s = true) (hover : (Cond.arrayOver (.object C)).before args s = true)
    {n : Int32} (hn : ¬ n < 0) (hbytes : n.toNatClampNeg * 4 ≤ 536870912) (hcells : cells + 1 ≤ R.cells) (hslots : slots + n.toNatClampNeg ≤ R.slots) (hdg : decode cc pc = .ok (.anewarray index, 3))
    (kk : ∀ (H' : Heap), H'[H.size]? = some (arrV (E kd) n.toNatClampNeg (fun _ => .null)) → H'.size = H.size + 1 → (∀ q, q < H.size → H'[q]? = H[q]?) →
      W p l e R s m args below meth c H' locs (cells + 1) (slots + n.toNatClampNeg) Q (F0 m (pc + 3) lr (.ref H.size :: rest))) : W p l e R s m args below meth c H locs cells slots Q (F0 m pc lr (.int n :: rest)) := by
  refine W.anew hx hb hown hcl hover rfl hdg rfl hn hbytes hcells hslots fun cA kA comp h1 h2 h3 h4 => ?_
  obtain ⟨kA', comp', g1, g2, g3, -⟩ := hK.2 kd _ hkd
  cases (g3 h39).symm.trans h1
  refine kk _ ?_ ?_ ?_
  · rw [arrV_new]; simp
  · simp
  · intro q hq
    rw [Array.getElem?_push, if_neg (Nat.ne_of_lt hq)]
theorem im_arr_cell {ad : Nat → Nat} {kd n : Nat} {v : Value} (h30 : 30 ≤ kd) (hv : im_v ad v = v) : im_cell nf D E ad (kd, n) (fun _ => v) (arrV (E kd) n (fun _ => v)) := by
  unfold im_cell
  rw [if_neg (Nat.not_lt.mpr h30)]
  refine ⟨rfl, fun h => (by cases h), fun q h => (by cases h), arrV_size _ _ _, fun j hj => ?_⟩
  rw [arrV_read _ _ hj, hv]
end FROWS
