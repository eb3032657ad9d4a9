/-! The abstract machine, second part: the memory. A memory: how many places there are (own ones from 8 on), how many cells
were made that no place names (exceptions), how many slots were used; of each place its kind and length; its contents.
A kind below 30 is a class's number; from 30 on it is an array's. -/
abbrev im_M : Type := (Nat × Nat × Nat) × (Nat → Nat × Nat) × (Nat → Nat → Value)
def im_set (M : im_M) (k j : Nat) (v : Value) : im_M := (M.1, M.2.1, va_up M.2.2 k (va_up (M.2.2 k) j v))
def im_new (M : im_M) (kd len sl : Nat) (f : Nat → Value) : im_M := ((M.1.1 + 1, M.1.2.1, M.1.2.2 + sl), va_up M.2.1 M.1.1 (kd, len), va_up M.2.2 M.1.1 f)
def im_dead (M : im_M) (n sl : Nat) : im_M := ((M.1.1, M.1.2.1 + n, M.1.2.2 + sl), M.2)
/-- cells made in all -/
def im_tot (M : im_M) : Nat := M.1.1 + M.1.2.1
/-- addresses: eight places are given, the others lie one behind another -/
def im_ad (base : Nat) (sp : Nat → Nat) (k : Nat) : Nat := if k < 8 then sp k else base + (k - 8)
/-- what is known of the tables: numbers of classes and slots (D), of array classes (E); (element types: at) -/
def im_K (cl : List vw_C) (aty : Nat → Option FieldType) (D : va_G) (E : Nat → ClassId) (U : State) : Prop :=
  (∀ (c : Nat) (q : vw_C), cl[c]? = some q → u_Kn U q.1 q.2.1 q.2.2 (D.1 c) (D.2 c)) ∧
  ∀ (kd : Nat) (ty : FieldType), aty kd = some ty → ∃ (kA : Class) (comp : ClassId), U.vm.classes[E kd]? = some kA ∧ kA.kind = .array comp ty ∧
    (kd ≠ 39 → U.vm.findClass ("[" ++ ty.toString) = some (E kd)) ∧ (∀ C, ty = .object C → U.vm.findClass C = some comp) ∧ (∀ t, ty = .array t → U.vm.findClass (FieldType.array t).toString = some comp)
theorem im_K.moved {cl : List vw_C} {aty : Nat → Option FieldType} {D : va_G} {E : Nat → ClassId} {u U : State} (hvm : u.vm.Alike U.vm) (h : im_K cl aty D E u) : im_K cl aty D E U := by
  refine ⟨fun c q hq => u_Kn_moved hvm (h.1 c q hq), fun kd ty hty => ?_⟩
  obtain ⟨kA, comp, h1, h2, h3, h4, h5⟩ := h.2 kd ty hty
  obtain ⟨k', hk', he⟩ := hvm.2.2 _ _ h1
  exact ⟨k', comp, hk', by rw [he]; exact h2, fun hk => by rw [hvm.findClass]; exact h3 hk, fun C hC => by rw [hvm.findClass]; exact h4 C hC, fun t ht => by rw [hvm.findClass]; exact h5 t ht⟩
/-- a cell is what a place says -/
def im_cell (nf : Nat → Nat) (D : va_G) (E : Nat → ClassId) (ad : Nat → Nat) (sh : Nat × Nat) (f : Nat → Value) (cell : Cell) : Prop :=
  if sh.1 < 30 then cell.cls = D.1 sh.1 ∧ cell.vm = .none ∧ ∀ j, j < nf sh.1 → cell.slots[D.2 sh.1 j]? = some (im_v ad (f j))
  else cell.cls = E sh.1 ∧ cell.vm ≠ .unknown ∧ (∀ q, cell.vm ≠ .statics q) ∧ cell.slots.size = sh.2 ∧ ∀ j, j < sh.2 → cell.slots[j]? = some (im_v ad (f j))
/-- the heap holds the memory -/
def im_R (nf : Nat → Nat) (D : va_G) (E : Nat → ClassId) (base : Nat) (sp : Nat → Nat) (H0 : Heap) (M : im_M) (H : Heap) : Prop :=
  8 ≤ M.1.1 ∧ H.size + 8 = base + im_tot M ∧ (∀ q, q < base → H[q]? = H0[q]?) ∧ (∀ k, k < 8 → sp k < base) ∧ (∀ (q : Nat) (cell : Cell), base ≤ q → H[q]? = some cell → cell.vm.isStatics = false) ∧
  ∀ k, k < M.1.1 → (8 ≤ k ∨ 30 ≤ (M.2.1 k).1) → ∃ cell, H[im_ad base sp k]? = some cell ∧ im_cell nf D E (im_ad base sp) (M.2.1 k) (M.2.2 k) cell
section REP
variable {nf : Nat → Nat} {D : va_G} {E : Nat → ClassId} {base : Nat} {sp : Nat → Nat} {H0 H H' : Heap} {M : im_M} {k : Nat}
theorem im_ad_own (h : 8 ≤ k) : im_ad base sp k = base + (k - 8) := by simp [im_ad, Nat.not_lt.mpr h]
theorem im_ad_ne {j : Nat} (hs : ∀ k, k < 8 → sp k < base) (h : 8 ≤ k) (hj : j ≠ k) : im_ad base sp j ≠ im_ad base sp k := by
  rw [im_ad_own h]
  unfold im_ad
  split
  · rename_i h8
    have := hs j h8
    omega
  · omega
theorem im_R.at (h : im_R nf D E base sp H0 M H) (hk : k < M.1.1) (h8 : 8 ≤ k ∨ 30 ≤ (M.2.1 k).1) : ∃ cell, H[im_ad base sp k]? = some cell ∧ im_cell nf D E (im_ad base sp) (M.2.1 k) (M.2.2 k) cell := h.2.2.2.2.2 k hk h8
theorem im_cell.ns {ad : Nat → Nat} {sh : Nat × Nat} {f : Nat → Value} {cell : Cell} (h : im_cell nf D E ad sh f cell) : cell.vm.isStatics = false := by
  unfold im_cell at h
  split at h
  · rw [h.2.1]; rfl
  · have h3 := h.2.2.1
    cases hv : cell.vm with
    | statics q => exact absurd hv (h3 q)
    | _ => rfl
theorem im_R.set (h : im_R nf D E base sp H0 M H) (hk : k < M.1.1) (h8 : 8 ≤ k) {j : Nat} {v : Value} {cell : Cell} (hc : H'[im_ad base sp k]? = some cell) (hz : H'.size = H.size) (ho : ∀ q, q ≠ im_ad base sp k → H'[q]? = H[q]?)
    (hcell : im_cell nf D E (im_ad base sp) (M.2.1 k) (va_up (M.2.2 k) j v) cell) : im_R nf D E base sp H0 (im_set M k j v) H' := by
  obtain ⟨h1, h2, h3, h4, h6, h5⟩ := h
  refine ⟨h1, by rw [hz]; exact h2, fun q hq => ?_, h4, fun q c9 hq hc9 => ?_, fun i hi h9 => ?_⟩
  · rw [ho q (by rw [im_ad_own h8]; omega)]
    exact h3 q hq
  · by_cases eq : q = im_ad base sp k
    · subst eq
      cases hc.symm.trans hc9
      exact hcell.ns
    · rw [ho q eq] at hc9
      exact h6 q c9 hq hc9
  · by_cases e : i = k
    · subst e
      exact ⟨cell, hc, by simpa [im_set, va_up_self] using hcell⟩
    · obtain ⟨c', g1, g2⟩ := h5 i hi h9
      exact ⟨c', by rw [ho _ (im_ad_ne h4 h8 e)]; exact g1, by simpa [im_set, va_up_ne _ _ e] using g2⟩
theorem im_R.new (h : im_R nf D E base sp H0 M H) (hg : M.1.2.1 = 0) {kd len sl : Nat} {f : Nat → Value} {cell : Cell} (hc : H'[H.size]? = some cell) (hz : H'.size = H.size + 1) (ho : ∀ q, q < H.size → H'[q]? = H[q]?)
    (hcell : im_cell nf D E (im_ad base sp) (kd, len) f cell) : im_R nf D E base sp H0 (im_new M kd len sl f) H' ∧ im_ad base sp M.1.1 = H.size := by
  obtain ⟨h1, h2, h3, h4, h6, h5⟩ := h
  unfold im_tot at h2
  have had : im_ad base sp M.1.1 = H.size := by rw [im_ad_own h1]; omega
  refine ⟨⟨Nat.le_succ_of_le h1, by simp only [im_new, im_tot]; omega, fun q hq => ?_, h4, fun q c9 hq hc9 => ?_, fun i hi h9 => ?_⟩, had⟩
  · rw [ho q (by omega)]
    exact h3 q hq
  · have hlt : q < H'.size := (Array.getElem?_eq_some_iff.mp hc9).1
    by_cases eq : q = H.size
    · subst eq
      cases hc.symm.trans hc9
      exact hcell.ns
    · rw [ho q (by omega)] at hc9
      exact h6 q c9 hq hc9
  · by_cases e : i = M.1.1
    · subst e
      exact ⟨cell, by rw [had]; exact hc, by simpa [im_new, va_up_self] using hcell⟩
    · have hi' : i < M.1.1 := by have : i < M.1.1 + 1 := hi; omega
      have h9' : 8 ≤ i ∨ 30 ≤ (M.2.1 i).1 := by simpa [im_new, va_up_ne _ _ e] using h9
      obtain ⟨c', g1, g2⟩ := h5 i hi' h9'
      exact ⟨c', by rw [ho _ (Array.getElem?_eq_some_iff.mp g1).1]; exact g1, by simpa [im_new, va_up_ne _ _ e] using g2⟩
theorem im_R.dead (h : im_R nf D E base sp H0 M H) {n sl : Nat} (hz : H'.size = H.size + n) (ho : ∀ q, q < H.size → H'[q]? = H[q]?) (hns : ∀ (q : Nat) (cell : Cell), H.size ≤ q → H'[q]? = some cell → cell.vm.isStatics = false) : im_R nf D E base sp H0 (im_dead M n sl) H' := by
  obtain ⟨h1, h2, h3, h4, h6, h5⟩ := h
  refine ⟨h1, ?_, fun q hq => ?_, h4, fun q c9 hq hc9 => ?_, fun i hi h9 => ?_⟩
  · unfold im_tot at h2
    simp only [im_dead, im_tot]; omega
  · rw [ho q (by unfold im_tot at h2; omega)]
    exact h3 q hq
  · rcases Nat.lt_or_ge q H.size with hl | hl
    · rw [ho q hl] at hc9
      exact h6 q c9 hq hc9
    · exact hns q c9 hl hc9
  · obtain ⟨c', g1, g2⟩ := h5 i hi h9
    exact ⟨c', by rw [ho _ (Array.getElem?_eq_some_iff.mp g1).1]; exact g1, g2⟩
theorem im_cell.obj {ad : Nat → Nat} {sh : Nat × Nat} {f : Nat → Value} {cell : Cell} (h : im_cell nf D E ad sh f cell) (hk : sh.1 < 30) : cell.cls = D.1 sh.1 ∧ cell.vm = .none ∧ ∀ j, j < nf sh.1 → cell.slots[D.2 sh.1 j]? = some (im_v ad (f j)) := by
  unfold im_cell at h
  rwa [if_pos hk] at h
theorem im_cell.arr {ad : Nat → Nat} {sh : Nat × Nat} {f : Nat → Value} {cell : Cell} (h : im_cell nf D E ad sh f cell) (hk : 30 ≤ sh.1) : cell.cls = E sh.1 ∧ cell.vm ≠ .unknown ∧ (∀ q, cell.vm ≠ .statics q) ∧ cell.slots.size = sh.2 ∧ ∀ j, j < sh.2 → cell.slots[j]? = some (im_v ad (f j)) := by
  unfold im_cell at h
  rwa [if_neg (Nat.not_lt.mpr hk)] at h
/-- an array's slot is stored -/
theorem im_cell.put {ad : Nat → Nat} {sh : Nat × Nat} {f : Nat → Value} {cell : Cell} (h : im_cell nf D E ad sh f cell) (hk : 30 ≤ sh.1) {j : Nat} (hj : j < sh.2) (v : Value) : im_cell nf D E ad sh (va_up f j v) (cell.setSlot j (im_v ad v)) := by
  obtain ⟨h1, h2, h3, h4, h5⟩ := h.arr hk
  unfold im_cell
  rw [if_neg (Nat.not_lt.mpr hk)]
  refine ⟨h1, h2, h3, by rw [← h4]; simp [Cell.setSlot], fun i hi => ?_⟩
  by_cases e : i = j
  · subst e
    rw [va_up_self, Cell.slots_setSlot_self _ (by rw [h4]; exact hj)]
  · rw [va_up_ne _ _ e, slot_ne _ _ (fun q => e q.symm)]
    exact h5 i hi
end REP
section AROWS
variable {p : Program} {l : Launch} {e : Env} {R : Room} {s : State} {m : MethodId} {args : Array Value} {below : List Frame} {meth : Method} {c : Code} {H : Heap} {locs : List Loc} {cells slots : Nat} {Q : State → Prop}
variable {cc : ByteArray} {pc nL : Nat} {ls st : List Value} {lr : Array Slot}
variable {cl : List vw_C} {aty : Nat → Option FieldType} {nf : Nat → Nat} {D : va_G} {E : Nat → ClassId} {base : Nat} {sp : Nat → Nat} {H0 : Heap} {M : im_M}
theorem im_isarr (hK : im_K cl aty D E s) {kd : Nat} {ty : FieldType} (ht : aty kd = some ty) {cell : Cell} (h1 : cell.cls = E kd) (h3 : ∀ q, cell.vm ≠ .statics q) : s.isArrayOf cell ty := by
  obtain ⟨kA, comp, g1, g2, -⟩ := hK.2 kd ty ht
  exact ⟨h3, kA, by rw [h1]; exact g1, comp, g2⟩
/-- an element is read -/
def im_al (aty : Nat → Option FieldType) (ty : FieldType) (len pc : Nat) (st : List Value) (M : im_M) : Option (List Value) := if len = 1 then (match st with
  | .int j :: .ref k :: r => if k < M.1.1 ∧ 30 ≤ (M.2.1 k).1 ∧ aty (M.2.1 k).1 = some ty ∧ ¬ (j < 0 ∨ (M.2.1 k).2 ≤ j.toNatClampNeg) then some (M.2.2 k j.toNatClampNeg :: r) else none
  | _ => none) else none
theorem im_al_ok {ty : FieldType} {len : Nat} {st' : List Value} (hK : im_K cl aty D E s) (hR : im_R nf D E base sp H0 M H) (h : im_al aty ty len pc st M = some st')
    (row : ∀ (a : Nat) (j : Int32) (cell : Cell) (v : Value) (rest : List Value), len = 1 → H[a]? = some cell → s.isArrayOf cell ty → cell.vm ≠ .unknown → ¬ (j < 0 ∨ cell.slots.size ≤ j.toNatClampNeg) → cell.slots[j.toNatClampNeg]? = some v →
      W p l e R s m args below meth c H locs cells slots Q (F0 m (pc + 1) lr (v :: rest)) → W p l e R s m args below meth c H locs cells slots Q (F0 m pc lr (.int j :: .ref a :: rest)))
    (kk : W p l e R s m args below meth c H locs cells slots Q (F0 m (pc + 1) lr (st'.map (im_v (im_ad base sp))))) : W p l e R s m args below meth c H locs cells slots Q (F0 m pc lr (st.map (im_v (im_ad base sp)))) := by
  unfold im_al at h
  split at h
  · rename_i hl
    split at h
    · rename_i j k r
      split at h
      · rename_i hc
        obtain ⟨hk, h30, ht, hin⟩ := hc
        cases h
        obtain ⟨cell, g1, g2⟩ := hR.at hk (Or.inr h30)
        obtain ⟨a1, a2, a3, a4, a5⟩ := g2.arr h30
        exact row _ j cell _ _ hl g1 (im_isarr hK ht a1 a3) a2 (by rw [a4]; exact hin) (a5 _ (Nat.not_le.mp fun q => hin (Or.inr q))) kk
      · cases h
    · cases h
  · cases h
/-- an element is written: v is what is laid there -/
def im_as (aty : Nat → Option FieldType) (ty : FieldType) (len : Nat) (j : Int32) (k : Nat) (v : Value) (M : im_M) : Option im_M :=
  if len = 1 ∧ 8 ≤ k ∧ k < M.1.1 ∧ 30 ≤ (M.2.1 k).1 ∧ aty (M.2.1 k).1 = some ty ∧ ¬ (j < 0 ∨ (M.2.1 k).2 ≤ j.toNatClampNeg) then some (im_set M k j.toNatClampNeg v) else none
theorem im_as_ok {ty : FieldType} {len : Nat} {j : Int32} {k : Nat} {v w : Value} {M' : im_M} {st0 rest : List Value} (hK : im_K cl aty D E s) (hR : im_R nf D E base sp H0 M H) (hlo : ∀ q ∈ locs, base ≤ q.base) (h : im_as aty ty len j k v M = some M') (hw : im_v (im_ad base sp) v = w)
    (row : ∀ (cell : Cell), len = 1 → H[im_ad base sp k]? = some cell → s.isArrayOf cell ty → cell.cls = E (M.2.1 k).1 → cell.vm ≠ .unknown → ¬ (j < 0 ∨ cell.slots.size ≤ j.toNatClampNeg) →
      (∀ H' : Heap, H'[im_ad base sp k]? = some (cell.setSlot j.toNatClampNeg w) → H'.size = H.size → (∀ q, q ≠ im_ad base sp k → H'[q]? = H[q]?) → W p l e R s m args below meth c H' (locs ++ [⟨im_ad base sp k, j.toNatClampNeg⟩]) cells slots Q (F0 m (pc + 1) lr rest)) →
      W p l e R s m args below meth c H locs cells slots Q (F0 m pc lr st0))
    (kk : ∀ (H' : Heap) (locs' : List Loc), im_R nf D E base sp H0 M' H' → (∀ q ∈ locs', base ≤ q.base) → W p l e R s m args below meth c H' locs' cells slots Q (F0 m (pc + 1) lr rest)) : W p l e R s m args below meth c H locs cells slots Q (F0 m pc lr st0) := by
  unfold im_as at h
  split at h
  · rename_i hc
    obtain ⟨hl, h8, hk, h30, ht, hin⟩ := hc
    cases h
    obtain ⟨cell, g1, g2⟩ := hR.at hk (Or.inr h30)
    obtain ⟨a1, a2, a3, a4, a5⟩ := g2.arr h30
    refine row cell hl g1 (im_isarr hK ht a1 a3) a1 a2 (by rw [a4]; exact hin) fun H' e1 e2 e3 => kk H' _ (hR.set hk h8 e1 e2 e3 ?_) (t_lc (free := fun a => base ≤ a) hlo (by rw [im_ad_own h8]; exact Nat.le_add_right _ _))
    rw [← hw]
    exact g2.put h30 (Nat.not_le.mp fun q => hin (Or.inr q)) v
  · cases h
theorem im_as_tot {ty : FieldType} {len : Nat} {j : Int32} {k : Nat} {v : Value} {M' : im_M} (h : im_as aty ty len j k v M = some M') : im_tot M' = im_tot M := by
  unfold im_as at h
  split at h
  · cases h; rfl
  · cases h
theorem im_as_z {ty : FieldType} {len : Nat} {j : Int32} {k : Nat} {v : Value} {M' : im_M} (h : im_as aty ty len j k v M = some M') : M'.1.2.2 = M.1.2.2 := by
  unfold im_as at h
  split at h
  · cases h; rfl
  · cases h
end AROWS
