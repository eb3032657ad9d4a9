/-! What the tables say is among the words. -/
def it_mv : Cond → Bool
  | .fieldLinkNest .. => true
  | .methodLinkNest .. => true
  | .declares _ => true
  | .castable .. => true
  | .arrayOver (.object _) => true
  | .arrayOver (.array .int) => true
  | .stringRef .. => true
  | w => goodWord w
def it_all : List Cond := Cond.code x code maxLocals ret :: lw_tbl
def it_tb : List Cond := it_all.filter it_mv
theorem it_in {w : Cond} (i : Nat) (h : lw_tbl[i]? = some w) (hm : it_mv w = true) : w ∈ it_tb := List.mem_filter.mpr ⟨List.mem_cons_of_mem _ (List.mem_of_getElem? h), hm⟩
/-- a String constant's address -/
theorem im_strref {own tx : String} {k : Nat} {s : State} (h : (Cond.stringRef own k tx).before #[] s = true) : ∃ a, vk_R own k tx a s := by
  have hcur : ∃ cur, s.vm.findClass own = some cur := by
    have h1 := h
    simp only [Cond.before, Cond.holds, Cond.value] at h1
    cases hc : s.vm.findClass own with
    | none => simp [hc] at h1
    | some cur => exact ⟨cur, rfl⟩
  obtain ⟨cur, hcur⟩ := hcur
  obtain ⟨k9, cf, i, a, -, -, -, -, -, ha⟩ := Cond.stringRef_spec hcur h
  exact ⟨a, h, ha⟩
theorem im_AOA {u U : State} {A A' : Array Value} (hvm : u.vm.Alike U.vm) (h : (Cond.arrayOver (.array .int)).before A u = true) : (Cond.arrayOver (.array .int)).before A' U = true := by
  obtain ⟨comp, c, k, h1, h2, h3, h4, h5⟩ := arrayOverA_spec h
  obtain ⟨k', hk', he⟩ := hvm.2.2 _ _ h3
  have hi : (U.vm.classes.findIdx? fun (x : Class) => match x.kind with | .array component _ => component == comp | _ => false) = some c := by
    rw [hvm.findIdx?_eq _ (fun _ => rfl)]; exact h2
  have hkind : k'.kind = .array comp (.array .int) := by rw [he]; exact h4
  have f1 : U.vm.findClass (FieldType.array .int).toString = some comp := by rw [hvm.findClass]; exact h1
  have f2 : U.vm.findClass ("[" ++ (FieldType.array .int).toString) = some c := by rw [hvm.findClass]; exact h5
  unfold Cond.before Cond.holds
  simp only [Cond.value]
  rw [f1, Option.bind_some]
  refine (congrArg (fun o : Option Nat => (o.bind (fun c => (U.vm.classes[c]?).map fun (k : Class) => match k.kind with | .array _ ty => decide (ty = FieldType.array .int) && decide (U.vm.findClass ("[" ++ (FieldType.array .int).toString) = some c) | _ => false) == some true)) hi).trans ?_
  simp [hk', hkind, f2]
/-- the words go along where the tables grow warmer -/
theorem it_mv_word {s U : State} {A A' : Array Value} {w : Cond} (hW : s.WarmedH U.vm) (hm : it_mv w = true) (h : w.before A s = true) : w.before A' U = true := by
  have good : ∀ {w : Cond}, goodWord w = true → w.before A s = true → w.before A' U = true := fun hg h => word_at hW (good_of_word hg) h
  unfold it_mv at hm
  split at hm
  · exact va_Nw.use rfl (va_Nw.warmF hW (va_Nw.of rfl h))
  · exact va_Nw.use rfl (va_Nw.warmM hW (va_Nw.of rfl h))
  · exact va_Nw.use rfl (va_Nw.warmD hW (va_Nw.of rfl h))
  · exact va_Nw.use rfl (va_Nw.warmC hW (va_Nw.of rfl h))
  · exact va_AO.use (va_AO.moved hW.alike (va_AO.of h))
  · exact im_AOA hW.alike h
  · obtain ⟨a, ha⟩ := im_strref h
    exact (vk_R.warm hW ha).1
  · exact good hm h
theorem it_tb_word {s U : State} {A A' : Array Value} {w : Cond} (hW : s.WarmedH U.vm) (hw : w ∈ it_tb) (h : w.before A s = true) : w.before A' U = true := it_mv_word hW (List.mem_filter.mp hw).2 h
theorem it_lk {α β : Type} [BEq α] [LawfulBEq α] {k : α} {v : β} : ∀ {L : List (α × β)}, L.lookup k = some v → (k, v) ∈ L
  | [], h => by cases h
  | (a, b) :: L, h => by
    rw [List.lookup_cons] at h
    split at h
    · rename_i e
      cases h
      rw [eq_of_beq e]
      exact List.mem_cons_self
    · exact List.mem_cons_of_mem _ (it_lk h)
def it_own (o : Nat) : String := it_ows.getD o ""
theorem it_met_lt {y : Nat} {me : it_Me} (h : it_met y = some me) : y < 125 := (List.getElem?_eq_some_iff.mp h).1
theorem it_own_all : (List.range 125).all (fun y => match it_met y with | some me => decide (it_own (it_ow y) = me.1.cls) | none => false) = true := by decide +kernel
theorem it_own_ok {y : Nat} {me : it_Me} (h : it_met y = some me) : it_own (it_ow y) = me.1.cls := by
  have h1 := List.all_eq_true.mp it_own_all y (List.mem_range.mpr (it_met_lt h))
  rw [h] at h1
  exact of_decide_eq_true h1
/-- a word at a place of lw_tbl -/
def it_wd (i : Nat) (w : Cond) : Bool := decide (lw_tbl[i]? = some w) && it_mv w
theorem it_wd_in {i : Nat} {w : Cond} (h : it_wd i w = true) : w ∈ it_tb := by
  unfold it_wd at h
  rw [Bool.and_eq_true] at h
  exact it_in i (of_decide_eq_true h.1) h.2
def it_flc (r : it_Fl × Nat) : Bool := match it_cl[r.1.2.1]? with
  | some q => decide (r.1.2.1 < 30) && decide (r.1.2.2.1 < q.2.2) && decide ((q.2.1 r.1.2.2.1).1 = q.1) && it_wd r.2 (im_lk (it_own r.1.1.1) r.1.1.2 q.1 q.2.1 r.1.2.2.1 r.1.2.2.2)
  | none => false
theorem it_fls_all : it_fls.all it_flc = true := by decide +kernel
theorem it_fld_ok {y idx : Nat} {q : Nat × Nat × Option String} {me : it_Me} (h : it_fld y idx = some q) (hme : it_met y = some me) : ∃ C T N, it_cl[q.1]? = some (C, T, N) ∧ q.1 < 30 ∧ q.2.1 < N ∧ (T q.2.1).1 = C ∧ im_lk me.1.cls idx C T q.2.1 q.2.2 ∈ it_tb := by
  obtain ⟨r, hr, he⟩ := List.mem_map.mp (it_lk h)
  have h1 := List.all_eq_true.mp it_fls_all r hr
  unfold it_flc at h1
  rw [he] at h1
  simp only at h1
  split at h1
  · rename_i c hc
    simp only [Bool.and_eq_true, decide_eq_true_eq] at h1
    obtain ⟨⟨⟨h2, h3⟩, h4⟩, h5⟩ := h1
    refine ⟨c.1, c.2.1, c.2.2, hc, h2, h3, h4, ?_⟩
    rw [← it_own_ok hme]
    exact it_wd_in h5
  · cases h1
def it_clc (ci : Nat) : Bool := match it_cl[ci]? with
  | some q => decide (it_nf ci = q.2.2) && (List.range q.2.2).all (fun k => decide (parseFieldDescriptor (q.2.1 k).2.2.1 = some (it_ty ci k)) && (List.range q.2.2).all (fun j => decide (k = j) || decide ((q.2.1 k).2.1 ≠ (q.2.1 j).2.1)))
  | none => false
theorem it_cl_all : (List.range 13).all it_clc = true := by decide +kernel
/-- where the words lie that lay the fields -/
def it_lys : List (List Nat) := [[79, 81, 83, 85, 87, 89], [106, 108, 110], [136, 138, 140, 142, 144, 146], [157, 159, 161], [190, 192, 194, 196, 198, 200, 202], [237, 239, 241, 243, 245], [262, 264, 266, 268, 270, 272, 274], [287, 289, 291, 293], [317, 319, 321, 323], [329, 331], [344, 346], [358, 360, 362, 364, 366, 368, 370, 372, 374], [901, 903, 905, 907, 909, 911, 913, 915, 917, 919, 921, 923, 925, 927, 929, 931, 933, 935, 937, 939, 941, 943, 945, 947, 949, 951, 953, 955, 957, 959, 961, 963, 965, 967, 969, 971, 973, 975, 977, 979, 981, 983, 985, 987, 989, 991, 993]]
theorem it_lys_all : (List.range 13).all (fun ci => match it_cl[ci]? with | some q => (List.range q.2.2).all (fun k => it_wd ((it_lys.getD ci []).getD k 99999) (u_lay q.1 q.2.1 k)) | none => false) = true := by decide +kernel
theorem it_cl_ok {ci : Nat} {C : String} {T : u_T} {N : Nat} (h : it_cl[ci]? = some (C, T, N)) : (∀ k, k < N → u_lay C T k ∈ it_tb ∧ parseFieldDescriptor (T k).2.2.1 = some (it_ty ci k)) ∧ (∀ a, a < N → ∀ b, b < N → a ≠ b → (T a).2.1 ≠ (T b).2.1) ∧ it_nf ci = N := by
  have hlt : ci < 13 := (List.getElem?_eq_some_iff.mp h).1
  have h1 := List.all_eq_true.mp it_cl_all ci (List.mem_range.mpr hlt)
  have h2 := List.all_eq_true.mp it_lys_all ci (List.mem_range.mpr hlt)
  unfold it_clc at h1
  simp only [h, Bool.and_eq_true, decide_eq_true_eq, List.all_eq_true, List.mem_range, Bool.or_eq_true] at h1 h2
  exact ⟨fun k hk => ⟨it_wd_in (h2 k hk), (h1.2 k hk).1⟩, fun a ha b hb hne => ((h1.2 a ha).2 b hb).elim (fun e => absurd e hne) id, h1.1⟩
theorem it_pok_ok {y idx : Nat} {q : Nat × Nat × Option String} {me : it_Me} {C : String} {T : u_T} {N : Nat} (h : it_pok y idx = true) (hq : it_fld y idx = some q) (hme : it_met y = some me) (hc : it_cl[q.1]? = some (C, T, N)) : (T q.2.1).2.2.2 = false ∨ (q.2.2 = none ∧ me.1.cls = C ∧ me.1.name = "<init>") := by
  unfold it_pok at h
  simp only [hq, hme, hc, Bool.or_eq_true, Bool.and_eq_true, Bool.not_eq_true', beq_iff_eq] at h
  rcases h with h | ⟨⟨h1, h2⟩, h3⟩
  · exact Or.inl h
  · exact Or.inr ⟨h1, h2, h3⟩
/-- methods: where their code words lie, and those that say that their classes are there -/
def it_cds : List (Nat × Nat) := [(99999, 31), (61, 32), (69, 33), (98, 34), (118, 35), (124, 36), (168, 37), (210, 38), (218, 39), (224, 40), (300, 41), (307, 42), (338, 43), (380, 32), (384, 33), (388, 32), (392, 32), (395, 32), (399, 41), (403, 38), (406, 32), (413, 39), (417, 39), (422, 39), (426, 39), (430, 35), (434, 39), (438, 39), (442, 36), (446, 34), (450, 40), (454, 36), (458, 32), (462, 32), (466, 38), (470, 32), (474, 32), (478, 32), (483, 32), (486, 32), (490, 32), (494, 32), (498, 32), (502, 32), (505, 31), (511, 32), (515, 36), (519, 33), (590, 33), (594, 33), (598, 33), (602, 33), (607, 33), (611, 33), (615, 33), (619, 33), (623, 33), (711, 33), (715, 34), (719, 36), (723, 36), (727, 34), (746, 31), (750, 32), (755, 31), (759, 32), (763, 31), (768, 32), (771, 32), (778, 37), (800, 37), (804, 31), (808, 32), (814, 41), (818, 42), (821, 31), (825, 32), (829, 43), (834, 33), (840, 43), (847, 43), (852, 44), (999, 44), (1003, 44), (1006, 44), (1010, 44), (1014, 44), (1018, 44), (1022, 44), (1026, 44), (1030, 44), (1034, 44), (1038, 44), (1042, 44), (1046, 44), (1050, 44), (1054, 44), (1058, 44), (1061, 44), (1065, 44), (1069, 44), (1072, 44), (1076, 44), (1080, 44), (1084, 44), (1088, 44), (1092, 44), (1096, 44), (1099, 44), (1103, 44), (1107, 44), (1111, 44), (1115, 44), (1119, 44), (1123, 44), (1127, 44), (1131, 44), (1135, 44), (1139, 44), (1143, 44), (1147, 44), (1151, 44), (1155, 44), (1159, 44), (1163, 44)]
def it_bts : Cond → Option ByteArray
  | .code _ b _ _ => some b
  | .codeWith _ b _ _ _ => some b
  | _ => none
set_option maxRecDepth 100000 in
theorem it_bt : (it_cds.drop 1).map (fun q => (lw_tbl[q.1]?).bind it_bts) = (it_mes.drop 1).map (fun me => some me.2.1) := rfl
/-- the code word at a place is a method's, but for the bytes -/
def it_cwb (i : Nat) (me : it_Me) : Bool := match lw_tbl[i]? with
  | some (.code n _ mx r) => decide (n = me.1) && decide (mx = me.2.2.1) && decide (r = me.2.2.2.1) && decide (me.2.2.2.2 = [])
  | some (.codeWith n _ mx r hs) => decide (n = me.1) && decide (mx = me.2.2.1) && decide (r = me.2.2.2.1) && decide (me.2.2.2.2 = hs) && decide (¬ hs = [])
  | _ => false
def it_mec (y : Nat) : Bool := match it_met y with
  | some me => (decide (y = 0) || it_cwb (it_cds.getD y (99999, 0)).1 me) && it_wd (it_cds.getD y (99999, 0)).2 (.initialized me.1.cls) && plainName me.1.cls && decide (me.1.cls ≠ "java/lang/invoke/MethodHandle") && decide (me.1.cls ≠ "java/lang/invoke/VarHandle") && decide (me.2.2.1 ≤ 60)
  | none => false
theorem it_me_all : (List.range 125).all it_mec = true := by decide +kernel
theorem it_law : it_met 0 = some (x, code, maxLocals, ret, []) := rfl
theorem it_cds_len : it_cds.length = 125 := by decide +kernel
theorem it_bt_at {y : Nat} {me : it_Me} (h : it_met y = some me) (h0 : y ≠ 0) : (lw_tbl[(it_cds.getD y (99999, 0)).1]?).bind it_bts = some me.2.1 := by
  have hlt := it_met_lt h
  obtain ⟨k, rfl⟩ : ∃ k, y = k + 1 := ⟨y - 1, by omega⟩
  have h1 := congrArg (fun L => L[k]?) it_bt
  simp only [List.getElem?_map, List.getElem?_drop] at h1
  have hk : it_cds[1 + k]? = some (it_cds.getD (k + 1) (99999, 0)) := by
    rw [Nat.add_comm 1 k, List.getD_eq_getElem?_getD, List.getElem?_eq_getElem (by rw [it_cds_len]; omega)]
    rfl
  have hm : it_mes[1 + k]? = some me := by rw [Nat.add_comm 1 k]; exact h
  rw [hk, hm] at h1
  simpa using h1
theorem it_met_ok {y : Nat} {me : it_Me} (h : it_met y = some me) : (if me.2.2.2.2 = [] then Cond.code me.1 me.2.1 me.2.2.1 me.2.2.2.1 else Cond.codeWith me.1 me.2.1 me.2.2.1 me.2.2.2.1 me.2.2.2.2) ∈ it_tb ∧ Cond.initialized me.1.cls ∈ it_tb ∧ plainName me.1.cls = true ∧ (me.1.cls ≠ "java/lang/invoke/MethodHandle" ∧ me.1.cls ≠ "java/lang/invoke/VarHandle") ∧ me.2.2.1 ≤ 60 := by
  have h1 := List.all_eq_true.mp it_me_all y (List.mem_range.mpr (it_met_lt h))
  unfold it_mec at h1
  rw [h] at h1
  simp only [Bool.and_eq_true, Bool.or_eq_true, decide_eq_true_eq] at h1
  obtain ⟨⟨⟨⟨⟨h2, h3⟩, h4⟩, h5⟩, h6⟩, h7⟩ := h1
  refine ⟨?_, it_wd_in h3, h4, ⟨h5, h6⟩, h7⟩
  by_cases h0 : y = 0
  · subst h0
    rw [it_law] at h
    cases h
    exact List.mem_filter.mpr ⟨List.mem_cons_self, rfl⟩
  · have h8 := h2.resolve_left h0
    have h9 := it_bt_at h h0
    unfold it_cwb at h8
    split at h8
    · rename_i n b mx r hw
      rw [hw] at h9
      simp only [Bool.and_eq_true, decide_eq_true_eq] at h8
      obtain ⟨⟨⟨rfl, rfl⟩, rfl⟩, hnil⟩ := h8
      cases h9
      rw [if_pos hnil]
      exact it_in _ hw rfl
    · rename_i n b mx r hs hw
      rw [hw] at h9
      simp only [Bool.and_eq_true, decide_eq_true_eq] at h8
      obtain ⟨⟨⟨⟨rfl, rfl⟩, rfl⟩, rfl⟩, hnil⟩ := h8
      cases h9
      rw [if_neg hnil]
      exact it_in _ hw rfl
    · cases h8
def it_nwk (r : ((Nat × Nat) × Nat) × Nat × Nat × Nat) : Bool := match it_cl[r.1.2]? with
  | some q => decide (r.1.2 < 30) && it_wd r.2.1 (.classLink (it_own r.1.1.1) r.1.1.2 q.1) && it_wd r.2.2.1 (.instantiable q.1 (it_nsl r.1.2)) && it_wd r.2.2.2 (.initialized q.1)
  | none => false
theorem it_nw_all : it_nws.all it_nwk = true := by decide +kernel
theorem it_nwc_ok {y idx ci : Nat} {me : it_Me} (h : it_nwc y idx = some ci) (hme : it_met y = some me) : ∃ C T N, it_cl[ci]? = some (C, T, N) ∧ ci < 30 ∧ Cond.classLink me.1.cls idx C ∈ it_tb ∧ Cond.instantiable C (it_nsl ci) ∈ it_tb ∧ Cond.initialized C ∈ it_tb := by
  obtain ⟨r, hr, he⟩ := List.mem_map.mp (it_lk h)
  have h1 := List.all_eq_true.mp it_nw_all r hr
  unfold it_nwk at h1
  rw [he] at h1
  simp only at h1
  split at h1
  · rename_i c hc
    simp only [Bool.and_eq_true, decide_eq_true_eq] at h1
    obtain ⟨⟨⟨h2, h3⟩, h4⟩, h5⟩ := h1
    rw [it_own_ok hme] at h3
    exact ⟨c.1, c.2.1, c.2.2, hc, h2, it_wd_in h3, it_wd_in h4, it_wd_in h5⟩
  · cases h1
theorem it_ac_all : (it_wd 113 (.arrayClass .int) && it_wd 92 (.arrayClass .char) && it_wd 248 (.arrayClass .boolean) && it_wd 1164 (.arrayClass .long)) = true := by decide +kernel
theorem it_nak_ok {a : ArrayType} {kd : Nat} (h : it_nak a = some kd) : 30 ≤ kd ∧ kd ≠ 39 ∧ it_aty kd = some (newarray.typeOf a) ∧ Cond.arrayClass (newarray.typeOf a) ∈ it_tb ∧ componentBytes (newarray.typeOf a) ≤ 8 ∧ ∀ ad, im_v ad (defaultValue (newarray.typeOf a)) = defaultValue (newarray.typeOf a) := by
  have hw := it_ac_all
  simp only [Bool.and_eq_true] at hw
  obtain ⟨⟨⟨w1, w2⟩, w3⟩, w4⟩ := hw
  unfold it_nak at h
  split at h <;> rename_i ht <;> (try cases h) <;> rw [ht]
  · exact ⟨by decide, by decide, rfl, it_wd_in w1, by decide, fun _ => rfl⟩
  · exact ⟨by decide, by decide, rfl, it_wd_in w2, by decide, fun _ => rfl⟩
  · exact ⟨by decide, by decide, rfl, it_wd_in w3, by decide, fun _ => rfl⟩
  · exact ⟨by decide, by decide, rfl, it_wd_in w4, by decide, fun _ => rfl⟩
def it_anc (r : ((Nat × Nat) × (Nat × String)) × Nat × Nat) : Bool := decide (it_aty r.1.2.1 = some (.object r.1.2.2)) && decide (30 ≤ r.1.2.1) && decide (r.1.2.1 ≠ 39) && it_wd r.2.1 (.classLink (it_own r.1.1.1) r.1.1.2 r.1.2.2) && it_wd r.2.2 (.arrayOver (.object r.1.2.2))
theorem it_an_all : it_ans.all it_anc = true := by decide +kernel
theorem it_anw_ok {y idx kd : Nat} {me : it_Me} (h : it_anw y idx = some kd) (hme : it_met y = some me) : ∃ C, it_aty kd = some (.object C) ∧ 30 ≤ kd ∧ kd ≠ 39 ∧ Cond.classLink me.1.cls idx C ∈ it_tb ∧ Cond.arrayOver (.object C) ∈ it_tb := by
  unfold it_anw at h
  rw [Option.map_eq_some_iff] at h
  obtain ⟨q, hq, rfl⟩ := h
  obtain ⟨r, hr, he⟩ := List.mem_map.mp (it_lk hq)
  have h1 := List.all_eq_true.mp it_an_all r hr
  unfold it_anc at h1
  rw [he] at h1
  simp only [Bool.and_eq_true, decide_eq_true_eq] at h1
  obtain ⟨⟨⟨⟨h2, h3⟩, h4⟩, h5⟩, h6⟩ := h1
  rw [it_own_ok hme] at h5
  exact ⟨q.2, h2, h3, h4, it_wd_in h5, it_wd_in h6⟩
theorem it_acp_ok {kd kv : Nat} {ty : FieldType} (h : it_acp kd = some kv) (ht : it_aty kd = some ty) : kv < 30 ∧ ∃ C T N, it_cl[kv]? = some (C, T, N) ∧ ty = .object C := by
  unfold it_acp at h
  split at h
  · cases h; cases ht; exact ⟨by decide, _, _, _, rfl, rfl⟩
  · cases h; cases ht; exact ⟨by decide, _, _, _, rfl, rfl⟩
  · cases h
theorem it_str_ok {y idx k : Nat} (h : it_str y idx = some k) : k < 8 := by
  unfold it_str at h
  rw [Option.map_eq_some_iff] at h
  obtain ⟨q, hq, rfl⟩ := h
  have h1 : (it_sts.map (·.1)).all (fun r => decide (r.2.1 < 8)) = true := by decide
  exact of_decide_eq_true (List.all_eq_true.mp h1 _ (it_lk hq))
def it_cac (r : it_Ca × Nat × Nat × Nat) : Bool := match it_met r.1.2.2.1 with
  | some mz => decide ((parseMethodDescriptor mz.1.desc).map (fun d => d.parameters.length) = some r.1.2.2.2.1) && it_wd r.2.1 (match r.1.2.2.2.2 with | none => .methodLink (it_own r.1.1.1) r.1.1.2 mz.1 | some h => .methodLinkNest (it_own r.1.1.1) r.1.1.2 mz.1 h) &&
    (if r.1.2.1 = 0 then it_wd r.2.2.1 (.instanceMethod mz.1) && it_wd r.2.2.2 (.selects mz.1.cls mz.1 mz.1) && decide (mz.2.2.2.2 = []) && (match it_mcl r.1.2.2.1 with | some ci => decide (ci < 30) && (match it_cl[ci]? with | some q => decide (q.1 = mz.1.cls) | none => false) | none => false)
     else if r.1.2.1 = 1 then it_wd r.2.2.1 (.static mz.1)
     else it_wd r.2.2.1 (.instanceMethod mz.1) && decide (mz.1.name = "<init>") && decide (mz.2.2.2.2 = []) && decide (mz.2.2.2.1 = none))
  | none => false
theorem it_ca_all : it_cas.all it_cac = true := by decide +kernel
theorem it_cal_ok {y idx : Nat} {q : Nat × Nat × Nat × Option String} {me : it_Me} (h : it_cal y idx = some q) (hme : it_met y = some me) : ∃ mz, it_met q.2.1 = some mz ∧ (parseMethodDescriptor mz.1.desc).map (fun d => d.parameters.length) = some q.2.2.1 ∧
    (match q.2.2.2 with | none => Cond.methodLink me.1.cls idx mz.1 | some h => Cond.methodLinkNest me.1.cls idx mz.1 h) ∈ it_tb ∧
    (q.1 = 0 → Cond.instanceMethod mz.1 ∈ it_tb ∧ Cond.selects mz.1.cls mz.1 mz.1 ∈ it_tb ∧ mz.2.2.2.2 = [] ∧ ∃ ci T N, it_mcl q.2.1 = some ci ∧ it_cl[ci]? = some (mz.1.cls, T, N) ∧ ci < 30) ∧
    (q.1 = 1 → Cond.static mz.1 ∈ it_tb) ∧ (q.1 = 2 → mz.1.name = "<init>" ∧ Cond.instanceMethod mz.1 ∈ it_tb ∧ mz.2.2.2.2 = [] ∧ mz.2.2.2.1 = none) := by
  obtain ⟨r, hr, he⟩ := List.mem_map.mp (it_lk h)
  have h1 := List.all_eq_true.mp it_ca_all r hr
  unfold it_cac at h1
  rw [he] at h1
  simp only at h1
  split at h1
  · rename_i mz hmz
    rw [it_own_ok hme] at h1
    simp only [Bool.and_eq_true, decide_eq_true_eq] at h1
    obtain ⟨⟨h2, h3⟩, h4⟩ := h1
    refine ⟨mz, hmz, h2, it_wd_in h3, fun h0 => ?_, fun h0 => ?_, fun h0 => ?_⟩
    · rw [if_pos h0] at h4
      simp only [Bool.and_eq_true, decide_eq_true_eq] at h4
      obtain ⟨⟨⟨h5, h6⟩, h7⟩, h8⟩ := h4
      refine ⟨it_wd_in h5, it_wd_in h6, h7, ?_⟩
      split at h8
      · rename_i ci hci
        simp only [Bool.and_eq_true, decide_eq_true_eq] at h8
        obtain ⟨h9, h10⟩ := h8
        split at h10
        · rename_i q2 hq2
          exact ⟨ci, q2.2.1, q2.2.2, hci, by rw [hq2, ← of_decide_eq_true h10], h9⟩
        · cases h10
      · cases h8
    · rw [if_neg (by omega), if_pos h0] at h4
      exact it_wd_in h4
    · rw [if_neg (by omega), if_neg (by omega)] at h4
      simp only [Bool.and_eq_true, decide_eq_true_eq] at h4
      exact ⟨h4.1.1.2, it_wd_in h4.1.1.1, h4.1.2, h4.2⟩
  · cases h1
theorem it_ob_all : (it_obs.all (fun r => it_wd r.2 (.methodLink (it_own r.1.1) r.1.2 Lib.objectInit)) && it_wd 63 (.instanceMethod Lib.objectInit) && it_wd 64 (.code Lib.objectInit ⟨#[0xb1]⟩ 1 none)) = true := by decide +kernel
theorem it_obi_ok {y idx : Nat} {me : it_Me} (h : it_obi y idx = true) (hme : it_met y = some me) : Cond.methodLink me.1.cls idx Lib.objectInit ∈ it_tb ∧ Cond.instanceMethod Lib.objectInit ∈ it_tb ∧ Cond.code Lib.objectInit ⟨#[0xb1]⟩ 1 none ∈ it_tb := by
  have hw := it_ob_all
  simp only [Bool.and_eq_true] at hw
  unfold it_obi at h
  obtain ⟨r, hr, he⟩ := List.mem_map.mp (List.contains_iff_mem.mp h)
  have h1 := List.all_eq_true.mp hw.1.1 r hr
  rw [he, it_own_ok hme] at h1
  exact ⟨it_wd_in h1, it_wd_in hw.1.2, it_wd_in hw.2⟩
theorem it_mx_all : (it_mxs.all (fun r => it_wd r.2 (.methodLink (it_own r.1.1) r.1.2 Lib.Math.max.name)) && it_wd 408 (.static Lib.Math.max.name) && it_wd 51 (.initialized "java/lang/Math") && it_wd 409 (.code Lib.Math.max.name Lib.Math.max.code 2 (some .int))) = true := by decide +kernel
theorem it_mxx_ok {y idx : Nat} {me : it_Me} (h : it_mxx y idx = true) (hme : it_met y = some me) : Cond.methodLink me.1.cls idx Lib.Math.max.name ∈ it_tb ∧ Cond.static Lib.Math.max.name ∈ it_tb ∧ Cond.initialized "java/lang/Math" ∈ it_tb ∧ Cond.code Lib.Math.max.name Lib.Math.max.code 2 (some .int) ∈ it_tb := by
  have hw := it_mx_all
  simp only [Bool.and_eq_true] at hw
  unfold it_mxx at h
  obtain ⟨r, hr, he⟩ := List.mem_map.mp (List.contains_iff_mem.mp h)
  have h1 := List.all_eq_true.mp hw.1.1.1 r hr
  rw [he, it_own_ok hme] at h1
  exact ⟨it_wd_in h1, it_wd_in hw.1.1.2, it_wd_in hw.1.2, it_wd_in hw.2⟩
