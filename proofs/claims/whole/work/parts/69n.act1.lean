/-! act, pure: a new event is the last one of its place's order. -/
theorem fstep_E {E E' : EVT} {A : LWT} {S : FST} {e : Nat} (h1 : E'.1 e = E.1 e) (h2 : E'.2.1 e = E.2.1 e) (h3 : E'.2.2.1 e = E.2.2.1 e) (h4 : E'.2.2.2 e = E.2.2.2 e) : fstep E' A S e = fstep E A S e := by
  have hs : fskip E' A S e ↔ fskip E A S e := by
    unfold fskip
    rw [h1, h2, h3, h4]
  by_cases h : fskip E A S e
  · rw [fstep_t h, fstep_t (hs.mpr h)]
  · rw [fstep_f h, fstep_f (fun q => h (hs.mp q)), h1, h3, h4]
theorem foldl_E {E E' : EVT} {A : LWT} : ∀ (l : List Nat) (S : FST), (∀ e, e ∈ l → E'.1 e = E.1 e ∧ E'.2.1 e = E.2.1 e ∧ E'.2.2.1 e = E.2.2.1 e ∧ E'.2.2.2 e = E.2.2.2 e) → l.foldl (fstep E' A) S = l.foldl (fstep E A) S := by
  intro l
  induction l with
  | nil => intro S _; rw [List.foldl_nil, List.foldl_nil]
  | cons e l ih =>
    intro S h
    obtain ⟨h1, h2, h3, h4⟩ := h e List.mem_cons_self
    rw [List.foldl_cons, List.foldl_cons, fstep_E h1 h2 h3 h4]
    exact ih _ (fun x hx => h x (List.mem_cons_of_mem _ hx))
theorem ford_of {kn sp : Nat → Nat} : ∀ (n : Nat) (nx : Nat → Nat) (e : Nat), e ∈ ford kn sp n nx → ∃ o i, o < 3 ∧ i < kn o ∧ e = 16 * o + i := by
  intro n
  induction n with
  | zero => intro nx e h; cases h
  | succ n ih =>
    intro nx e h
    cases hb : fbest nx kn sp with
    | none =>
      have ef : ford kn sp (n + 1) nx = [] := by
        show (match fbest nx kn sp with | none => [] | some o => (16 * o + nx o) :: ford kn sp n (va_up nx o (nx o + 1))) = _
        rw [hb]
      rw [ef] at h
      cases h
    | some q =>
      obtain ⟨hq, hq2⟩ := fbest_some hb
      have ef : ford kn sp (n + 1) nx = (16 * q + nx q) :: ford kn sp n (va_up nx q (nx q + 1)) := by
        show (match fbest nx kn sp with | none => [] | some o => (16 * o + nx o) :: ford kn sp n (va_up nx o (nx o + 1))) = _
        rw [hb]
      rw [ef] at h
      rcases List.mem_cons.mp h with h | h
      · exact ⟨q, nx q, hq, hq2, h⟩
      · exact ih _ e h
theorem fb1_sp {nx kn sp sp' : Nat → Nat} {b : Option Nat} {o : Nat} (ho : o < 3) (h : ∀ o j, o < 3 → j < kn o → sp' (16 * o + j) = sp (16 * o + j)) (hb : ∀ q, b = some q → q < 3 ∧ nx q < kn q) : fb1 nx kn sp' b o = fb1 nx kn sp b o := by
  unfold fb1
  by_cases hk : nx o < kn o
  · rw [if_pos hk, if_pos hk]
    cases b with
    | none => rfl
    | some q =>
      obtain ⟨h1, h2⟩ := hb q rfl
      simp only
      rw [h o (nx o) ho hk, h q (nx q) h1 h2]
  · rw [if_neg hk, if_neg hk]
theorem fbest_sp {nx kn sp sp' : Nat → Nat} (h : ∀ o j, o < 3 → j < kn o → sp' (16 * o + j) = sp (16 * o + j)) : fbest nx kn sp' = fbest nx kn sp := by
  have a0 : ∀ x, fb1 nx kn sp none 0 = some x → x < 3 ∧ nx x < kn x := fun x hx => by
    obtain ⟨h1, h2⟩ := fb1_some (fun _ h => by cases h) hx
    rcases h2 with h2 | h2
    · exact ⟨by omega, h1⟩
    · cases h2
  have a1 : ∀ x, fb1 nx kn sp (fb1 nx kn sp none 0) 1 = some x → x < 3 ∧ nx x < kn x := fun x hx => by
    obtain ⟨h1, h2⟩ := fb1_some (fun y hy => (a0 y hy).2) hx
    rcases h2 with h2 | h2
    · exact ⟨by omega, h1⟩
    · exact ⟨(a0 x h2).1, h1⟩
  unfold fbest
  rw [fb1_sp (b := none) (o := 0) (by decide) h (fun q hq => by cases hq), fb1_sp (o := 1) (by decide) h a0, fb1_sp (o := 2) (by decide) h a1]
theorem ford_sp {kn sp sp' : Nat → Nat} (h : ∀ o j, o < 3 → j < kn o → sp' (16 * o + j) = sp (16 * o + j)) : ∀ (n : Nat) (nx : Nat → Nat), ford kn sp' n nx = ford kn sp n nx := by
  intro n
  induction n with
  | zero => intro nx; rfl
  | succ n ih =>
    intro nx
    show (match fbest nx kn sp' with | none => [] | some o => (16 * o + nx o) :: ford kn sp' n (va_up nx o (nx o + 1))) = (match fbest nx kn sp with | none => [] | some o => (16 * o + nx o) :: ford kn sp n (va_up nx o (nx o + 1)))
    rw [fbest_sp h]
    cases fbest nx kn sp with
    | none => rfl
    | some q =>
      simp only
      rw [ih]
theorem fstep_le {E : EVT} {A : LWT} {S : FST} {e i : Nat} : (fstep E A S e).1 i ≤ S.1 i + 1 := by
  by_cases h : fskip E A S e
  · rw [fstep_t h]
    exact Nat.le_succ _
  · rw [fstep_f h]
    simp only
    by_cases e1 : i = E.2.2.1 e
    · subst e1; rw [va_up_self]; exact Nat.le_refl _
    · rw [va_up_ne _ _ e1]; exact Nat.le_succ _
theorem foldl_le {E : EVT} {A : LWT} {i : Nat} : ∀ (l : List Nat) (S : FST), (l.foldl (fstep E A) S).1 i ≤ S.1 i + l.length := by
  intro l
  induction l with
  | nil => intro S; exact Nat.le_refl _
  | cons e l ih =>
    intro S
    have h1 := ih (fstep E A S e)
    have h2 := fstep_le (E := E) (A := A) (S := S) (e := e) (i := i)
    show (l.foldl (fstep E A) (fstep E A S e)).1 i ≤ S.1 i + (l.length + 1)
    omega
theorem ford_len {kn sp : Nat → Nat} : ∀ (n : Nat) (nx : Nat → Nat), (ford kn sp n nx).length ≤ n := by
  intro n
  induction n with
  | zero => intro nx; exact Nat.le_refl _
  | succ n ih =>
    intro nx
    show (match fbest nx kn sp with | none => [] | some o => (16 * o + nx o) :: ford kn sp n (va_up nx o (nx o + 1))).length ≤ n + 1
    cases fbest nx kn sp with
    | none => exact Nat.zero_le _
    | some q =>
      simp only [List.length_cons]
      have := ih (va_up nx q (nx q + 1))
      omega
theorem fold_le {kn sp : Nat → Nat} {lg wf ro : Nat → Nat → Int32} {i : Nat} : (it_fold kn sp lg wf ro).1 i ≤ 48 := by
  have h1 := foldl_le (E := EC lg) (A := AC wf ro) (i := i) (ford kn sp 48 (fun _ => 0)) S0
  have h2 := ford_len (kn := kn) (sp := sp) 48 (fun _ => 0)
  have h3 : S0.1 i = 0 := rfl
  unfold it_fold
  omega
/-- the fold does not see what lies behind what is known -/
theorem fold_same {kn sp sp' : Nat → Nat} {lg lg' wf ro : Nat → Nat → Int32} (hsp : ∀ o j, o < 3 → j < kn o → sp' (16 * o + j) = sp (16 * o + j)) (hlg : ∀ o j, o < 3 → j < kn o → lg' 28 (16 * o + j) = lg 28 (16 * o + j) ∧ lg' 30 (16 * o + j) = lg 30 (16 * o + j) ∧ lg' 31 (16 * o + j) = lg 31 (16 * o + j) ∧ lg' 32 (16 * o + j) = lg 32 (16 * o + j)) : it_fold kn sp' lg' wf ro = it_fold kn sp lg wf ro := by
  unfold it_fold
  rw [ford_sp hsp]
  refine foldl_E _ _ (fun e he => ?_)
  obtain ⟨o, j, ho, hj, rfl⟩ := ford_of _ _ _ he
  obtain ⟨h1, h2, h3, h4⟩ := hlg o j ho hj
  exact ⟨congrArg Int32.toNatClampNeg h1, congrArg Int32.toNatClampNeg h2, congrArg Int32.toNatClampNeg h3, h4⟩
theorem ford_act {kn sp : Nat → Nat} {p : Nat} (hp : p < 3) (hk : ∀ o, o < 3 → kn o ≤ 16) (hkp : kn p < 16) (hsp : ∀ o j, o < 3 → j < kn o → sp (16 * o + j) < sp (16 * p + kn p)) : ford (va_up kn p (kn p + 1)) sp 48 (fun _ => 0) = ford kn sp 48 (fun _ => 0) ++ [16 * p + kn p] := by
  have k0 := hk 0 (by decide)
  have k1 := hk 1 (by decide)
  have k2 := hk 2 (by decide)
  have hle : kn 0 + kn 1 + kn 2 ≤ 47 := by
    rcases i_three hp with rfl | rfl | rfl <;> omega
  have h1 := ford_more hp hsp (kn 0 + kn 1 + kn 2) (fun _ => 0) (fun o _ => Nat.zero_le _) (by omega) (47 - (kn 0 + kn 1 + kn 2))
  rw [show kn 0 + kn 1 + kn 2 + 1 + (47 - (kn 0 + kn 1 + kn 2)) = 48 by omega] at h1
  have h2 := ford_enough (kn := kn) (sp := sp) (kn 0 + kn 1 + kn 2) (fun _ => 0) (by omega) (48 - (kn 0 + kn 1 + kn 2))
  rw [show kn 0 + kn 1 + kn 2 + (48 - (kn 0 + kn 1 + kn 2)) = 48 by omega] at h2
  rw [h1, h2]
theorem fold_act {kn sp : Nat → Nat} {p : Nat} {lg wf ro : Nat → Nat → Int32} (hp : p < 3) (hk : ∀ o, o < 3 → kn o ≤ 16) (hkp : kn p < 16) (hsp : ∀ o j, o < 3 → j < kn o → sp (16 * o + j) < sp (16 * p + kn p)) : it_fold (va_up kn p (kn p + 1)) sp lg wf ro = fstep (EC lg) (AC wf ro) (it_fold kn sp lg wf ro) (16 * p + kn p) := by
  unfold it_fold
  rw [ford_act hp hk hkp hsp, List.foldl_append]
  rfl
/-- numbers behind act -/
theorem num_act {cnt : Nat → Nat} {kn : Nat → Nat → Nat} {vw : Nat → Nat → Nat → Nat} {tm sp : Nat → Nat} {p : Nat} (hN : it_num cnt kn vw tm sp) (hp : p < 3) (hc : cnt p < 16) :
    it_num (va_up cnt p (cnt p + 1)) (va_up kn p (va_up (kn p) p (kn p p + 1))) vw (va_up tm p (tm p + 1)) (va_up sp (16 * p + cnt p) (tm p + 1)) := by
  obtain ⟨n1, n2, n3, n4, n5, n6, n7, n8⟩ := hN
  have htot : (va_up cnt p (cnt p + 1)) 0 + (va_up cnt p (cnt p + 1)) 1 + (va_up cnt p (cnt p + 1)) 2 = cnt 0 + cnt 1 + cnt 2 + 1 := by
    rcases i_three hp with rfl | rfl | rfl
    · rw [va_up_self, va_up_ne _ _ (by decide), va_up_ne _ _ (by decide)]; omega
    · rw [va_up_self, va_up_ne _ _ (by decide), va_up_ne _ _ (by decide)]; omega
    · rw [va_up_self, va_up_ne _ _ (by decide), va_up_ne _ _ (by decide)]; omega
  have hpp := n3 p hp
  have hold : ∀ o i, o < 3 → i < cnt o → va_up sp (16 * p + cnt p) (tm p + 1) (16 * o + i) = sp (16 * o + i) := by
    intro o i ho hi
    refine va_up_ne _ _ ?_
    have := n1 o ho
    by_cases e : o = p
    · subst e; omega
    · omega
  have hknle : ∀ q o, q < 3 → o < 3 → kn q o ≤ (va_up kn p (va_up (kn p) p (kn p p + 1))) q o := by
    intro q o hq ho
    by_cases e : q = p
    · subst e
      rw [va_up_self]
      by_cases e2 : o = q
      · subst e2; rw [va_up_self]; omega
      · rw [va_up_ne _ _ e2]; exact Nat.le_refl _
    · rw [va_up_ne _ _ e]; exact Nat.le_refl _
  refine ⟨fun o ho => ?_, fun q o hq ho => ?_, fun q hq => ?_, fun q r o hq hr ho => ?_, fun q hq => ?_, fun o i ho hi => ?_, fun o i k ho hi hk => ?_, fun q o i hq ho hi => ?_⟩
  · by_cases e : o = p
    · subst e; rw [va_up_self]; omega
    · rw [va_up_ne _ _ e]; exact n1 o ho
  · have h2 := n2 q o hq ho
    by_cases e : q = p
    · subst e
      rw [va_up_self]
      by_cases e2 : o = q
      · subst e2; rw [va_up_self, va_up_self]; omega
      · rw [va_up_ne _ _ e2, va_up_ne _ _ e2]; exact h2
    · rw [va_up_ne _ _ e]
      by_cases e2 : o = p
      · subst e2; rw [va_up_self]; omega
      · rw [va_up_ne _ _ e2]; exact h2
  · by_cases e : q = p
    · subst e; rw [va_up_self, va_up_self, va_up_self, hpp]
    · rw [va_up_ne _ _ e, va_up_ne _ _ e]; exact n3 q hq
  · obtain ⟨v1, v2⟩ := n4 q r o hq hr ho
    exact ⟨Nat.le_trans v1 (hknle q o hq ho), Nat.le_trans v2 (hknle r o hr ho)⟩
  · rw [htot]
    have h5 := n5 q hq
    by_cases e : q = p
    · subst e; rw [va_up_self]; omega
    · rw [va_up_ne _ _ e]; omega
  · rw [htot]
    by_cases hio : i < cnt o
    · rw [hold o i ho hio]
      have := n6 o i ho hio
      omega
    · by_cases e : o = p
      · subst e
        rw [va_up_self] at hi
        rw [show i = cnt o by omega, va_up_self]
        have := n5 o hp
        omega
      · rw [va_up_ne _ _ e] at hi
        exact absurd hi hio
  · by_cases e : o = p
    · subst e
      rw [va_up_self] at hk
      rw [hold o i hp (by omega)]
      by_cases hkc : k < cnt o
      · rw [hold o k hp hkc]
        exact n7 o i k hp hi hkc
      · rw [show k = cnt o by omega, va_up_self]
        have := n8 o o i hp hp (by omega)
        omega
    · rw [va_up_ne _ _ e] at hk
      rw [hold o i ho (by omega), hold o k ho hk]
      exact n7 o i k ho hi hk
  · by_cases e : q = p
    · subst e
      rw [va_up_self] at hi
      rw [va_up_self (f := tm)]
      by_cases hio : i < kn q o
      · rw [hold o i ho (Nat.lt_of_lt_of_le hio (n2 q o hq ho))]
        have := n8 q o i hq ho hio
        omega
      · by_cases e2 : o = q
        · subst e2
          rw [va_up_self] at hi
          rw [show i = cnt o by omega, va_up_self]
          exact Nat.le_refl _
        · rw [va_up_ne _ _ e2] at hi
          exact absurd hi hio
    · rw [va_up_ne _ _ e] at hi
      rw [va_up_ne _ _ e, hold o i ho (Nat.lt_of_lt_of_le hi (n2 q o hq ho))]
      exact n8 q o i hq ho hi
