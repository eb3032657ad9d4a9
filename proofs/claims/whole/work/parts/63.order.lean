/-! The order of the fold, pure: of the next events of the origins the one with the least stamp, the first origin where stamps are alike. -/
theorem fb1_some {nx kn sp : Nat → Nat} {b : Option Nat} {o q : Nat} (hb : ∀ x, b = some x → nx x < kn x) (h : fb1 nx kn sp b o = some q) : nx q < kn q ∧ (q = o ∨ b = some q) := by
  unfold fb1 at h
  split at h
  · rename_i h1
    split at h
    · cases h; exact ⟨h1, Or.inl rfl⟩
    · rename_i x
      split at h
      · cases h; exact ⟨h1, Or.inl rfl⟩
      · cases h; exact ⟨hb _ rfl, Or.inr rfl⟩
  · exact ⟨hb _ h, Or.inr h⟩
theorem fb1_none {nx kn sp : Nat → Nat} {b : Option Nat} {o : Nat} : fb1 nx kn sp b o = none ↔ b = none ∧ kn o ≤ nx o := by
  unfold fb1
  by_cases h1 : nx o < kn o
  · rw [if_pos h1]
    cases b with
    | none => simp; omega
    | some q =>
      simp only
      split <;> simp
  · rw [if_neg h1]
    constructor
    · intro h; exact ⟨h, by omega⟩
    · exact fun h => h.1
theorem fbest_some {nx kn sp : Nat → Nat} {q : Nat} (h : fbest nx kn sp = some q) : q < 3 ∧ nx q < kn q := by
  unfold fbest at h
  have a0 : ∀ x, fb1 nx kn sp none 0 = some x → nx x < kn x := fun x hx => (fb1_some (fun _ h => by cases h) hx).1
  have a1 : ∀ x, fb1 nx kn sp (fb1 nx kn sp none 0) 1 = some x → nx x < kn x := fun x hx => (fb1_some a0 hx).1
  obtain ⟨h1, h2⟩ := fb1_some a1 h
  refine ⟨?_, h1⟩
  rcases h2 with h2 | h2
  · omega
  · rcases (fb1_some a0 h2).2 with h3 | h3
    · omega
    · rcases (fb1_some (fun _ h => by cases h) h3).2 with h4 | h4
      · omega
      · cases h4
theorem fbest_none {nx kn sp : Nat → Nat} : fbest nx kn sp = none ↔ kn 0 ≤ nx 0 ∧ kn 1 ≤ nx 1 ∧ kn 2 ≤ nx 2 := by
  unfold fbest
  rw [fb1_none, fb1_none, fb1_none]
  constructor
  · rintro ⟨⟨⟨_, h0⟩, h1⟩, h2⟩; exact ⟨h0, h1, h2⟩
  · rintro ⟨h0, h1, h2⟩; exact ⟨⟨⟨rfl, h0⟩, h1⟩, h2⟩
/-- an event more, with the greatest stamp of all: never the best while another is left -/
theorem fbest_more {nx kn sp : Nat → Nat} {p : Nat} (hp : p < 3) (hle : nx p ≤ kn p) (hsp : ∀ o j, o < 3 → j < kn o → sp (16 * o + j) < sp (16 * p + kn p)) (hne : ∃ o, o < 3 ∧ nx o < kn o) : fbest nx (va_up kn p (kn p + 1)) sp = fbest nx kn sp := by
  by_cases h : nx p < kn p
  · have e : ∀ b o, fb1 nx (va_up kn p (kn p + 1)) sp b o = fb1 nx kn sp b o := by
      intro b o
      unfold fb1
      by_cases eo : o = p
      · subst eo
        rw [va_up_self, if_pos (by omega), if_pos h]
      · rw [va_up_ne _ _ eo]
    unfold fbest
    rw [e, e, e]
  · have enx : nx p = kn p := by omega
    have e : ∀ b o, o ≠ p → fb1 nx (va_up kn p (kn p + 1)) sp b o = fb1 nx kn sp b o := by
      intro b o eo
      unfold fb1
      rw [va_up_ne _ _ eo]
    have ep : ∀ q, q < 3 → nx q < kn q → fb1 nx (va_up kn p (kn p + 1)) sp (some q) p = some q := by
      intro q hq hq2
      unfold fb1
      rw [va_up_self, if_pos (by omega)]
      simp only
      have := hsp q (nx q) hq hq2
      rw [if_neg (by rw [enx]; omega)]
    have ep2 : ∀ b, fb1 nx kn sp b p = b := by
      intro b
      unfold fb1
      rw [if_neg h]
    have ep0 : fb1 nx (va_up kn p (kn p + 1)) sp none p = some p := by
      unfold fb1
      rw [va_up_self, if_pos (by omega)]
    have over : ∀ o, o < 3 → o ≠ p → fb1 nx (va_up kn p (kn p + 1)) sp (some p) o = if nx o < kn o then some o else some p := by
      intro o ho eo
      rw [e _ _ eo]
      unfold fb1
      by_cases h1 : nx o < kn o
      · rw [if_pos h1, if_pos h1]
        simp only
        have := hsp o (nx o) ho h1
        rw [if_pos (by rw [enx]; omega)]
      · rw [if_neg h1, if_neg h1]
    have from0 : ∀ o, o < 3 → o ≠ p → fb1 nx kn sp none o = if nx o < kn o then some o else none := by
      intro o ho eo
      unfold fb1
      rfl
    obtain ⟨w, hw, hw2⟩ := hne
    unfold fbest
    rcases (show p = 0 ∨ p = 1 ∨ p = 2 by omega) with rfl | rfl | rfl
    · rw [ep0, ep2, over 1 (by omega) (by omega), from0 1 (by omega) (by omega)]
      by_cases h1 : nx 1 < kn 1
      · rw [if_pos h1, if_pos h1, e _ _ (by omega)]
      · rw [if_neg h1, if_neg h1]
        have h2 : nx 2 < kn 2 := by
          rcases (show w = 0 ∨ w = 1 ∨ w = 2 by omega) with rfl | rfl | rfl
          · exact absurd hw2 h
          · exact absurd hw2 h1
          · exact hw2
        rw [over 2 (by omega) (by omega), from0 2 (by omega) (by omega), if_pos h2, if_pos h2]
    · rw [e _ 0 (by omega), ep2]
      by_cases h0 : nx 0 < kn 0
      · rw [from0 0 (by omega) (by omega), if_pos h0, ep 0 (by omega) h0, e _ _ (by omega)]
      · rw [from0 0 (by omega) (by omega), if_neg h0, ep0]
        have h2 : nx 2 < kn 2 := by
          rcases (show w = 0 ∨ w = 1 ∨ w = 2 by omega) with rfl | rfl | rfl
          · exact absurd hw2 h0
          · exact absurd hw2 h
          · exact hw2
        rw [over 2 (by omega) (by omega), from0 2 (by omega) (by omega), if_pos h2, if_pos h2]
    · rw [e _ 0 (by omega), e _ 1 (by omega), ep2]
      cases hb : fb1 nx kn sp (fb1 nx kn sp none 0) 1 with
      | none =>
        exfalso
        rw [fb1_none, fb1_none] at hb
        rcases (show w = 0 ∨ w = 1 ∨ w = 2 by omega) with rfl | rfl | rfl <;> omega
      | some q =>
        have a0 : ∀ x, fb1 nx kn sp none 0 = some x → nx x < kn x := fun x hx => (fb1_some (fun _ h => by cases h) hx).1
        obtain ⟨h1, h2⟩ := fb1_some a0 hb
        have hq : q < 3 := by
          rcases h2 with h2 | h2
          · omega
          · rcases (fb1_some (fun _ h => by cases h) h2).2 with h4 | h4
            · omega
            · cases h4
        exact ep q hq h1
theorem ford_more {kn sp : Nat → Nat} {p : Nat} (hp : p < 3) (hsp : ∀ o j, o < 3 → j < kn o → sp (16 * o + j) < sp (16 * p + kn p)) : ∀ (n : Nat) (nx : Nat → Nat), (∀ o, o < 3 → nx o ≤ kn o) → n = (kn 0 - nx 0) + (kn 1 - nx 1) + (kn 2 - nx 2) → ∀ t, ford (va_up kn p (kn p + 1)) sp (n + 1 + t) nx = ford kn sp n nx ++ [16 * p + kn p] := by
  intro n
  induction n with
  | zero =>
    intro nx hnx hn t
    have h0 := hnx 0 (by decide)
    have h1 := hnx 1 (by decide)
    have h2 := hnx 2 (by decide)
    have en : nx p = kn p := by
      rcases (show p = 0 ∨ p = 1 ∨ p = 2 by omega) with rfl | rfl | rfl <;> omega
    have eb : fbest nx (va_up kn p (kn p + 1)) sp = some p := by
      cases hb : fbest nx (va_up kn p (kn p + 1)) sp with
      | none =>
        exfalso
        rw [fbest_none] at hb
        rcases (show p = 0 ∨ p = 1 ∨ p = 2 by omega) with rfl | rfl | rfl
        · have := hb.1; rw [va_up_self] at this; omega
        · have := hb.2.1; rw [va_up_self] at this; omega
        · have := hb.2.2; rw [va_up_self] at this; omega
      | some q =>
        obtain ⟨hq, hq2⟩ := fbest_some hb
        by_cases e : q = p
        · rw [e]
        · exfalso
          rw [va_up_ne _ _ e] at hq2
          rcases (show q = 0 ∨ q = 1 ∨ q = 2 by omega) with rfl | rfl | rfl <;> omega
    have e1 : ford (va_up kn p (kn p + 1)) sp (0 + 1 + t) nx = (16 * p + nx p) :: ford (va_up kn p (kn p + 1)) sp t (va_up nx p (nx p + 1)) := by
      rw [show 0 + 1 + t = t + 1 by omega]
      show (match fbest nx (va_up kn p (kn p + 1)) sp with | none => [] | some o => (16 * o + nx o) :: ford (va_up kn p (kn p + 1)) sp t (va_up nx o (nx o + 1))) = _
      rw [eb]
    have e2 : ford (va_up kn p (kn p + 1)) sp t (va_up nx p (nx p + 1)) = [] := by
      cases t with
      | zero => rfl
      | succ t =>
        show (match fbest (va_up nx p (nx p + 1)) (va_up kn p (kn p + 1)) sp with | none => [] | some o => _) = _
        have : fbest (va_up nx p (nx p + 1)) (va_up kn p (kn p + 1)) sp = none := by
          rw [fbest_none]
          have key : ∀ o, o < 3 → va_up kn p (kn p + 1) o ≤ va_up nx p (nx p + 1) o := by
            intro o ho
            by_cases e : o = p
            · subst e; rw [va_up_self, va_up_self]; omega
            · rw [va_up_ne _ _ e, va_up_ne _ _ e]
              rcases (show o = 0 ∨ o = 1 ∨ o = 2 by omega) with rfl | rfl | rfl <;> omega
          exact ⟨key 0 (by decide), key 1 (by decide), key 2 (by decide)⟩
        rw [this]
    rw [e1, e2, en]
    rfl
  | succ n ih =>
    intro nx hnx hn t
    have h0 := hnx 0 (by decide)
    have h1 := hnx 1 (by decide)
    have h2 := hnx 2 (by decide)
    have hne : ∃ o, o < 3 ∧ nx o < kn o := by
      by_cases a0 : nx 0 < kn 0
      · exact ⟨0, by decide, a0⟩
      by_cases a1 : nx 1 < kn 1
      · exact ⟨1, by decide, a1⟩
      exact ⟨2, by decide, by omega⟩
    have em := fbest_more (sp := sp) hp (hnx p hp) hsp hne
    cases hb : fbest nx kn sp with
    | none =>
      exfalso
      rw [fbest_none] at hb
      omega
    | some q =>
      obtain ⟨hq, hq2⟩ := fbest_some hb
      rw [hb] at em
      rw [show n + 1 + 1 + t = (n + 1 + t) + 1 by omega]
      show (match fbest nx (va_up kn p (kn p + 1)) sp with | none => [] | some o => (16 * o + nx o) :: ford (va_up kn p (kn p + 1)) sp (n + 1 + t) (va_up nx o (nx o + 1))) = (match fbest nx kn sp with | none => [] | some o => (16 * o + nx o) :: ford kn sp n (va_up nx o (nx o + 1))) ++ [16 * p + kn p]
      rw [em, hb]
      simp only
      rw [ih (va_up nx q (nx q + 1)) ?_ ?_ t]
      · rfl
      · intro o ho
        by_cases e : o = q
        · subst e; rw [va_up_self]; omega
        · rw [va_up_ne _ _ e]; exact hnx o ho
      · rcases (show q = 0 ∨ q = 1 ∨ q = 2 by omega) with rfl | rfl | rfl
        · rw [va_up_self, va_up_ne _ _ (by decide), va_up_ne _ _ (by decide)]; omega
        · rw [va_up_self, va_up_ne _ _ (by decide), va_up_ne _ _ (by decide)]; omega
        · rw [va_up_self, va_up_ne _ _ (by decide), va_up_ne _ _ (by decide)]; omega
