/-! The relation between the class and the reference that each call keeps. -/
def it_win (lo hi : Nat) (mi : Nat → Nat → Int32) : Nat → Nat → Int32 := fun a => if lo ≤ a ∧ a < hi then mi a else fun _ => 0
theorem win_at {lo hi a : Nat} {mi : Nat → Nat → Int32} (h1 : lo ≤ a) (h2 : a < hi) : it_win lo hi mi a = mi a := by
  unfold it_win
  rw [if_pos ⟨h1, h2⟩]
theorem win_out {lo hi k j : Nat} {x : Int32} {mi : Nat → Nat → Int32} (h : k < lo ∨ hi ≤ k) : it_win lo hi (it_up mi k j x) = it_win lo hi mi := by
  funext a
  unfold it_win
  split
  · exact it_up_f mi j x (by omega)
  · rfl
theorem win_in {lo hi k j : Nat} {x : Int32} {mi : Nat → Nat → Int32} (h : lo ≤ k ∧ k < hi) : it_win lo hi (it_up mi k j x) = it_up (it_win lo hi mi) k j x := by
  funext a b
  unfold it_win
  simp only [it_up_app]
  by_cases h1 : lo ≤ a ∧ a < hi
  · rw [if_pos h1, if_pos h1]
    exact it_up_app mi k j x a b
  · rw [if_neg h1, if_neg h1, if_neg (by intro q; rw [q.1] at h1; exact h1 h)]
/-- a text, blanks left out at the class's reader, kept in the reference's row -/
def it_tx (lim : Nat) (w l : Int32) (le : Nat → Int32) (w' : Int32) (dr : Nat → Int32) : Prop :=
  ∃ t : List Nat, t.length ≤ lim ∧ w = ii t.length ∧ w' = ii t.length ∧ (∀ c, c ∈ t → 32 ≤ c ∧ c ≤ 126) ∧ (∀ j, j < t.length → dr j = ii (t.getD j 0)) ∧
    l = ii (t.filter (· ≠ 32)).length ∧ ∀ j, j < (t.filter (· ≠ 32)).length → le j = ii ((t.filter (· ≠ 32)).getD j 0)
/-- numbers: events made, events known, views, clocks, stamps -/
def it_num (cnt : Nat → Nat) (kn : Nat → Nat → Nat) (vw : Nat → Nat → Nat → Nat) (tm sp : Nat → Nat) : Prop :=
  (∀ o, o < 3 → cnt o ≤ 16) ∧ (∀ p o, p < 3 → o < 3 → kn p o ≤ cnt o) ∧ (∀ p, p < 3 → kn p p = cnt p) ∧
  (∀ p q o, p < 3 → q < 3 → o < 3 → vw p q o ≤ kn p o ∧ vw p q o ≤ kn q o) ∧
  (∀ p, p < 3 → tm p ≤ cnt 0 + cnt 1 + cnt 2) ∧
  (∀ o i, o < 3 → i < cnt o → 1 ≤ sp (16 * o + i) ∧ sp (16 * o + i) ≤ cnt 0 + cnt 1 + cnt 2) ∧
  (∀ o i k, o < 3 → i < k → k < cnt o → sp (16 * o + i) < sp (16 * o + k)) ∧
  (∀ p o i, p < 3 → o < 3 → i < kn p o → sp (16 * o + i) ≤ tm p)
/-- the events: class's window 27..33, reference's 113..118 -/
def it_log (cnt sp : Nat → Nat) (m r : Nat → Nat → Int32) : Prop :=
  (∀ o, o < 3 → m 33 o = ii (cnt o) ∧ r 113 o = ii (cnt o)) ∧ m 27 6 = ii (cnt 0 + cnt 1 + cnt 2) ∧
  ∀ o i, o < 3 → i < cnt o → r 114 (16 * o + i) = m 28 (16 * o + i) ∧ r 115 (16 * o + i) = m 29 (16 * o + i) ∧ r 116 (16 * o + i) = m 30 (16 * o + i) ∧ r 117 (16 * o + i) = m 31 (16 * o + i) ∧ r 118 (16 * o + i) = m 32 (16 * o + i) ∧
    m 29 (16 * o + i) = ii (sp (16 * o + i)) ∧ (∃ n, n < 4 ∧ m 28 (16 * o + i) = ii n) ∧ (∃ n, n < 4 ∧ m 30 (16 * o + i) = ii n) ∧ (∃ n, n < 48 ∧ m 31 (16 * o + i) = ii n) ∧ (m 28 (16 * o + i) = 0 → m 31 (16 * o + i) = ii (16 * o + i))
/-- the places: class's window 35..76, reference's 119..121 -/
def it_sit (kn : Nat → Nat → Nat) (vw : Nat → Nat → Nat → Nat) (tm : Nat → Nat) (m r : Nat → Nat → Int32) : Prop :=
  (∀ p o, p < 3 → o < 3 → m (36 + 14 * p) o = ii (kn p o) ∧ r 119 (3 * p + o) = ii (kn p o)) ∧
  (∀ p q o, p < 3 → q < 3 → o < 3 → m (38 + 14 * p + q) o = ii (vw p q o) ∧ r 120 (9 * p + 3 * q + o) = ii (vw p q o)) ∧
  (∀ p, p < 3 → m (35 + 14 * p) 3 = ii (tm p) ∧ r 121 p = ii (tm p))
/-- the messages on their way: class's row and window 79..96, reference's 122..125 -/
def it_pst (cnt : Nat → Nat) (kn : Nat → Nat → Nat) (rw : Nat → Nat) (s s' : Int32) (m r : Nat → Nat → Int32) : Prop :=
  ∃ n, n ≤ 6 ∧ s = ii n ∧ s' = ii n ∧ (∀ k, k < 6 → ∃ i, i < 6 ∧ rw k = 79 + 3 * i) ∧ (∀ k l, k < 6 → l < 6 → rw k = rw l → k = l) ∧
  ∀ k, k < n → ∃ f t, f < 3 ∧ t < 3 ∧ f ≠ t ∧ m (rw k) 2 = ii f ∧ m (rw k) 3 = ii t ∧ r 122 k = ii f ∧ r 123 k = ii t ∧
    ∀ o, o < 3 → ∃ a b, a ≤ b ∧ b ≤ kn f o ∧ a ≤ kn t o ∧ m (rw k + 1) o = ii a ∧ m (rw k + 2) o = ii b ∧ r 124 (3 * k + o) = ii a ∧ r 125 (3 * k + o) = ii b
/-- what the latest query found -/
def it_fnd (c c' : Int32) (m r : Nat → Int32) : Prop := ∃ n, n ≤ 48 ∧ c = ii n ∧ c' = ii n ∧ ∀ k, k < n → m k = r k
def it_rol (m r : Nat → Nat → Int32) : Prop := ∀ k, k < 4 → m 25 k = r 111 k ∧ m 26 k = r 112 k
/-- a rule as both sides keep it; T: the text, S: how long it is -/
def it_rul (m r : Nat → Nat → Int32) (T : Nat → Nat) (S q : Nat) : Prop := m 18 q = r 107 q ∧ m 19 q = r 108 q ∧ ∃ a b w : Nat, m 20 q = ii a ∧ m 21 q = ii b ∧ r 109 q = ii w ∧ w ≤ S ∧ a ≤ b ∧ b ≤ 120 ∧
  ((w = 0 ∧ a = b) ∨ (w ≠ 0 ∧ ∃ c : CV, (pC false T S 6 w).2 = some c ∧ T (pC false T S 6 w).1 = 59 ∧ b = a + c.1.length ∧ ∀ j, j < c.1.length → m 23 (a + j) = (c.1.getD j (0, 0)).1 ∧ m 24 (a + j) = (c.1.getD j (0, 0)).2))
/-- the workflow: class's window 17..24, reference's 107..110 and its fields -/
def it_wfl (m r : Nat → Nat → Int32) (c n s : Int32) : Prop := (m 17 5 = 0 ∧ m 22 2 = 0 ∧ c = 0) ∨ (∃ (k S : Nat) (T : Nat → Nat), 1 ≤ k ∧ k ≤ 30 ∧ m 17 5 = ii k ∧ n = ii k ∧ c = 1 ∧ s = ii S ∧ S ≤ 120 ∧ (∀ j, j < S → r 110 j = ii (T j)) ∧ (∀ j, S ≤ j → T j = 0) ∧ ∀ q, q < k → it_rul m r T S q)
/-- the folds kept by the class are those of what is known -/
def it_fol (kn : Nat → Nat → Nat) (sp : Nat → Nat) (m lg wf ro : Nat → Nat → Int32) : Prop := ∀ p, p < 3 → it_FR (41 + 14 * p) 48 m (it_fold (kn p) sp lg wf ro) (fun e => e ∈ ford (kn p) sp 48 (fun _ => 0))
theorem ford_0 {kn sp : Nat → Nat} (h : ∀ o, o < 3 → kn o = 0) (n : Nat) : ford kn sp n (fun _ => 0) = [] := by
  cases n with
  | zero => rfl
  | succ n =>
    have hb : fbest (fun _ => 0) kn sp = none := by
      have f : ∀ b o, o < 3 → fb1 (fun _ => 0) kn sp b o = b := by
        intro b o ho
        unfold fb1
        rw [if_neg (by rw [h o ho]; exact Nat.lt_irrefl 0)]
      unfold fbest
      rw [f _ 0 (by decide), f _ 1 (by decide), f _ 2 (by decide)]
    show (match fbest (fun _ => 0) kn sp with | none => [] | some o => _) = _
    rw [hb]
theorem fold_0 {kn sp : Nat → Nat} {lg wf ro : Nat → Nat → Int32} (h : ∀ o, o < 3 → kn o = 0) : it_fold kn sp lg wf ro = S0 := by
  have e := ford_0 (sp := sp) h 48
  unfold it_fold
  rw [e]
  exact List.foldl_nil
theorem fol_ro {kn : Nat → Nat → Nat} {sp : Nat → Nat} {m lg wf ro ro' : Nat → Nat → Int32} (hk : ∀ p o, p < 3 → o < 3 → kn p o = 0) (h : it_fol kn sp m lg wf ro) : it_fol kn sp m lg wf ro' := by
  intro p hp
  have h1 := h p hp
  rw [fold_0 (fun o ho => hk p o hp ho)] at h1
  rw [fold_0 (fun o ho => hk p o hp ho)]
  exact h1
theorem fol_views {kn : Nat → Nat → Nat} {sp : Nat → Nat} {m m' lg wf ro : Nat → Nat → Int32} (h : it_fol kn sp m lg wf ro) (hm : ∀ a, (a = 42 ∨ a = 43 ∨ a = 44 ∨ a = 45 ∨ a = 46) ∨ (a = 56 ∨ a = 57 ∨ a = 58 ∨ a = 59 ∨ a = 60) ∨ (a = 70 ∨ a = 71 ∨ a = 72 ∨ a = 73 ∨ a = 74) → m' a = m a) : it_fol kn sp m' lg wf ro := by
  intro p hp
  obtain ⟨h1, h2⟩ := h p hp
  refine ⟨fun i hi => ?_, fun e he hd => ?_⟩
  · rw [hm (41 + 14 * p + 4) (by omega), hm (41 + 14 * p + 1) (by omega), hm (41 + 14 * p + 2) (by omega), hm (41 + 14 * p + 3) (by omega)]
    exact h1 i hi
  · rw [hm (41 + 14 * p + 5) (by omega)]
    exact h2 e he hd
def it_Inv (mi : Nat → Nat → Int32) (rw : Nat → Nat) : Prop :=
  it_tx 120 (mi 9 3) (mi 9 4) (mi 10) (mi 99 1) (mi 100) ∧ it_tx 40 (mi 11 3) (mi 11 4) (mi 12) (mi 99 3) (mi 101) ∧ (mi 8 8 = mi 99 10 ∧ mi 9 1 = 0 ∧ mi 11 1 = 1 ∧ (mi 17 5 = 0 → mi 27 6 = 0)) ∧
  it_fnd (mi 97 1) (mi 99 45) (mi 98) (mi 133) ∧ it_rol (it_win 25 27 mi) (it_win 111 113 mi) ∧ it_wfl (it_win 17 25 mi) (it_win 107 111 mi) (mi 99 15) (mi 99 16) (mi 99 20) ∧
  ∃ cnt kn vw tm sp, it_num cnt kn vw tm sp ∧ it_log cnt sp (it_win 27 34 mi) (it_win 113 119 mi) ∧ it_sit kn vw tm (it_win 35 77 mi) (it_win 119 122 mi) ∧
    it_pst cnt kn rw (mi 77 1) (mi 99 33) (it_win 79 97 mi) (it_win 122 126 mi) ∧ it_fol kn sp (it_win 35 77 mi) (it_win 27 34 mi) (it_win 17 25 mi) (it_win 25 27 mi)
/-- behind a call of the law -/
def it_K (L : Nat) (xs : Nat → Int32) (i g z : Nat) (Q : im_O → im_M → Prop) : Prop :=
  ∀ mi rw o g' z' l5 l6, it_Inv mi rw → g' ≤ g + 1 → z' ≤ z + 6 → iw 30 0 877 [.ref 0, .ref 8, .ref 99, .ref 134, .int (ii i), l5, l6] [] (it_mem L xs mi rw o g' z') Q
