/-! Pure definitions: order of the fold, conditions, one event. -/
def fb1 (nx kn sp : Nat → Nat) (b : Option Nat) (o : Nat) : Option Nat := if nx o < kn o then (match b with | none => some o | some q => if sp (16 * o + nx o) < sp (16 * q + nx q) then some o else some q) else b
def fbest (nx kn sp : Nat → Nat) : Option Nat := fb1 nx kn sp (fb1 nx kn sp (fb1 nx kn sp none 0) 1) 2
def ford (kn sp : Nat → Nat) : Nat → (Nat → Nat) → List Nat
  | 0, _ => []
  | n + 1, nx => match fbest nx kn sp with
    | none => []
    | some o => (16 * o + nx o) :: ford kn sp n (va_up nx o (nx o + 1))
def hfit (k v st pr ow ac ro : Int32) : Prop := if k = 3 then pr < v else if k = 4 then pr = v else if k = 5 then v < pr else if k = 6 then ow = 4 else if k = 7 then ac = v else if k = 8 then ro = v else if k = 9 then ow = ac else if k = 10 then st = v else if k = 11 then ow = v else False
noncomputable def hst (K V : Nat → Int32) (st pr ow ac ro a : Int32) (j : Nat) : Int32 := if K j = 0 then a ^^^ 1 else if K j = 1 then (a >>> (1 &&& 31)) &&& ((a &&& 1) ||| -2) else if K j = 2 then (a >>> (1 &&& 31)) ||| (a &&& 1) else (a <<< (1 &&& 31)) ||| bb (hfit (K j) (V j) st pr ow ac ro)
def hrun (f : Int32 → Nat → Int32) : Nat → Nat → Int32 → Int32
  | 0, _, a => a
  | n + 1, j, a => hrun f n (j + 1) (f a j)
/-- the class's condition between two steps -/
def hC (K V : Nat → Int32) (st pr ow ac ro : Int32) (a b : Nat) : Prop := hrun (hst K V st pr ow ac ro) (b - a) a 1 &&& 1 = 1
/-- a rule that lets it pass -/
def it_alw (m : Nat → Nat → Int32) (k : Nat) (st pr ow ac ro goal : Int32) : Prop := ∃ r, r < k ∧ m 18 r = st ∧ m 19 r = goal ∧ hC (m 23) (m 24) st pr ow ac ro (m 20 r).toNatClampNeg (m 21 r).toNatClampNeg
abbrev EVT : Type := (Nat → Nat) × (Nat → Nat) × (Nat → Nat) × (Nat → Int32)
abbrev LWT : Type := (Nat → Int32) × (Nat → Int32) × Int32 × (Int32 → Int32 → Int32 → Int32 → Int32 → Int32 → Prop)
abbrev FST : Type := (Nat → Nat) × (Nat → Int32) × (Nat → Int32) × (Nat → Int32) × (Nat → Prop)
def fskip (E : EVT) (A : LWT) (S : FST) (e : Nat) : Prop := ¬ A.2.1 (E.1 e) ≤ A.1 (E.2.1 e) ∨ (E.1 e ≠ 0 ∧ (S.1 (E.2.2.1 e) = 0 ∨ (E.1 e = 1 ∧ ¬ A.2.2.2 (S.2.1 (E.2.2.1 e)) (S.2.2.1 (E.2.2.1 e)) (S.2.2.2.1 (E.2.2.1 e)) (ii (E.2.1 e)) (A.1 (E.2.1 e)) (E.2.2.2 e))))
/-- an event as the arrays have it, in bounds -/
def it_evt (E : EVT) (m : Nat → Nat → Int32) (k u i v c : Nat) : Prop := m k c = ii (E.1 c) ∧ E.1 c < 4 ∧ m u c = ii (E.2.1 c) ∧ E.2.1 c < 4 ∧ m i c = ii (E.2.2.1 c) ∧ E.2.2.1 c < 48 ∧ m v c = E.2.2.2 c
/-- the class's law -/
def it_lwC (A : LWT) (m : Nat → Nat → Int32) (k : Nat) : Prop := (∀ u, u < 4 → m 25 u = A.1 u ∧ m 26 u = A.2.1 u) ∧ m 18 0 = A.2.2.1 ∧ k ≤ 30 ∧ m 17 5 = ii k ∧ (∀ r, r < k → ∃ a b, m 20 r = ii a ∧ m 21 r = ii b ∧ a ≤ b ∧ b ≤ 120) ∧ ∀ st pr ow ac ro goal, A.2.2.2 st pr ow ac ro goal ↔ it_alw m k st pr ow ac ro goal
/-- a fold as the class keeps it; D: what has been weighed -/
def it_FR (F N : Nat) (m : Nat → Nat → Int32) (S : FST) (D : Nat → Prop) : Prop := (∀ i, i < 48 → m (F + 4) i = ii (S.1 i) ∧ S.1 i ≤ N ∧ (S.1 i ≠ 0 → m (F + 1) i = S.2.1 i ∧ m (F + 2) i = S.2.2.1 i ∧ m (F + 3) i = S.2.2.2.1 i)) ∧ ∀ e, e < 48 → D e → m (F + 5) e = bb (S.2.2.2.2 e)
noncomputable def fstep (E : EVT) (A : LWT) (S : FST) (e : Nat) : FST := @ite _ (fskip E A S e) (Classical.propDecidable _) (S.1, S.2.1, S.2.2.1, S.2.2.2.1, va_up S.2.2.2.2 e True)
  (va_up S.1 (E.2.2.1 e) (S.1 (E.2.2.1 e) + 1), (if E.1 e = 0 then va_up S.2.1 (E.2.2.1 e) A.2.2.1 else if E.1 e = 1 then va_up S.2.1 (E.2.2.1 e) (E.2.2.2 e) else S.2.1), (if E.1 e = 0 ∨ E.1 e = 2 then va_up S.2.2.1 (E.2.2.1 e) (E.2.2.2 e) else S.2.2.1), (if E.1 e = 0 then va_up S.2.2.2.1 (E.2.2.1 e) 4 else if E.1 e = 1 ∨ E.1 e = 2 then S.2.2.2.1 else va_up S.2.2.2.1 (E.2.2.1 e) (E.2.2.2 e)), va_up S.2.2.2.2 e False)
def EC (m : Nat → Nat → Int32) : EVT := (fun e => (m 28 e).toNatClampNeg, fun e => (m 30 e).toNatClampNeg, fun e => (m 31 e).toNatClampNeg, m 32)
def AC (wf ro : Nat → Nat → Int32) : LWT := (ro 25, ro 26, wf 18 0, it_alw wf (wf 17 5).toNatClampNeg)
def S0 : FST := (fun _ => 0, fun _ => 0, fun _ => 0, fun _ => 0, fun _ => False)
/-- the fold of what a place knows -/
noncomputable def it_fold (kn sp : Nat → Nat) (lg wf ro : Nat → Nat → Int32) : FST := List.foldl (fstep (EC lg) (AC wf ro)) S0 (ford kn sp 48 (fun _ => 0))
