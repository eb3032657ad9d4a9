/-! Rows for arrays of references of a known kind, and for switches. -/
section ROWS3
variable {d y pc : Nat} {ls st : List Value} {Q : im_O → im_M → Prop} {L : Nat} {xs : Nat → Int32} {mi : Nat → Nat → Int32} {rw : Nat → Nat} {o : Nat → Int64} {g z : Nat}
theorem r_aal {a : Nat} {ty : FieldType} {j : Int32} (h : im_at y pc .aaload 1) (hrf : ty.isReference = true) (hi : it_isa ty a = true) : iw d y pc ls (.int j :: .ref a :: st) (it_mem L xs mi rw o g z) Q ↔ it_inb L a j ∧ iw d y (pc + 1) ls (it_cv xs mi rw o a j.toNatClampNeg :: st) (it_mem L xs mi rw o g z) Q := by
  rw [r_aaload h (of_decide_eq_true hi).2.2 hrf]
  simp only [hi, true_and]
def r_tsI (d y : Nat) (ls st : List Value) (M : im_M) (Q : im_O → im_M → Prop) (x : Int32) (t0 : Nat) : List Nat → Nat → Prop
  | [], _ => iw d y t0 ls st M Q
  | t :: ts, k => if x = Int32.ofNat k then iw d y t ls st M Q else r_tsI d y ls st M Q x t0 ts (k + 1)
theorem r_tsI_eq {M : im_M} {x : Int32} {t0 : Nat} : ∀ (ts : List Nat) (k : Nat), k + ts.length < 1000 → (r_tsI d y ls st M Q x t0 ts k ↔ iw d y (if x.toInt < k ∨ (k : Int) + ts.length - 1 < x.toInt then t0 else ts.getD (x.toInt - k).toNat t0) ls st M Q) := by
  intro ts
  induction ts with
  | nil =>
    intro k _
    rw [if_pos (by simp only [List.length_nil]; omega)]
    exact Iff.rfl
  | cons t ts ih =>
    intro k hk
    unfold r_tsI
    have hk0 : (Int32.ofNat k).toInt = k := Int32.toInt_ofNat_of_lt (by simp only [List.length_cons] at hk; omega)
    by_cases e : x = Int32.ofNat k
    · rw [if_pos e, if_neg (by rw [e, hk0]; simp only [List.length_cons]; omega), e, hk0]
      simp
    · rw [if_neg e, ih (k + 1) (by simp only [List.length_cons] at hk; omega)]
      have hne : x.toInt ≠ k := fun q => e (Int32.toInt_inj.mp (by rw [q, hk0]))
      simp only [List.length_cons]
      by_cases h1 : x.toInt < k ∨ (k : Int) + (ts.length + 1 : Nat) - 1 < x.toInt
      · rw [if_pos h1, if_pos (by omega)]
      · rw [if_neg h1, if_neg (by omega)]
        have h2 : (x.toInt - k).toNat = (x.toInt - (k + 1 : Nat)).toNat + 1 := by omega
        rw [h2, List.getD_cons_succ]
theorem r_tsL {lo : Nat} {dflt hi : Int} {offs : Array Int} {len t0 : Nat} {ts : List Nat} {x : Int32} {M : im_M} (h : im_at y pc (.tableswitch dflt (lo : Int) hi offs) len) (h0 : im_j pc dflt = some t0) (hts : offs.toList.map (im_j pc) = ts.map some) (hn : (ts.length : Int) = hi - lo + 1) (hk : lo + ts.length < 1000) :
    iw d y pc ls (.int x :: st) M Q ↔ r_tsI d y ls st M Q x t0 ts lo := by
  rw [r_ts h h0 hts hn, r_tsI_eq ts lo hk]
  have e : (lo : Int) + ts.length - 1 = hi := by omega
  rw [e]
end ROWS3
