/-! act: the relation behind it. -/
section
variable {mi mf : Nat → Nat → Int32} {rw : Nat → Nat} {cnt : Nat → Nat} {kn : Nat → Nat → Nat} {vw : Nat → Nat → Nat → Nat} {tm sp : Nat → Nat} {p : Nat}
theorem code_ne {o j c : Nat} (h : ¬ (o = p ∧ j = c)) (hj : j < 16) (hc : c < 16) : 16 * o + j ≠ 16 * p + c := by
  intro q
  exact h ⟨by omega, by omega⟩
/-- an event that is not kept -/
theorem inv_C1 (i1 : it_tx 120 (mi 9 3) (mi 9 4) (mi 10) (mi 99 1) (mi 100)) (i2 : it_tx 40 (mi 11 3) (mi 11 4) (mi 12) (mi 99 3) (mi 101)) (i3 : mi 8 8 = mi 99 10 ∧ mi 9 1 = 0 ∧ mi 11 1 = 1 ∧ (mi 17 5 = 0 → mi 27 6 = 0)) (i4 : it_fnd (mi 97 1) (mi 99 45) (mi 98) (mi 133)) (i5 : it_rol (it_win 25 27 mi) (it_win 111 113 mi)) (i6 : it_wfl (it_win 17 25 mi) (it_win 107 111 mi) (mi 99 15) (mi 99 16) (mi 99 20)) (hN : it_num cnt kn vw tm sp) (hG : it_log cnt sp (it_win 27 34 mi) (it_win 113 119 mi)) (i9 : it_sit kn vw tm (it_win 35 77 mi) (it_win 119 122 mi)) (i10 : it_pst cnt kn rw (mi 77 1) (mi 99 33) (it_win 79 97 mi) (it_win 122 126 mi)) (i11 : it_fol kn sp (it_win 35 77 mi) (it_win 27 34 mi) (it_win 17 25 mi) (it_win 25 27 mi))
    (hp : p < 3) (hc : cnt p < 16) (hm : ∀ a, (a ≤ 101 ∧ a ≠ 99 ∧ ¬ (28 ≤ a ∧ a ≤ 32) ∧ a ≠ 48 + 14 * p) ∨ (107 ≤ a ∧ a ≤ 125) ∨ a = 133 → mf a = mi a) (h9 : ∀ k, k ≠ 0 → mf 99 k = mi 99 k) (hd : ∀ a b, 28 ≤ a → a ≤ 32 → b ≠ 16 * p + cnt p → mf a b = mi a b) : it_Inv mf rw := by
  have hold : ∀ o j a, o < 3 → j < cnt o → 28 ≤ a → a ≤ 32 → it_win 27 34 mf a (16 * o + j) = it_win 27 34 mi a (16 * o + j) := by
    intro o j a ho hj h1 h2
    have := hN.1 o ho
    rw [win_at (by omega) (by omega), win_at (by omega) (by omega)]
    exact hd a _ h1 h2 (code_ne (fun q => by rw [q.1] at hj; omega) (by omega) hc)
  unfold it_Inv
  rw [win_cg (lo := 25) (hi := 27) (m := mi) (fun a h1 h2 => hm a (by omega)), win_cg (lo := 111) (hi := 113) (m := mi) (fun a h1 h2 => hm a (by omega)), win_cg (lo := 17) (hi := 25) (m := mi) (fun a h1 h2 => hm a (by omega)), win_cg (lo := 107) (hi := 111) (m := mi) (fun a h1 h2 => hm a (by omega)), win_cg (lo := 113) (hi := 119) (m := mi) (fun a h1 h2 => hm a (by omega)), win_cg (lo := 119) (hi := 122) (m := mi) (fun a h1 h2 => hm a (by omega)), win_cg (lo := 79) (hi := 97) (m := mi) (fun a h1 h2 => hm a (by omega)), win_cg (lo := 122) (hi := 126) (m := mi) (fun a h1 h2 => hm a (by omega))]
  rw [hm 8 (by omega), hm 9 (by omega), hm 10 (by omega), hm 11 (by omega), hm 12 (by omega), hm 17 (by omega), hm 27 (by omega), hm 77 (by omega), hm 97 (by omega), hm 98 (by omega), hm 100 (by omega), hm 101 (by omega), hm 133 (by omega), h9 1 (by decide), h9 3 (by decide), h9 10 (by decide), h9 15 (by decide), h9 16 (by decide), h9 20 (by decide), h9 33 (by decide), h9 45 (by decide)]
  refine ⟨i1, i2, i3, i4, i5, i6, cnt, kn, vw, tm, sp, hN, ⟨fun o ho => ?_, ?_, fun o j ho hj => ?_⟩, ⟨fun q o hq ho => ?_, fun q r o hq hr ho => ?_, fun q hq => ?_⟩, i10, fun q hq => ?_⟩
  · rw [win_at (lo := 27) (by omega) (by omega), hm 33 (by omega)]
    have := hG.1 o ho
    rw [win_at (lo := 27) (by omega) (by omega)] at this
    exact this
  · rw [win_at (by omega) (by omega), hm 27 (by omega)]
    have := hG.2.1
    rw [win_at (by omega) (by omega)] at this
    exact this
  · rw [hold o j 28 ho hj (by omega) (by omega), hold o j 29 ho hj (by omega) (by omega), hold o j 30 ho hj (by omega) (by omega), hold o j 31 ho hj (by omega) (by omega), hold o j 32 ho hj (by omega) (by omega)]
    exact hG.2.2 o j ho hj
  · rw [win_at (lo := 35) (by omega) (by omega), hm _ (by omega)]
    have := i9.1 q o hq ho
    rw [win_at (lo := 35) (by omega) (by omega)] at this
    exact this
  · rw [win_at (lo := 35) (by omega) (by omega), hm _ (by omega)]
    have := i9.2.1 q r o hq hr ho
    rw [win_at (lo := 35) (by omega) (by omega)] at this
    exact this
  · rw [win_at (lo := 35) (by omega) (by omega), hm _ (by omega)]
    have := i9.2.2 q hq
    rw [win_at (lo := 35) (by omega) (by omega)] at this
    exact this
  · rw [fold_same (lg := it_win 27 34 mi) (sp := sp) (fun o j _ _ => rfl) (fun o j ho hj => by
      have hjc : j < cnt o := Nat.lt_of_lt_of_le hj (hN.2.1 q o hq ho)
      exact ⟨hold o j 28 ho hjc (by omega) (by omega), hold o j 30 ho hjc (by omega) (by omega), hold o j 31 ho hjc (by omega) (by omega), hold o j 32 ho hjc (by omega) (by omega)⟩)]
    exact FR_fr (i11 q hq) (fun a h1 h2 => by rw [win_at (by omega) (by omega), win_at (by omega) (by omega), hm _ (by omega)])
/-- an event that is kept -/
theorem inv_C2 {t κ u j : Nat} {v : Int32} {E : EVT} (i1 : it_tx 120 (mi 9 3) (mi 9 4) (mi 10) (mi 99 1) (mi 100)) (i2 : it_tx 40 (mi 11 3) (mi 11 4) (mi 12) (mi 99 3) (mi 101)) (i3 : mi 8 8 = mi 99 10 ∧ mi 9 1 = 0 ∧ mi 11 1 = 1 ∧ (mi 17 5 = 0 → mi 27 6 = 0)) (hthere : ¬ mi 17 5 = 0) (i4 : it_fnd (mi 97 1) (mi 99 45) (mi 98) (mi 133)) (i5 : it_rol (it_win 25 27 mi) (it_win 111 113 mi)) (i6 : it_wfl (it_win 17 25 mi) (it_win 107 111 mi) (mi 99 15) (mi 99 16) (mi 99 20)) (hN : it_num cnt kn vw tm sp) (hG : it_log cnt sp (it_win 27 34 mi) (it_win 113 119 mi)) (i9 : it_sit kn vw tm (it_win 35 77 mi) (it_win 119 122 mi)) (i10 : it_pst cnt kn rw (mi 77 1) (mi 99 33) (it_win 79 97 mi) (it_win 122 126 mi)) (i11 : it_fol kn sp (it_win 35 77 mi) (it_win 27 34 mi) (it_win 17 25 mi) (it_win 25 27 mi))
    (hp : p < 3) (hc : cnt p < 16) (hκ : κ < 4) (hu : u < 4) (hj : j < 48) (hj0 : κ = 0 → j = 16 * p + cnt p)
    (hm : ∀ a, (a ≤ 101 ∧ a ≠ 99 ∧ ¬ (27 ≤ a ∧ a ≤ 33) ∧ ¬ (35 + 14 * p ≤ a ∧ a ≤ 48 + 14 * p)) ∨ (107 ≤ a ∧ a ≤ 112) ∨ a = 120 ∨ (122 ≤ a ∧ a ≤ 125) ∨ a = 133 → mf a = mi a) (h9 : ∀ k, k ≠ 0 → mf 99 k = mi 99 k)
    (h33 : ∀ b, mf 33 b = if b = p then ii (cnt p + 1) else mi 33 b) (h27 : mf 27 6 = ii (cnt 0 + cnt 1 + cnt 2 + 1)) (h28 : ∀ b, mf 28 b = if b = 16 * p + cnt p then ii κ else mi 28 b) (h29 : ∀ b, mf 29 b = if b = 16 * p + cnt p then ii (tm p + 1) else mi 29 b) (h30 : ∀ b, mf 30 b = if b = 16 * p + cnt p then ii u else mi 30 b) (h31 : ∀ b, mf 31 b = if b = 16 * p + cnt p then ii j else mi 31 b) (h32 : ∀ b, mf 32 b = if b = 16 * p + cnt p then v else mi 32 b)
    (h35 : mf (35 + 14 * p) 3 = ii (tm p + 1)) (h36 : ∀ b, mf (36 + 14 * p) b = if b = p then ii (cnt p + 1) else mi (36 + 14 * p) b) (h38 : ∀ r, r < 3 → mf (38 + 14 * p + r) = mi (38 + 14 * p + r))
    (h113 : ∀ b, mf 113 b = if b = p then ii (cnt p + 1) else mi 113 b) (h114 : ∀ b, mf 114 b = if b = 16 * p + cnt p then ii κ else mi 114 b) (h115 : ∀ b, mf 115 b = if b = 16 * p + cnt p then ii (tm p + 1) else mi 115 b) (h116 : ∀ b, mf 116 b = if b = 16 * p + cnt p then ii u else mi 116 b) (h117 : ∀ b, mf 117 b = if b = 16 * p + cnt p then ii j else mi 117 b) (h118 : ∀ b, mf 118 b = if b = 16 * p + cnt p then v else mi 118 b) (h119 : ∀ b, mf 119 b = if b = 4 * p then ii (cnt p + 1) else mi 119 b) (h121 : ∀ b, mf 121 b = if b = p then ii (tm p + 1) else mi 121 b)
    (hE : E.1 (16 * p + cnt p) = κ ∧ E.2.1 (16 * p + cnt p) = u ∧ E.2.2.1 (16 * p + cnt p) = j ∧ E.2.2.2 (16 * p + cnt p) = v)
    (hFR : it_FR (41 + 14 * p) 49 mf (fstep E (AC (it_win 17 25 mi) (it_win 25 27 mi)) (it_fold (kn p) sp (it_win 27 34 mi) (it_win 17 25 mi) (it_win 25 27 mi)) (16 * p + cnt p)) (fun e => e ∈ ford (kn p) sp 48 (fun _ => 0) ∨ e = 16 * p + cnt p)) : it_Inv mf rw := by
  have hpp := hN.2.2.1 p hp
  have hne : ∀ o j, o < 3 → j < cnt o → 16 * o + j ≠ 16 * p + cnt p := by
    intro o j ho hj
    have := hN.1 o ho
    exact code_ne (fun q => by rw [q.1] at hj; omega) (by omega) hc
  have hsp : ∀ o j, o < 3 → j < cnt o → va_up sp (16 * p + cnt p) (tm p + 1) (16 * o + j) = sp (16 * o + j) := fun o j ho hj => va_up_ne _ _ (hne o j ho hj)
  have htot : (va_up cnt p (cnt p + 1)) 0 + (va_up cnt p (cnt p + 1)) 1 + (va_up cnt p (cnt p + 1)) 2 = cnt 0 + cnt 1 + cnt 2 + 1 := by
    rcases i_three hp with rfl | rfl | rfl
    · rw [va_up_self, va_up_ne _ _ (by decide), va_up_ne _ _ (by decide)]; omega
    · rw [va_up_self, va_up_ne _ _ (by decide), va_up_ne _ _ (by decide)]; omega
    · rw [va_up_self, va_up_ne _ _ (by decide), va_up_ne _ _ (by decide)]; omega
  have hlg : ∀ o j a, o < 3 → j < cnt o → 28 ≤ a → a ≤ 32 → it_win 27 34 mf a (16 * o + j) = it_win 27 34 mi a (16 * o + j) := by
    intro o j a ho hj h1 h2
    rw [win_at (by omega) (by omega), win_at (by omega) (by omega)]
    have := hne o j ho hj
    rcases (show a = 28 ∨ a = 29 ∨ a = 30 ∨ a = 31 ∨ a = 32 by omega) with rfl | rfl | rfl | rfl | rfl
    · rw [h28, if_neg this]
    · rw [h29, if_neg this]
    · rw [h30, if_neg this]
    · rw [h31, if_neg this]
    · rw [h32, if_neg this]
  unfold it_Inv
  rw [win_cg (lo := 25) (hi := 27) (m := mi) (fun a h1 h2 => hm a (by omega)), win_cg (lo := 111) (hi := 113) (m := mi) (fun a h1 h2 => hm a (by omega)), win_cg (lo := 17) (hi := 25) (m := mi) (fun a h1 h2 => hm a (by omega)), win_cg (lo := 107) (hi := 111) (m := mi) (fun a h1 h2 => hm a (by omega)), win_cg (lo := 79) (hi := 97) (m := mi) (fun a h1 h2 => hm a (by omega)), win_cg (lo := 122) (hi := 126) (m := mi) (fun a h1 h2 => hm a (by omega))]
  rw [hm 8 (by omega), hm 9 (by omega), hm 10 (by omega), hm 11 (by omega), hm 12 (by omega), hm 17 (by omega), hm 77 (by omega), hm 97 (by omega), hm 98 (by omega), hm 100 (by omega), hm 101 (by omega), hm 133 (by omega), h9 1 (by decide), h9 3 (by decide), h9 10 (by decide), h9 15 (by decide), h9 16 (by decide), h9 20 (by decide), h9 33 (by decide), h9 45 (by decide)]
  refine ⟨i1, i2, ⟨i3.1, i3.2.1, i3.2.2.1, fun h => absurd h hthere⟩, i4, i5, i6, va_up cnt p (cnt p + 1), va_up kn p (va_up (kn p) p (kn p p + 1)), vw, va_up tm p (tm p + 1), va_up sp (16 * p + cnt p) (tm p + 1), num_act hN hp hc, ⟨fun o ho => ?_, ?_, fun o k ho hk => ?_⟩, ⟨fun q o hq ho => ?_, fun q r o hq hr ho => ?_, fun q hq => ?_⟩, pst_kn i10 (fun q o => ?_), fun q hq => ?_⟩
  · have h1 := hG.1 o ho
    rw [win_at (by omega) (by omega), win_at (by omega) (by omega)] at h1
    rw [win_at (by omega) (by omega), win_at (by omega) (by omega), h33, h113]
    by_cases e : o = p
    · subst e
      rw [if_pos rfl, if_pos rfl, va_up_self]
      exact ⟨rfl, rfl⟩
    · rw [if_neg e, if_neg e, va_up_ne _ _ e]
      exact h1
  · rw [win_at (by omega) (by omega), htot]
    exact h27
  · by_cases hko : k < cnt o
    · rw [hlg o k 28 ho hko (by omega) (by omega), hlg o k 29 ho hko (by omega) (by omega), hlg o k 30 ho hko (by omega) (by omega), hlg o k 31 ho hko (by omega) (by omega), hlg o k 32 ho hko (by omega) (by omega), hsp o k ho hko]
      have h1 := hG.2.2 o k ho hko
      have hn := hne o k ho hko
      rw [win_at (lo := 113) (by omega) (by omega), win_at (lo := 113) (by omega) (by omega), win_at (lo := 113) (by omega) (by omega), win_at (lo := 113) (by omega) (by omega), win_at (lo := 113) (by omega) (by omega)] at h1
      rw [win_at (lo := 113) (by omega) (by omega), win_at (lo := 113) (by omega) (by omega), win_at (lo := 113) (by omega) (by omega), win_at (lo := 113) (by omega) (by omega), win_at (lo := 113) (by omega) (by omega), h114, h115, h116, h117, h118, if_neg hn, if_neg hn, if_neg hn, if_neg hn, if_neg hn]
      exact h1
    · by_cases e : o = p
      · subst e
        rw [va_up_self] at hk
        obtain rfl : k = cnt o := by omega
        simp (disch := omega) only [win_at]
        rw [h28, h29, h30, h31, h32, h114, h115, h116, h117, h118, if_pos rfl, if_pos rfl, if_pos rfl, if_pos rfl, if_pos rfl, if_pos rfl, if_pos rfl, if_pos rfl, if_pos rfl, if_pos rfl, va_up_self]
        refine ⟨rfl, rfl, rfl, rfl, rfl, rfl, ⟨κ, hκ, rfl⟩, ⟨u, hu, rfl⟩, ⟨j, hj, rfl⟩, fun h => ?_⟩
        rw [hj0 ((ii_inj (b := 0) (by omega) (by decide)).mp h)]
      · rw [va_up_ne _ _ e] at hk
        exact absurd hk hko
  · have h1 := i9.1 q o hq ho
    rw [win_at (by omega) (by omega), win_at (by omega) (by omega)] at h1
    rw [win_at (by omega) (by omega), win_at (by omega) (by omega), h119]
    by_cases e : q = p
    · subst e
      rw [va_up_self, h36]
      by_cases e2 : o = q
      · subst e2
        rw [if_pos rfl, if_pos (by omega), va_up_self, hpp]
        exact ⟨rfl, rfl⟩
      · rw [if_neg e2, if_neg (by omega), va_up_ne _ _ e2]
        exact h1
    · rw [va_up_ne _ _ e, hm _ (by omega), if_neg (by omega)]
      exact h1
  · have h1 := i9.2.1 q r o hq hr ho
    rw [win_at (by omega) (by omega), win_at (by omega) (by omega)] at h1
    rw [win_at (by omega) (by omega), win_at (by omega) (by omega), hm 120 (by omega)]
    by_cases e : q = p
    · subst e
      rw [h38 r hr]
      exact h1
    · rw [hm _ (by omega)]
      exact h1
  · have h1 := i9.2.2 q hq
    rw [win_at (by omega) (by omega), win_at (by omega) (by omega)] at h1
    rw [win_at (by omega) (by omega), win_at (by omega) (by omega), h121]
    by_cases e : q = p
    · subst e
      rw [if_pos rfl, va_up_self]
      exact ⟨h35, rfl⟩
    · rw [if_neg e, va_up_ne _ _ e, hm _ (by omega)]
      exact h1
  · by_cases e : q = p
    · subst e
      rw [va_up_self]
      by_cases e2 : o = q
      · subst e2; rw [va_up_self]; omega
      · rw [va_up_ne _ _ e2]; exact Nat.le_refl _
    · rw [va_up_ne _ _ e]; exact Nat.le_refl _
  · have same : ∀ q, q < 3 → it_fold (kn q) (va_up sp (16 * p + cnt p) (tm p + 1)) (it_win 27 34 mf) (it_win 17 25 mi) (it_win 25 27 mi) = it_fold (kn q) sp (it_win 27 34 mi) (it_win 17 25 mi) (it_win 25 27 mi) := by
      intro q hq
      refine fold_same (fun o j ho hj => hsp o j ho (Nat.lt_of_lt_of_le hj (hN.2.1 q o hq ho))) (fun o j ho hj => ?_)
      have hjc : j < cnt o := Nat.lt_of_lt_of_le hj (hN.2.1 q o hq ho)
      exact ⟨hlg o j 28 ho hjc (by omega) (by omega), hlg o j 30 ho hjc (by omega) (by omega), hlg o j 31 ho hjc (by omega) (by omega), hlg o j 32 ho hjc (by omega) (by omega)⟩
    by_cases e : q = p
    · subst e
      rw [va_up_self]
      have hlast : ∀ o j, o < 3 → j < kn q o → va_up sp (16 * q + cnt q) (tm q + 1) (16 * o + j) < va_up sp (16 * q + cnt q) (tm q + 1) (16 * q + kn q q) := by
        intro o j ho hj
        rw [hpp, va_up_self, hsp o j ho (Nat.lt_of_lt_of_le hj (hN.2.1 q o hq ho))]
        have := hN.2.2.2.2.2.2.2 q o j hq ho hj
        omega
      have hk16 : ∀ o, o < 3 → kn q o ≤ 16 := fun o ho => Nat.le_trans (hN.2.1 q o hq ho) (hN.1 o ho)
      have hkl : kn q q < 16 := by rw [hpp]; exact hc
      have efold : it_fold (va_up (kn q) q (kn q q + 1)) (va_up sp (16 * q + cnt q) (tm q + 1)) (it_win 27 34 mf) (it_win 17 25 mi) (it_win 25 27 mi) = fstep E (AC (it_win 17 25 mi) (it_win 25 27 mi)) (it_fold (kn q) sp (it_win 27 34 mi) (it_win 17 25 mi) (it_win 25 27 mi)) (16 * q + cnt q) := by
        rw [fold_act hq hk16 hkl hlast, same q hq, hpp]
        refine fstep_E ?_ ?_ ?_ ?_
        · rw [hE.1]
          show (it_win 27 34 mf 28 (16 * q + cnt q)).toNatClampNeg = κ
          rw [win_at (by omega) (by omega), h28, if_pos rfl]
          exact ii_clamp (by omega)
        · rw [hE.2.1]
          show (it_win 27 34 mf 30 (16 * q + cnt q)).toNatClampNeg = u
          rw [win_at (by omega) (by omega), h30, if_pos rfl]
          exact ii_clamp (by omega)
        · rw [hE.2.2.1]
          show (it_win 27 34 mf 31 (16 * q + cnt q)).toNatClampNeg = j
          rw [win_at (by omega) (by omega), h31, if_pos rfl]
          exact ii_clamp (by omega)
        · rw [hE.2.2.2]
          show it_win 27 34 mf 32 (16 * q + cnt q) = v
          rw [win_at (by omega) (by omega), h32, if_pos rfl]
      have hle : ∀ i, (fstep E (AC (it_win 17 25 mi) (it_win 25 27 mi)) (it_fold (kn q) sp (it_win 27 34 mi) (it_win 17 25 mi) (it_win 25 27 mi)) (16 * q + cnt q)).1 i ≤ 48 := fun i => by rw [← efold]; exact fold_le
      rw [efold, ford_act hq hk16 hkl hlast, hpp, ford_sp (fun o j ho hj => hsp o j ho (Nat.lt_of_lt_of_le hj (hN.2.1 q o hq ho)))]
      refine ⟨fun i hi => ?_, fun x hx hd => ?_⟩
      · obtain ⟨f1, f2, f3⟩ := hFR.1 i hi
        rw [win_at (by omega) (by omega), win_at (by omega) (by omega), win_at (by omega) (by omega), win_at (by omega) (by omega)]
        exact ⟨f1, hle i, f3⟩
      · rw [win_at (by omega) (by omega)]
        refine hFR.2 x hx ?_
        rcases List.mem_append.mp hd with h | h
        · exact Or.inl h
        · exact Or.inr (List.mem_singleton.mp h)
    · rw [va_up_ne _ _ e, same q hq, ford_sp (fun o j ho hj => hsp o j ho (Nat.lt_of_lt_of_le hj (hN.2.1 q o hq ho)))]
      exact FR_fr (i11 q hq) (fun a h1 h2 => by rw [win_at (by omega) (by omega), win_at (by omega) (by omega), hm _ (by omega)])
end
