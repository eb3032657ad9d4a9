/-! What the reference's fold of a place needs, out of the relation; what the relation does not see. -/
theorem ford_mem {kn sp : Nat → Nat} {o i : Nat} (ho : o < 3) (hi : i < kn o) : ∀ (n : Nat) (nx : Nat → Nat), (kn 0 - nx 0) + (kn 1 - nx 1) + (kn 2 - nx 2) ≤ n → nx o ≤ i → 16 * o + i ∈ ford kn sp n nx := by
  intro n
  induction n with
  | zero =>
    intro nx h h2
    exfalso
    rcases i_three ho with rfl | rfl | rfl <;> omega
  | succ n ih =>
    intro nx h h2
    cases hb : fbest nx kn sp with
    | none =>
      exfalso
      rw [fbest_none] at hb
      rcases i_three ho with rfl | rfl | rfl <;> omega
    | some q =>
      obtain ⟨hq, hq2⟩ := fbest_some hb
      have ef : ford kn sp (n + 1) nx = (16 * q + nx q) :: ford kn sp n (va_up nx q (nx q + 1)) := by
        show (match fbest nx kn sp with | none => [] | some o => (16 * o + nx o) :: ford kn sp n (va_up nx o (nx o + 1))) = _
        rw [hb]
      rw [ef]
      by_cases e : q = o ∧ nx q = i
      · rw [e.2, e.1]
        exact List.mem_cons_self
      · refine List.mem_cons_of_mem _ (ih _ ?_ ?_)
        · rcases i_three hq with rfl | rfl | rfl
          · rw [va_up_self, va_up_ne _ _ (by decide), va_up_ne _ _ (by decide)]; omega
          · rw [va_up_self, va_up_ne _ _ (by decide), va_up_ne _ _ (by decide)]; omega
          · rw [va_up_self, va_up_ne _ _ (by decide), va_up_ne _ _ (by decide)]; omega
        · by_cases e2 : o = q
          · subst e2
            rw [va_up_self]
            have : nx o ≠ i := fun q => e ⟨rfl, q⟩
            omega
          · rw [va_up_ne _ _ e2]
            exact h2
theorem ford_in {kn sp : Nat → Nat} {o i : Nat} (hk : ∀ o, o < 3 → kn o ≤ 16) (ho : o < 3) (hi : i < kn o) : 16 * o + i ∈ ford kn sp 48 (fun _ => 0) := by
  have a0 := hk 0 (by decide)
  have a1 := hk 1 (by decide)
  have a2 := hk 2 (by decide)
  exact ford_mem ho hi 48 _ (by omega) (Nat.zero_le _)
theorem win_cg {lo hi : Nat} {m m' : Nat → Nat → Int32} (h : ∀ a, lo ≤ a → a < hi → m' a = m a) : it_win lo hi m' = it_win lo hi m := by
  funext a
  unfold it_win
  split
  · rename_i q
    exact h a q.1 q.2
  · rfl
theorem inv_fr {mi mi' : Nat → Nat → Int32} {rw : Nat → Nat} (h : it_Inv mi rw) (hm : ∀ a, (a ≤ 101 ∧ a ≠ 99) ∨ (107 ≤ a ∧ a ≤ 125) ∨ a = 133 → mi' a = mi a) (h9 : ∀ k, k = 1 ∨ k = 3 ∨ k = 10 ∨ k = 15 ∨ k = 16 ∨ k = 20 ∨ k = 33 ∨ k = 45 → mi' 99 k = mi 99 k) : it_Inv mi' rw := by
  unfold it_Inv
  rw [win_cg (lo := 25) (hi := 27) (fun a h1 h2 => hm a (by omega)), win_cg (lo := 111) (hi := 113) (fun a h1 h2 => hm a (by omega)), win_cg (lo := 17) (hi := 25) (fun a h1 h2 => hm a (by omega)), win_cg (lo := 107) (hi := 111) (fun a h1 h2 => hm a (by omega)), win_cg (lo := 27) (hi := 34) (fun a h1 h2 => hm a (by omega)), win_cg (lo := 113) (hi := 119) (fun a h1 h2 => hm a (by omega)), win_cg (lo := 35) (hi := 77) (fun a h1 h2 => hm a (by omega)), win_cg (lo := 119) (hi := 122) (fun a h1 h2 => hm a (by omega)), win_cg (lo := 79) (hi := 97) (fun a h1 h2 => hm a (by omega)), win_cg (lo := 122) (hi := 126) (fun a h1 h2 => hm a (by omega))]
  rw [hm 8 (by omega), hm 9 (by omega), hm 10 (by omega), hm 11 (by omega), hm 12 (by omega), hm 17 (by omega), hm 27 (by omega), hm 77 (by omega), hm 97 (by omega), hm 98 (by omega), hm 100 (by omega), hm 101 (by omega), hm 133 (by omega), h9 1 (by omega), h9 3 (by omega), h9 10 (by omega), h9 15 (by omega), h9 16 (by omega), h9 20 (by omega), h9 33 (by omega), h9 45 (by omega)]
  exact h
/-- the events that a place knows, as the reference has them -/
theorem evt_M {mi : Nat → Nat → Int32} {cnt : Nat → Nat} {kn : Nat → Nat → Nat} {vw : Nat → Nat → Nat → Nat} {tm sp : Nat → Nat} {p : Nat} (hN : it_num cnt kn vw tm sp) (hG : it_log cnt sp (it_win 27 34 mi) (it_win 113 119 mi)) (hp : p < 3) : ∀ r j, r < 3 → j < kn p r → mi 115 (16 * r + j) = ii (sp (16 * r + j)) ∧ sp (16 * r + j) < 1000 ∧ it_evt (EC (it_win 27 34 mi)) mi 114 116 117 118 (16 * r + j) ∧ ((EC (it_win 27 34 mi)).1 (16 * r + j) = 0 → (EC (it_win 27 34 mi)).2.2.1 (16 * r + j) = 16 * r + j) := by
  intro r j hr hj
  have hjc : j < cnt r := Nat.lt_of_lt_of_le hj (hN.2.1 p r hp hr)
  have c0 := hN.1 0 (by decide)
  have c1 := hN.1 1 (by decide)
  have c2 := hN.1 2 (by decide)
  have cr := hN.1 r hr
  have hsp := (hN.2.2.2.2.2.1 r j hr hjc).2
  obtain ⟨g1, g2, g3, g4, g5, g6, ⟨a, ha, ea⟩, ⟨b, hb, eb⟩, ⟨c, hc, ec⟩, g10⟩ := hG.2.2 r j hr hjc
  have n1 : (EC (it_win 27 34 mi)).1 (16 * r + j) = a := by show (it_win 27 34 mi 28 (16 * r + j)).toNatClampNeg = a; rw [ea]; exact ii_clamp (by omega)
  have n2 : (EC (it_win 27 34 mi)).2.1 (16 * r + j) = b := by show (it_win 27 34 mi 30 (16 * r + j)).toNatClampNeg = b; rw [eb]; exact ii_clamp (by omega)
  have n3 : (EC (it_win 27 34 mi)).2.2.1 (16 * r + j) = c := by show (it_win 27 34 mi 31 (16 * r + j)).toNatClampNeg = c; rw [ec]; exact ii_clamp (by omega)
  rw [g6] at g2
  rw [ea] at g1
  rw [eb] at g3
  rw [ec] at g4
  rw [win_at (by omega) (by omega)] at g1 g2 g3 g4
  refine ⟨g2, by omega, ⟨?_, ?_, ?_, ?_, ?_, ?_, ?_⟩, fun h => ?_⟩
  · rw [n1]; exact g1
  · rw [n1]; exact ha
  · rw [n2]; exact g3
  · rw [n2]; exact hb
  · rw [n3]; exact g4
  · rw [n3]; exact hc
  · show mi 118 (16 * r + j) = it_win 27 34 mi 32 (16 * r + j)
    rw [← g5, win_at (by omega) (by omega)]
  · rw [n1] at h
    have h9 := g10 (by rw [ea, h]; rfl)
    rw [ec, ii_inj (by omega) (by omega)] at h9
    rw [n3]
    exact h9
/-- the same, as the class has them -/
theorem evt_C {mi : Nat → Nat → Int32} {cnt sp : Nat → Nat} {r j : Nat} (hN : cnt r ≤ 16) (hG : it_log cnt sp (it_win 27 34 mi) (it_win 113 119 mi)) (hr : r < 3) (hj : j < cnt r) : it_evt (EC (it_win 27 34 mi)) mi 28 30 31 32 (16 * r + j) := by
  obtain ⟨-, -, -, -, -, -, ⟨a, ha, ea⟩, ⟨b, hb, eb⟩, ⟨c, hc, ec⟩, -⟩ := hG.2.2 r j hr hj
  have n1 : (EC (it_win 27 34 mi)).1 (16 * r + j) = a := by show (it_win 27 34 mi 28 (16 * r + j)).toNatClampNeg = a; rw [ea]; exact ii_clamp (by omega)
  have n2 : (EC (it_win 27 34 mi)).2.1 (16 * r + j) = b := by show (it_win 27 34 mi 30 (16 * r + j)).toNatClampNeg = b; rw [eb]; exact ii_clamp (by omega)
  have n3 : (EC (it_win 27 34 mi)).2.2.1 (16 * r + j) = c := by show (it_win 27 34 mi 31 (16 * r + j)).toNatClampNeg = c; rw [ec]; exact ii_clamp (by omega)
  rw [win_at (by omega) (by omega)] at ea eb ec
  refine ⟨?_, ?_, ?_, ?_, ?_, ?_, ?_⟩
  · rw [n1]; exact ea
  · rw [n1]; exact ha
  · rw [n2]; exact eb
  · rw [n2]; exact hb
  · rw [n3]; exact ec
  · rw [n3]; exact hc
  · show mi 32 (16 * r + j) = it_win 27 34 mi 32 (16 * r + j)
    rw [win_at (by omega) (by omega)]
/-- with a workflow: both sides' law is the same -/
theorem law_M {mi : Nat → Nat → Int32} (h5 : it_rol (it_win 25 27 mi) (it_win 111 113 mi)) (h6 : it_wfl (it_win 17 25 mi) (it_win 107 111 mi) (mi 99 15) (mi 99 16) (mi 99 20)) (h0 : ¬ mi 17 5 = 0) : it_lwM (AC (it_win 17 25 mi) (it_win 25 27 mi)) mi ∧ it_W (it_win 17 25 mi) (it_win 25 27 mi) mi := by
  rcases h6 with ⟨h, -⟩ | ⟨k, S, T, w0, w1, w2, w3, w4, w5, w6, w7, w8, w9⟩
  · rw [win_at (by omega) (by omega)] at h
    exact absurd h h0
  · refine ⟨⟨fun u hu => ?_, ?_⟩, k, S, T, w1, w2, w3, w5, w6, fun j hj => ?_, w8, fun q hq => ?_, fun u hu => ?_⟩
    · obtain ⟨a1, a2⟩ := h5 u hu
      show mi 111 u = it_win 25 27 mi 25 u ∧ mi 112 u = it_win 25 27 mi 26 u
      rw [a1, a2, win_at (by omega) (by omega), win_at (by omega) (by omega)]
      exact ⟨rfl, rfl⟩
    · show mi 107 0 = it_win 17 25 mi 18 0
      rw [(w9 0 (by omega)).1, win_at (by omega) (by omega)]
    · have := w7 j hj
      rw [win_at (by omega) (by omega)] at this
      exact this
    · exact rul_fr (w9 q hq) (win_at (by omega) (by omega)).symm (win_at (by omega) (by omega)).symm (win_at (by omega) (by omega)).symm
    · rw [(h5 u hu).1, win_at (by omega) (by omega)]
theorem law_C {mi : Nat → Nat → Int32} (h6 : it_wfl (it_win 17 25 mi) (it_win 107 111 mi) (mi 99 15) (mi 99 16) (mi 99 20)) (h0 : ¬ mi 17 5 = 0) : ∃ k, it_lwC (AC (it_win 17 25 mi) (it_win 25 27 mi)) mi k := by
  rcases h6 with ⟨h, -⟩ | ⟨k, S, T, w0, w1, w2, w3, w4, w5, w6, w7, w8, w9⟩
  · rw [win_at (by omega) (by omega)] at h
    exact absurd h h0
  · have w2' := w2
    rw [win_at (by omega) (by omega)] at w2
    refine ⟨k, fun u hu => ⟨?_, ?_⟩, ?_, w1, w2, fun r hr => ?_, fun st pr ow ac ro goal => ?_⟩
    · show mi 25 u = it_win 25 27 mi 25 u
      rw [win_at (by omega) (by omega)]
    · show mi 26 u = it_win 25 27 mi 26 u
      rw [win_at (by omega) (by omega)]
    · show mi 18 0 = it_win 17 25 mi 18 0
      rw [win_at (by omega) (by omega)]
    · obtain ⟨-, -, a, b, w, u3, u4, -, -, u7, u8, -⟩ := w9 r hr
      rw [win_at (by omega) (by omega)] at u3 u4
      exact ⟨a, b, u3, u4, u7, u8⟩
    · show it_alw (it_win 17 25 mi) (it_win 17 25 mi 17 5).toNatClampNeg st pr ow ac ro goal ↔ _
      rw [w2', ii_clamp (by omega)]
      exact alw_f (fun a h1 h2 => win_at h1 h2)
theorem no_evt {mi : Nat → Nat → Int32} {cnt sp : Nat → Nat} {n : Nat} (h3 : mi 17 5 = 0 → mi 27 6 = 0) (hG : it_log cnt sp (it_win 27 34 mi) (it_win 113 119 mi)) (hc : ∀ o, o < 3 → cnt o ≤ 16) (hn : n ≠ 0) (hle : n ≤ cnt 0 + cnt 1 + cnt 2) : ¬ mi 17 5 = 0 := by
  intro h
  have c0 := hc 0 (by decide)
  have c1 := hc 1 (by decide)
  have c2 := hc 2 (by decide)
  have h1 := hG.2.1
  rw [win_at (by omega) (by omega), h3 h] at h1
  have := (ii_inj (a := 0) (by decide) (by omega)).mp h1
  omega
section
variable {d : Nat} {Q : im_O → im_M → Prop} {L : Nat} {xs : Nat → Int32} {rw : Nat → Nat} {o : Nat → Int64} {g z : Nat}
theorem rf {p : Nat} {mi m1 : Nat → Nat → Int32} {cnt : Nat → Nat} {kn : Nat → Nat → Nat} {vw : Nat → Nat → Nat → Nat} {tm sp : Nat → Nat} {v2 v3 v4 v5 v6 : Value} (h3 : mi 17 5 = 0 → mi 27 6 = 0) (h5 : it_rol (it_win 25 27 mi) (it_win 111 113 mi)) (h6 : it_wfl (it_win 17 25 mi) (it_win 107 111 mi) (mi 99 15) (mi 99 16) (mi 99 20)) (hN : it_num cnt kn vw tm sp) (hG : it_log cnt sp (it_win 27 34 mi) (it_win 113 119 mi)) (hS : it_sit kn vw tm (it_win 35 77 mi) (it_win 119 122 mi)) (hp : p < 3)
    (hm : ∀ a, 107 ≤ a → m1 a = mi a) (h16 : m1 99 16 = mi 99 16) (h20 : m1 99 20 = mi 99 20)
    (hQ : ∀ mi', (∀ a, a < 104 ∨ (107 ≤ a ∧ a ≤ 125) ∨ 133 ≤ a → mi' a = m1 a) → it_MR 48 mi' (it_fold (kn p) sp (it_win 27 34 mi) (it_win 17 25 mi) (it_win 25 27 mi)) (fun e => e ∈ ford (kn p) sp 48 (fun _ => 0)) → Q (.inl none) (it_mem L xs mi' rw o g z)) :
    iw (d + 6) 102 0 [.ref 99, .int (ii p), v2, v3, v4, v5, v6] [] (it_mem L xs m1 rw o g z) Q := by
  refine c102 (kn := kn p) (sp := sp) (E := EC (it_win 27 34 mi)) (A := AC (it_win 17 25 mi) (it_win 25 27 mi)) (S0 := S0) rfl h105_W hp (fun r hr => ?_) (fun r j hr hj => ?_) (fun hne => ?_) hQ
  · have h9 := (hS.1 p r hp hr).2
    rw [win_at (by omega) (by omega)] at h9
    rw [hm 119 (by omega)]
    exact ⟨h9, Nat.le_trans (hN.2.1 p r hp hr) (hN.1 r hr)⟩
  · obtain ⟨e1, e2, e3, e4⟩ := evt_M hN hG hp r j hr hj
    rw [hm 115 (by omega)]
    exact ⟨e1, e2, evtM_cong e3 (fun a _ _ => hm a (by omega)), e4⟩
  · have k0 := hN.2.1 p 0 hp (by decide)
    have k1 := hN.2.1 p 1 hp (by decide)
    have k2 := hN.2.1 p 2 hp (by decide)
    obtain ⟨l1, l2⟩ := law_M h5 h6 (no_evt h3 hG hN.1 hne (by omega))
    exact ⟨lwM_cong l1 (fun a _ _ => hm a (by omega)), W_fr l2 (fun a _ _ => hm a (by omega)) h16 h20⟩
end
