/-! Small numbers as ints. -/
def ii (n : Nat) : Int32 := Int32.ofNat n
theorem ii_toInt {n : Nat} (h : n < 2147483648) : (ii n).toInt = n := by
  unfold ii
  rw [Int32.toInt_ofNat_of_lt (by simpa using h)]
theorem ii_clamp {n : Nat} (h : n < 2147483648) : (ii n).toNatClampNeg = n := by
  unfold Int32.toNatClampNeg
  rw [ii_toInt h]
  rfl
theorem ii_lt {a b : Nat} (ha : a < 2147483648) (hb : b < 2147483648) : ii a < ii b ↔ a < b := by
  rw [Int32.lt_iff_toInt_lt, ii_toInt ha, ii_toInt hb]
  omega
theorem ii_le {a b : Nat} (ha : a < 2147483648) (hb : b < 2147483648) : ii a ≤ ii b ↔ a ≤ b := by
  rw [Int32.le_iff_toInt_le, ii_toInt ha, ii_toInt hb]
  omega
theorem ii_inj {a b : Nat} (ha : a < 2147483648) (hb : b < 2147483648) : ii a = ii b ↔ a = b := by
  constructor
  · intro h
    have := congrArg Int32.toInt h
    rw [ii_toInt ha, ii_toInt hb] at this
    omega
  · rintro rfl; rfl
theorem ii_add {a b : Nat} : ii a + ii b = ii (a + b) := by
  unfold ii
  rw [Int32.ofNat_add]
theorem ii_mul {a b : Nat} : ii a * ii b = ii (a * b) := by
  unfold ii
  rw [Int32.ofNat_mul]
theorem ii_sub {a b : Nat} (h : b ≤ a) : ii a - ii b = ii (a - b) := by
  have h1 : ii a = ii (a - b) + ii b := by rw [ii_add]; congr 1; omega
  rw [h1, Int32.add_sub_cancel]
theorem ii_of {x : Int32} (h : 0 ≤ x) : x = ii x.toNatClampNeg ∧ x.toNatClampNeg < 2147483648 := by
  have h1 : 0 ≤ x.toInt := Int32.le_iff_toInt_le.mp h
  have h2 := Int32.toInt_lt x
  have h3 : x.toNatClampNeg < 2147483648 := by
    unfold Int32.toNatClampNeg
    omega
  refine ⟨?_, h3⟩
  apply Int32.toInt_inj.mp
  rw [ii_toInt h3]
  unfold Int32.toNatClampNeg
  omega
theorem ii_below {x : Int32} {b : Nat} (hb : b < 2147483648) : (0 ≤ x ∧ x < ii b) ↔ ∃ n, n < b ∧ x = ii n := by
  constructor
  · rintro ⟨h0, h1⟩
    obtain ⟨e, hn⟩ := ii_of h0
    refine ⟨x.toNatClampNeg, ?_, e⟩
    rw [e, ii_lt hn hb] at h1
    exact h1
  · rintro ⟨n, hn, rfl⟩
    exact ⟨(ii_le (a := 0) (by decide) (by omega)).mpr (Nat.zero_le _), (ii_lt (by omega) hb).mpr hn⟩
theorem ii_inb {L a n : Nat} (hn : n < 2147483648) (h : n < it_ln L a) : it_inb L a (ii n) := by
  unfold it_inb
  rw [ii_clamp hn]
  rintro (h1 | h1)
  · rw [show (0 : Int32) = ii 0 from rfl, ii_lt hn (by decide)] at h1
    omega
  · omega
theorem it_up_app (mi : Nat → Nat → Int32) (k j : Nat) (x : Int32) (a b : Nat) : it_up mi k j x a b = if a = k ∧ b = j then x else mi a b := rfl
theorem it_up_s (mi : Nat → Nat → Int32) (k j : Nat) (x : Int32) (b : Nat) : it_up mi k j x k b = if b = j then x else mi k b := by simp [it_up]
theorem lit_0 : (0 : Int32) = ii 0 := rfl
theorem lit_1 : (1 : Int32) = ii 1 := rfl
theorem lit_2 : (2 : Int32) = ii 2 := rfl
theorem lit_3 : (3 : Int32) = ii 3 := rfl
theorem lit_4 : (4 : Int32) = ii 4 := rfl
theorem lit_5 : (5 : Int32) = ii 5 := rfl
theorem lit_6 : (6 : Int32) = ii 6 := rfl
theorem lit_7 : (7 : Int32) = ii 7 := rfl
theorem lit_8 : (8 : Int32) = ii 8 := rfl
theorem lit_9 : (9 : Int32) = ii 9 := rfl
theorem lit_10 : (10 : Int32) = ii 10 := rfl
theorem lit_15 : (15 : Int32) = ii 15 := rfl
theorem lit_16 : (16 : Int32) = ii 16 := rfl
theorem lit_26 : (26 : Int32) = ii 26 := rfl
theorem lit_27 : (27 : Int32) = ii 27 := rfl
theorem lit_31 : (31 : Int32) = ii 31 := rfl
theorem lit_32 : (32 : Int32) = ii 32 := rfl
theorem lit_33 : (33 : Int32) = ii 33 := rfl
theorem lit_38 : (38 : Int32) = ii 38 := rfl
theorem lit_39 : (39 : Int32) = ii 39 := rfl
theorem lit_40 : (40 : Int32) = ii 40 := rfl
theorem lit_41 : (41 : Int32) = ii 41 := rfl
theorem lit_44 : (44 : Int32) = ii 44 := rfl
theorem lit_46 : (46 : Int32) = ii 46 := rfl
theorem lit_47 : (47 : Int32) = ii 47 := rfl
theorem lit_48 : (48 : Int32) = ii 48 := rfl
theorem lit_50 : (50 : Int32) = ii 50 := rfl
theorem lit_51 : (51 : Int32) = ii 51 := rfl
theorem lit_52 : (52 : Int32) = ii 52 := rfl
theorem lit_53 : (53 : Int32) = ii 53 := rfl
theorem lit_54 : (54 : Int32) = ii 54 := rfl
theorem lit_55 : (55 : Int32) = ii 55 := rfl
theorem lit_56 : (56 : Int32) = ii 56 := rfl
theorem lit_57 : (57 : Int32) = ii 57 := rfl
theorem lit_58 : (58 : Int32) = ii 58 := rfl
theorem lit_59 : (59 : Int32) = ii 59 := rfl
theorem lit_60 : (60 : Int32) = ii 60 := rfl
theorem lit_61 : (61 : Int32) = ii 61 := rfl
theorem lit_62 : (62 : Int32) = ii 62 := rfl
theorem lit_63 : (63 : Int32) = ii 63 := rfl
theorem lit_64 : (64 : Int32) = ii 64 := rfl
theorem lit_65 : (65 : Int32) = ii 65 := rfl
theorem lit_66 : (66 : Int32) = ii 66 := rfl
theorem lit_67 : (67 : Int32) = ii 67 := rfl
theorem lit_68 : (68 : Int32) = ii 68 := rfl
theorem lit_69 : (69 : Int32) = ii 69 := rfl
theorem lit_70 : (70 : Int32) = ii 70 := rfl
theorem lit_97 : (97 : Int32) = ii 97 := rfl
theorem lit_98 : (98 : Int32) = ii 98 := rfl
theorem lit_99 : (99 : Int32) = ii 99 := rfl
theorem lit_100 : (100 : Int32) = ii 100 := rfl
theorem lit_101 : (101 : Int32) = ii 101 := rfl
theorem lit_102 : (102 : Int32) = ii 102 := rfl
theorem lit_103 : (103 : Int32) = ii 103 := rfl
theorem lit_104 : (104 : Int32) = ii 104 := rfl
theorem lit_105 : (105 : Int32) = ii 105 := rfl
theorem lit_106 : (106 : Int32) = ii 106 := rfl
theorem lit_107 : (107 : Int32) = ii 107 := rfl
theorem lit_108 : (108 : Int32) = ii 108 := rfl
theorem lit_109 : (109 : Int32) = ii 109 := rfl
theorem lit_110 : (110 : Int32) = ii 110 := rfl
theorem lit_111 : (111 : Int32) = ii 111 := rfl
theorem lit_112 : (112 : Int32) = ii 112 := rfl
theorem lit_113 : (113 : Int32) = ii 113 := rfl
theorem lit_114 : (114 : Int32) = ii 114 := rfl
theorem lit_115 : (115 : Int32) = ii 115 := rfl
theorem lit_116 : (116 : Int32) = ii 116 := rfl
theorem lit_117 : (117 : Int32) = ii 117 := rfl
theorem lit_118 : (118 : Int32) = ii 118 := rfl
theorem lit_119 : (119 : Int32) = ii 119 := rfl
theorem lit_120 : (120 : Int32) = ii 120 := rfl
theorem lit_121 : (121 : Int32) = ii 121 := rfl
theorem lit_122 : (122 : Int32) = ii 122 := rfl
theorem lit_123 : (123 : Int32) = ii 123 := rfl
theorem lit_124 : (124 : Int32) = ii 124 := rfl
theorem lit_125 : (125 : Int32) = ii 125 := rfl
theorem lit_126 : (126 : Int32) = ii 126 := rfl
