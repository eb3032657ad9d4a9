/-! What is known of each place (printed by gen/facts.py). -/
theorem isk_8 : it_isk 11 8 = true := by decide +kernel
theorem cv_8_0 {xs : Nat → Int32} {mi : Nat → Nat → Int32} {rw : Nat → Nat} {o : Nat → Int64} : it_cv xs mi rw o 8 0 = .ref 9 := rfl
theorem cv_8_1 {xs : Nat → Int32} {mi : Nat → Nat → Int32} {rw : Nat → Nat} {o : Nat → Int64} : it_cv xs mi rw o 8 1 = .ref 11 := rfl
theorem cv_8_2 {xs : Nat → Int32} {mi : Nat → Nat → Int32} {rw : Nat → Nat} {o : Nat → Int64} : it_cv xs mi rw o 8 2 = .ref 13 := rfl
theorem cv_8_3 {xs : Nat → Int32} {mi : Nat → Nat → Int32} {rw : Nat → Nat} {o : Nat → Int64} : it_cv xs mi rw o 8 3 = .ref 16 := rfl
theorem cv_8_4 {xs : Nat → Int32} {mi : Nat → Nat → Int32} {rw : Nat → Nat} {o : Nat → Int64} : it_cv xs mi rw o 8 4 = .ref 27 := rfl
theorem cv_8_5 {xs : Nat → Int32} {mi : Nat → Nat → Int32} {rw : Nat → Nat} {o : Nat → Int64} : it_cv xs mi rw o 8 5 = .ref 34 := rfl
theorem cv_8_6 {xs : Nat → Int32} {mi : Nat → Nat → Int32} {rw : Nat → Nat} {o : Nat → Int64} : it_cv xs mi rw o 8 6 = .ref 77 := rfl
theorem cv_8_7 {xs : Nat → Int32} {mi : Nat → Nat → Int32} {rw : Nat → Nat} {o : Nat → Int64} : it_cv xs mi rw o 8 7 = .ref 97 := rfl
theorem cv_8_8 {xs : Nat → Int32} {mi : Nat → Nat → Int32} {rw : Nat → Nat} {o : Nat → Int64} : it_cv xs mi rw o 8 8 = .int (mi 8 8) := rfl
theorem isk_9 : it_isk 0 9 = true := by decide +kernel
theorem cv_9_0 {xs : Nat → Int32} {mi : Nat → Nat → Int32} {rw : Nat → Nat} {o : Nat → Int64} : it_cv xs mi rw o 9 0 = .ref 10 := rfl
theorem cv_9_1 {xs : Nat → Int32} {mi : Nat → Nat → Int32} {rw : Nat → Nat} {o : Nat → Int64} : it_cv xs mi rw o 9 1 = .int (mi 9 1) := rfl
theorem cv_9_2 {xs : Nat → Int32} {mi : Nat → Nat → Int32} {rw : Nat → Nat} {o : Nat → Int64} : it_cv xs mi rw o 9 2 = .ref 1 := rfl
theorem cv_9_3 {xs : Nat → Int32} {mi : Nat → Nat → Int32} {rw : Nat → Nat} {o : Nat → Int64} : it_cv xs mi rw o 9 3 = .int (mi 9 3) := rfl
theorem cv_9_4 {xs : Nat → Int32} {mi : Nat → Nat → Int32} {rw : Nat → Nat} {o : Nat → Int64} : it_cv xs mi rw o 9 4 = .int (mi 9 4) := rfl
theorem cv_9_5 {xs : Nat → Int32} {mi : Nat → Nat → Int32} {rw : Nat → Nat} {o : Nat → Int64} : it_cv xs mi rw o 9 5 = .int (mi 9 5) := rfl
theorem isa_10 : it_isa .char 10 = true := by decide +kernel
theorem ln_10 {L : Nat} : it_ln L 10 = 120 := rfl
theorem cv_10 {xs : Nat → Int32} {mi : Nat → Nat → Int32} {rw : Nat → Nat} {o : Nat → Int64} {j : Nat} : it_cv xs mi rw o 10 j = .int (mi 10 j) := rfl
theorem isk_11 : it_isk 0 11 = true := by decide +kernel
theorem cv_11_0 {xs : Nat → Int32} {mi : Nat → Nat → Int32} {rw : Nat → Nat} {o : Nat → Int64} : it_cv xs mi rw o 11 0 = .ref 12 := rfl
theorem cv_11_1 {xs : Nat → Int32} {mi : Nat → Nat → Int32} {rw : Nat → Nat} {o : Nat → Int64} : it_cv xs mi rw o 11 1 = .int (mi 11 1) := rfl
theorem cv_11_2 {xs : Nat → Int32} {mi : Nat → Nat → Int32} {rw : Nat → Nat} {o : Nat → Int64} : it_cv xs mi rw o 11 2 = .ref 2 := rfl
theorem cv_11_3 {xs : Nat → Int32} {mi : Nat → Nat → Int32} {rw : Nat → Nat} {o : Nat → Int64} : it_cv xs mi rw o 11 3 = .int (mi 11 3) := rfl
theorem cv_11_4 {xs : Nat → Int32} {mi : Nat → Nat → Int32} {rw : Nat → Nat} {o : Nat → Int64} : it_cv xs mi rw o 11 4 = .int (mi 11 4) := rfl
theorem cv_11_5 {xs : Nat → Int32} {mi : Nat → Nat → Int32} {rw : Nat → Nat} {o : Nat → Int64} : it_cv xs mi rw o 11 5 = .int (mi 11 5) := rfl
theorem isa_12 : it_isa .char 12 = true := by decide +kernel
theorem ln_12 {L : Nat} : it_ln L 12 = 40 := rfl
theorem cv_12 {xs : Nat → Int32} {mi : Nat → Nat → Int32} {rw : Nat → Nat} {o : Nat → Int64} {j : Nat} : it_cv xs mi rw o 12 j = .int (mi 12 j) := rfl
theorem isk_13 : it_isk 1 13 = true := by decide +kernel
theorem cv_13_0 {xs : Nat → Int32} {mi : Nat → Nat → Int32} {rw : Nat → Nat} {o : Nat → Int64} : it_cv xs mi rw o 13 0 = .ref 14 := rfl
theorem cv_13_1 {xs : Nat → Int32} {mi : Nat → Nat → Int32} {rw : Nat → Nat} {o : Nat → Int64} : it_cv xs mi rw o 13 1 = .ref 15 := rfl
theorem cv_13_2 {xs : Nat → Int32} {mi : Nat → Nat → Int32} {rw : Nat → Nat} {o : Nat → Int64} : it_cv xs mi rw o 13 2 = .int (mi 13 2) := rfl
theorem isa_14 : it_isa .int 14 = true := by decide +kernel
theorem ln_14 {L : Nat} : it_ln L 14 = 40 := rfl
theorem cv_14 {xs : Nat → Int32} {mi : Nat → Nat → Int32} {rw : Nat → Nat} {o : Nat → Int64} {j : Nat} : it_cv xs mi rw o 14 j = .int (mi 14 j) := rfl
theorem isa_15 : it_isa .int 15 = true := by decide +kernel
theorem ln_15 {L : Nat} : it_ln L 15 = 40 := rfl
theorem cv_15 {xs : Nat → Int32} {mi : Nat → Nat → Int32} {rw : Nat → Nat} {o : Nat → Int64} {j : Nat} : it_cv xs mi rw o 15 j = .int (mi 15 j) := rfl
theorem isk_16 : it_isk 3 16 = true := by decide +kernel
theorem cv_16_0 {xs : Nat → Int32} {mi : Nat → Nat → Int32} {rw : Nat → Nat} {o : Nat → Int64} : it_cv xs mi rw o 16 0 = .ref 17 := rfl
theorem cv_16_1 {xs : Nat → Int32} {mi : Nat → Nat → Int32} {rw : Nat → Nat} {o : Nat → Int64} : it_cv xs mi rw o 16 1 = .ref 25 := rfl
theorem cv_16_2 {xs : Nat → Int32} {mi : Nat → Nat → Int32} {rw : Nat → Nat} {o : Nat → Int64} : it_cv xs mi rw o 16 2 = .ref 26 := rfl
theorem isk_17 : it_isk 2 17 = true := by decide +kernel
theorem cv_17_0 {xs : Nat → Int32} {mi : Nat → Nat → Int32} {rw : Nat → Nat} {o : Nat → Int64} : it_cv xs mi rw o 17 0 = .ref 18 := rfl
theorem cv_17_1 {xs : Nat → Int32} {mi : Nat → Nat → Int32} {rw : Nat → Nat} {o : Nat → Int64} : it_cv xs mi rw o 17 1 = .ref 19 := rfl
theorem cv_17_2 {xs : Nat → Int32} {mi : Nat → Nat → Int32} {rw : Nat → Nat} {o : Nat → Int64} : it_cv xs mi rw o 17 2 = .ref 20 := rfl
theorem cv_17_3 {xs : Nat → Int32} {mi : Nat → Nat → Int32} {rw : Nat → Nat} {o : Nat → Int64} : it_cv xs mi rw o 17 3 = .ref 21 := rfl
theorem cv_17_4 {xs : Nat → Int32} {mi : Nat → Nat → Int32} {rw : Nat → Nat} {o : Nat → Int64} : it_cv xs mi rw o 17 4 = .ref 22 := rfl
theorem cv_17_5 {xs : Nat → Int32} {mi : Nat → Nat → Int32} {rw : Nat → Nat} {o : Nat → Int64} : it_cv xs mi rw o 17 5 = .int (mi 17 5) := rfl
theorem isa_18 : it_isa .int 18 = true := by decide +kernel
theorem ln_18 {L : Nat} : it_ln L 18 = 30 := rfl
theorem cv_18 {xs : Nat → Int32} {mi : Nat → Nat → Int32} {rw : Nat → Nat} {o : Nat → Int64} {j : Nat} : it_cv xs mi rw o 18 j = .int (mi 18 j) := rfl
theorem isa_19 : it_isa .int 19 = true := by decide +kernel
theorem ln_19 {L : Nat} : it_ln L 19 = 30 := rfl
theorem cv_19 {xs : Nat → Int32} {mi : Nat → Nat → Int32} {rw : Nat → Nat} {o : Nat → Int64} {j : Nat} : it_cv xs mi rw o 19 j = .int (mi 19 j) := rfl
theorem isa_20 : it_isa .int 20 = true := by decide +kernel
theorem ln_20 {L : Nat} : it_ln L 20 = 30 := rfl
theorem cv_20 {xs : Nat → Int32} {mi : Nat → Nat → Int32} {rw : Nat → Nat} {o : Nat → Int64} {j : Nat} : it_cv xs mi rw o 20 j = .int (mi 20 j) := rfl
theorem isa_21 : it_isa .int 21 = true := by decide +kernel
theorem ln_21 {L : Nat} : it_ln L 21 = 30 := rfl
theorem cv_21 {xs : Nat → Int32} {mi : Nat → Nat → Int32} {rw : Nat → Nat} {o : Nat → Int64} {j : Nat} : it_cv xs mi rw o 21 j = .int (mi 21 j) := rfl
theorem isk_22 : it_isk 1 22 = true := by decide +kernel
theorem cv_22_0 {xs : Nat → Int32} {mi : Nat → Nat → Int32} {rw : Nat → Nat} {o : Nat → Int64} : it_cv xs mi rw o 22 0 = .ref 23 := rfl
theorem cv_22_1 {xs : Nat → Int32} {mi : Nat → Nat → Int32} {rw : Nat → Nat} {o : Nat → Int64} : it_cv xs mi rw o 22 1 = .ref 24 := rfl
theorem cv_22_2 {xs : Nat → Int32} {mi : Nat → Nat → Int32} {rw : Nat → Nat} {o : Nat → Int64} : it_cv xs mi rw o 22 2 = .int (mi 22 2) := rfl
theorem isa_23 : it_isa .int 23 = true := by decide +kernel
theorem ln_23 {L : Nat} : it_ln L 23 = 120 := rfl
theorem cv_23 {xs : Nat → Int32} {mi : Nat → Nat → Int32} {rw : Nat → Nat} {o : Nat → Int64} {j : Nat} : it_cv xs mi rw o 23 j = .int (mi 23 j) := rfl
theorem isa_24 : it_isa .int 24 = true := by decide +kernel
theorem ln_24 {L : Nat} : it_ln L 24 = 120 := rfl
theorem cv_24 {xs : Nat → Int32} {mi : Nat → Nat → Int32} {rw : Nat → Nat} {o : Nat → Int64} {j : Nat} : it_cv xs mi rw o 24 j = .int (mi 24 j) := rfl
theorem isa_25 : it_isa .int 25 = true := by decide +kernel
theorem ln_25 {L : Nat} : it_ln L 25 = 4 := rfl
theorem cv_25 {xs : Nat → Int32} {mi : Nat → Nat → Int32} {rw : Nat → Nat} {o : Nat → Int64} {j : Nat} : it_cv xs mi rw o 25 j = .int (mi 25 j) := rfl
theorem isa_26 : it_isa .int 26 = true := by decide +kernel
theorem ln_26 {L : Nat} : it_ln L 26 = 4 := rfl
theorem cv_26 {xs : Nat → Int32} {mi : Nat → Nat → Int32} {rw : Nat → Nat} {o : Nat → Int64} {j : Nat} : it_cv xs mi rw o 26 j = .int (mi 26 j) := rfl
theorem isk_27 : it_isk 4 27 = true := by decide +kernel
theorem cv_27_0 {xs : Nat → Int32} {mi : Nat → Nat → Int32} {rw : Nat → Nat} {o : Nat → Int64} : it_cv xs mi rw o 27 0 = .ref 28 := rfl
theorem cv_27_1 {xs : Nat → Int32} {mi : Nat → Nat → Int32} {rw : Nat → Nat} {o : Nat → Int64} : it_cv xs mi rw o 27 1 = .ref 29 := rfl
theorem cv_27_2 {xs : Nat → Int32} {mi : Nat → Nat → Int32} {rw : Nat → Nat} {o : Nat → Int64} : it_cv xs mi rw o 27 2 = .ref 30 := rfl
theorem cv_27_3 {xs : Nat → Int32} {mi : Nat → Nat → Int32} {rw : Nat → Nat} {o : Nat → Int64} : it_cv xs mi rw o 27 3 = .ref 31 := rfl
theorem cv_27_4 {xs : Nat → Int32} {mi : Nat → Nat → Int32} {rw : Nat → Nat} {o : Nat → Int64} : it_cv xs mi rw o 27 4 = .ref 32 := rfl
theorem cv_27_5 {xs : Nat → Int32} {mi : Nat → Nat → Int32} {rw : Nat → Nat} {o : Nat → Int64} : it_cv xs mi rw o 27 5 = .ref 33 := rfl
theorem cv_27_6 {xs : Nat → Int32} {mi : Nat → Nat → Int32} {rw : Nat → Nat} {o : Nat → Int64} : it_cv xs mi rw o 27 6 = .int (mi 27 6) := rfl
theorem isa_28 : it_isa .int 28 = true := by decide +kernel
theorem ln_28 {L : Nat} : it_ln L 28 = 48 := rfl
theorem cv_28 {xs : Nat → Int32} {mi : Nat → Nat → Int32} {rw : Nat → Nat} {o : Nat → Int64} {j : Nat} : it_cv xs mi rw o 28 j = .int (mi 28 j) := rfl
theorem isa_29 : it_isa .int 29 = true := by decide +kernel
theorem ln_29 {L : Nat} : it_ln L 29 = 48 := rfl
theorem cv_29 {xs : Nat → Int32} {mi : Nat → Nat → Int32} {rw : Nat → Nat} {o : Nat → Int64} {j : Nat} : it_cv xs mi rw o 29 j = .int (mi 29 j) := rfl
theorem isa_30 : it_isa .int 30 = true := by decide +kernel
theorem ln_30 {L : Nat} : it_ln L 30 = 48 := rfl
theorem cv_30 {xs : Nat → Int32} {mi : Nat → Nat → Int32} {rw : Nat → Nat} {o : Nat → Int64} {j : Nat} : it_cv xs mi rw o 30 j = .int (mi 30 j) := rfl
theorem isa_31 : it_isa .int 31 = true := by decide +kernel
theorem ln_31 {L : Nat} : it_ln L 31 = 48 := rfl
theorem cv_31 {xs : Nat → Int32} {mi : Nat → Nat → Int32} {rw : Nat → Nat} {o : Nat → Int64} {j : Nat} : it_cv xs mi rw o 31 j = .int (mi 31 j) := rfl
theorem isa_32 : it_isa .int 32 = true := by decide +kernel
theorem ln_32 {L : Nat} : it_ln L 32 = 48 := rfl
theorem cv_32 {xs : Nat → Int32} {mi : Nat → Nat → Int32} {rw : Nat → Nat} {o : Nat → Int64} {j : Nat} : it_cv xs mi rw o 32 j = .int (mi 32 j) := rfl
theorem isa_33 : it_isa .int 33 = true := by decide +kernel
theorem ln_33 {L : Nat} : it_ln L 33 = 3 := rfl
theorem cv_33 {xs : Nat → Int32} {mi : Nat → Nat → Int32} {rw : Nat → Nat} {o : Nat → Int64} {j : Nat} : it_cv xs mi rw o 33 j = .int (mi 33 j) := rfl
theorem isa_34 : it_isa (.object "IssueFold$Site") 34 = true := by decide +kernel
theorem ln_34 {L : Nat} : it_ln L 34 = 3 := rfl
theorem cv_34_0 {xs : Nat → Int32} {mi : Nat → Nat → Int32} {rw : Nat → Nat} {o : Nat → Int64} : it_cv xs mi rw o 34 0 = .ref 35 := rfl
theorem cv_34_1 {xs : Nat → Int32} {mi : Nat → Nat → Int32} {rw : Nat → Nat} {o : Nat → Int64} : it_cv xs mi rw o 34 1 = .ref 49 := rfl
theorem cv_34_2 {xs : Nat → Int32} {mi : Nat → Nat → Int32} {rw : Nat → Nat} {o : Nat → Int64} : it_cv xs mi rw o 34 2 = .ref 63 := rfl
theorem isk_35 : it_isk 7 35 = true := by decide +kernel
theorem cv_35_0 {xs : Nat → Int32} {mi : Nat → Nat → Int32} {rw : Nat → Nat} {o : Nat → Int64} : it_cv xs mi rw o 35 0 = .ref 36 := rfl
theorem cv_35_1 {xs : Nat → Int32} {mi : Nat → Nat → Int32} {rw : Nat → Nat} {o : Nat → Int64} : it_cv xs mi rw o 35 1 = .ref 37 := rfl
theorem cv_35_2 {xs : Nat → Int32} {mi : Nat → Nat → Int32} {rw : Nat → Nat} {o : Nat → Int64} : it_cv xs mi rw o 35 2 = .ref 41 := rfl
theorem cv_35_3 {xs : Nat → Int32} {mi : Nat → Nat → Int32} {rw : Nat → Nat} {o : Nat → Int64} : it_cv xs mi rw o 35 3 = .int (mi 35 3) := rfl
theorem isa_36 : it_isa .int 36 = true := by decide +kernel
theorem ln_36 {L : Nat} : it_ln L 36 = 3 := rfl
theorem cv_36 {xs : Nat → Int32} {mi : Nat → Nat → Int32} {rw : Nat → Nat} {o : Nat → Int64} {j : Nat} : it_cv xs mi rw o 36 j = .int (mi 36 j) := rfl
theorem isa_37 : it_isa (.array .int) 37 = true := by decide +kernel
theorem ln_37 {L : Nat} : it_ln L 37 = 3 := rfl
theorem cv_37_0 {xs : Nat → Int32} {mi : Nat → Nat → Int32} {rw : Nat → Nat} {o : Nat → Int64} : it_cv xs mi rw o 37 0 = .ref 38 := rfl
theorem cv_37_1 {xs : Nat → Int32} {mi : Nat → Nat → Int32} {rw : Nat → Nat} {o : Nat → Int64} : it_cv xs mi rw o 37 1 = .ref 39 := rfl
theorem cv_37_2 {xs : Nat → Int32} {mi : Nat → Nat → Int32} {rw : Nat → Nat} {o : Nat → Int64} : it_cv xs mi rw o 37 2 = .ref 40 := rfl
theorem isa_38 : it_isa .int 38 = true := by decide +kernel
theorem ln_38 {L : Nat} : it_ln L 38 = 3 := rfl
theorem cv_38 {xs : Nat → Int32} {mi : Nat → Nat → Int32} {rw : Nat → Nat} {o : Nat → Int64} {j : Nat} : it_cv xs mi rw o 38 j = .int (mi 38 j) := rfl
theorem isa_39 : it_isa .int 39 = true := by decide +kernel
theorem ln_39 {L : Nat} : it_ln L 39 = 3 := rfl
theorem cv_39 {xs : Nat → Int32} {mi : Nat → Nat → Int32} {rw : Nat → Nat} {o : Nat → Int64} {j : Nat} : it_cv xs mi rw o 39 j = .int (mi 39 j) := rfl
theorem isa_40 : it_isa .int 40 = true := by decide +kernel
theorem ln_40 {L : Nat} : it_ln L 40 = 3 := rfl
theorem cv_40 {xs : Nat → Int32} {mi : Nat → Nat → Int32} {rw : Nat → Nat} {o : Nat → Int64} {j : Nat} : it_cv xs mi rw o 40 j = .int (mi 40 j) := rfl
theorem isk_41 : it_isk 6 41 = true := by decide +kernel
theorem cv_41_0 {xs : Nat → Int32} {mi : Nat → Nat → Int32} {rw : Nat → Nat} {o : Nat → Int64} : it_cv xs mi rw o 41 0 = .ref 42 := rfl
theorem cv_41_1 {xs : Nat → Int32} {mi : Nat → Nat → Int32} {rw : Nat → Nat} {o : Nat → Int64} : it_cv xs mi rw o 41 1 = .ref 43 := rfl
theorem cv_41_2 {xs : Nat → Int32} {mi : Nat → Nat → Int32} {rw : Nat → Nat} {o : Nat → Int64} : it_cv xs mi rw o 41 2 = .ref 44 := rfl
theorem cv_41_3 {xs : Nat → Int32} {mi : Nat → Nat → Int32} {rw : Nat → Nat} {o : Nat → Int64} : it_cv xs mi rw o 41 3 = .ref 45 := rfl
theorem cv_41_4 {xs : Nat → Int32} {mi : Nat → Nat → Int32} {rw : Nat → Nat} {o : Nat → Int64} : it_cv xs mi rw o 41 4 = .ref 46 := rfl
theorem cv_41_5 {xs : Nat → Int32} {mi : Nat → Nat → Int32} {rw : Nat → Nat} {o : Nat → Int64} : it_cv xs mi rw o 41 5 = .ref 47 := rfl
theorem cv_41_6 {xs : Nat → Int32} {mi : Nat → Nat → Int32} {rw : Nat → Nat} {o : Nat → Int64} : it_cv xs mi rw o 41 6 = .ref 48 := rfl
theorem isa_42 : it_isa .int 42 = true := by decide +kernel
theorem ln_42 {L : Nat} : it_ln L 42 = 48 := rfl
theorem cv_42 {xs : Nat → Int32} {mi : Nat → Nat → Int32} {rw : Nat → Nat} {o : Nat → Int64} {j : Nat} : it_cv xs mi rw o 42 j = .int (mi 42 j) := rfl
theorem isa_43 : it_isa .int 43 = true := by decide +kernel
theorem ln_43 {L : Nat} : it_ln L 43 = 48 := rfl
theorem cv_43 {xs : Nat → Int32} {mi : Nat → Nat → Int32} {rw : Nat → Nat} {o : Nat → Int64} {j : Nat} : it_cv xs mi rw o 43 j = .int (mi 43 j) := rfl
theorem isa_44 : it_isa .int 44 = true := by decide +kernel
theorem ln_44 {L : Nat} : it_ln L 44 = 48 := rfl
theorem cv_44 {xs : Nat → Int32} {mi : Nat → Nat → Int32} {rw : Nat → Nat} {o : Nat → Int64} {j : Nat} : it_cv xs mi rw o 44 j = .int (mi 44 j) := rfl
theorem isa_45 : it_isa .int 45 = true := by decide +kernel
theorem ln_45 {L : Nat} : it_ln L 45 = 48 := rfl
theorem cv_45 {xs : Nat → Int32} {mi : Nat → Nat → Int32} {rw : Nat → Nat} {o : Nat → Int64} {j : Nat} : it_cv xs mi rw o 45 j = .int (mi 45 j) := rfl
theorem isa_46 : it_isa .boolean 46 = true := by decide +kernel
theorem ln_46 {L : Nat} : it_ln L 46 = 48 := rfl
theorem cv_46 {xs : Nat → Int32} {mi : Nat → Nat → Int32} {rw : Nat → Nat} {o : Nat → Int64} {j : Nat} : it_cv xs mi rw o 46 j = .int (mi 46 j) := rfl
theorem isa_47 : it_isa .int 47 = true := by decide +kernel
theorem ln_47 {L : Nat} : it_ln L 47 = 3 := rfl
theorem cv_47 {xs : Nat → Int32} {mi : Nat → Nat → Int32} {rw : Nat → Nat} {o : Nat → Int64} {j : Nat} : it_cv xs mi rw o 47 j = .int (mi 47 j) := rfl
theorem isk_48 : it_isk 5 48 = true := by decide +kernel
theorem cv_48_0 {xs : Nat → Int32} {mi : Nat → Nat → Int32} {rw : Nat → Nat} {o : Nat → Int64} : it_cv xs mi rw o 48 0 = .int (mi 48 0) := rfl
theorem cv_48_1 {xs : Nat → Int32} {mi : Nat → Nat → Int32} {rw : Nat → Nat} {o : Nat → Int64} : it_cv xs mi rw o 48 1 = .int (mi 48 1) := rfl
theorem cv_48_2 {xs : Nat → Int32} {mi : Nat → Nat → Int32} {rw : Nat → Nat} {o : Nat → Int64} : it_cv xs mi rw o 48 2 = .int (mi 48 2) := rfl
theorem cv_48_3 {xs : Nat → Int32} {mi : Nat → Nat → Int32} {rw : Nat → Nat} {o : Nat → Int64} : it_cv xs mi rw o 48 3 = .int (mi 48 3) := rfl
theorem cv_48_4 {xs : Nat → Int32} {mi : Nat → Nat → Int32} {rw : Nat → Nat} {o : Nat → Int64} : it_cv xs mi rw o 48 4 = .int (mi 48 4) := rfl
theorem isk_49 : it_isk 7 49 = true := by decide +kernel
theorem cv_49_0 {xs : Nat → Int32} {mi : Nat → Nat → Int32} {rw : Nat → Nat} {o : Nat → Int64} : it_cv xs mi rw o 49 0 = .ref 50 := rfl
theorem cv_49_1 {xs : Nat → Int32} {mi : Nat → Nat → Int32} {rw : Nat → Nat} {o : Nat → Int64} : it_cv xs mi rw o 49 1 = .ref 51 := rfl
theorem cv_49_2 {xs : Nat → Int32} {mi : Nat → Nat → Int32} {rw : Nat → Nat} {o : Nat → Int64} : it_cv xs mi rw o 49 2 = .ref 55 := rfl
theorem cv_49_3 {xs : Nat → Int32} {mi : Nat → Nat → Int32} {rw : Nat → Nat} {o : Nat → Int64} : it_cv xs mi rw o 49 3 = .int (mi 49 3) := rfl
theorem isa_50 : it_isa .int 50 = true := by decide +kernel
theorem ln_50 {L : Nat} : it_ln L 50 = 3 := rfl
theorem cv_50 {xs : Nat → Int32} {mi : Nat → Nat → Int32} {rw : Nat → Nat} {o : Nat → Int64} {j : Nat} : it_cv xs mi rw o 50 j = .int (mi 50 j) := rfl
theorem isa_51 : it_isa (.array .int) 51 = true := by decide +kernel
theorem ln_51 {L : Nat} : it_ln L 51 = 3 := rfl
theorem cv_51_0 {xs : Nat → Int32} {mi : Nat → Nat → Int32} {rw : Nat → Nat} {o : Nat → Int64} : it_cv xs mi rw o 51 0 = .ref 52 := rfl
theorem cv_51_1 {xs : Nat → Int32} {mi : Nat → Nat → Int32} {rw : Nat → Nat} {o : Nat → Int64} : it_cv xs mi rw o 51 1 = .ref 53 := rfl
theorem cv_51_2 {xs : Nat → Int32} {mi : Nat → Nat → Int32} {rw : Nat → Nat} {o : Nat → Int64} : it_cv xs mi rw o 51 2 = .ref 54 := rfl
theorem isa_52 : it_isa .int 52 = true := by decide +kernel
theorem ln_52 {L : Nat} : it_ln L 52 = 3 := rfl
theorem cv_52 {xs : Nat → Int32} {mi : Nat → Nat → Int32} {rw : Nat → Nat} {o : Nat → Int64} {j : Nat} : it_cv xs mi rw o 52 j = .int (mi 52 j) := rfl
theorem isa_53 : it_isa .int 53 = true := by decide +kernel
theorem ln_53 {L : Nat} : it_ln L 53 = 3 := rfl
theorem cv_53 {xs : Nat → Int32} {mi : Nat → Nat → Int32} {rw : Nat → Nat} {o : Nat → Int64} {j : Nat} : it_cv xs mi rw o 53 j = .int (mi 53 j) := rfl
theorem isa_54 : it_isa .int 54 = true := by decide +kernel
theorem ln_54 {L : Nat} : it_ln L 54 = 3 := rfl
theorem cv_54 {xs : Nat → Int32} {mi : Nat → Nat → Int32} {rw : Nat → Nat} {o : Nat → Int64} {j : Nat} : it_cv xs mi rw o 54 j = .int (mi 54 j) := rfl
theorem isk_55 : it_isk 6 55 = true := by decide +kernel
theorem cv_55_0 {xs : Nat → Int32} {mi : Nat → Nat → Int32} {rw : Nat → Nat} {o : Nat → Int64} : it_cv xs mi rw o 55 0 = .ref 56 := rfl
theorem cv_55_1 {xs : Nat → Int32} {mi : Nat → Nat → Int32} {rw : Nat → Nat} {o : Nat → Int64} : it_cv xs mi rw o 55 1 = .ref 57 := rfl
theorem cv_55_2 {xs : Nat → Int32} {mi : Nat → Nat → Int32} {rw : Nat → Nat} {o : Nat → Int64} : it_cv xs mi rw o 55 2 = .ref 58 := rfl
theorem cv_55_3 {xs : Nat → Int32} {mi : Nat → Nat → Int32} {rw : Nat → Nat} {o : Nat → Int64} : it_cv xs mi rw o 55 3 = .ref 59 := rfl
theorem cv_55_4 {xs : Nat → Int32} {mi : Nat → Nat → Int32} {rw : Nat → Nat} {o : Nat → Int64} : it_cv xs mi rw o 55 4 = .ref 60 := rfl
theorem cv_55_5 {xs : Nat → Int32} {mi : Nat → Nat → Int32} {rw : Nat → Nat} {o : Nat → Int64} : it_cv xs mi rw o 55 5 = .ref 61 := rfl
theorem cv_55_6 {xs : Nat → Int32} {mi : Nat → Nat → Int32} {rw : Nat → Nat} {o : Nat → Int64} : it_cv xs mi rw o 55 6 = .ref 62 := rfl
theorem isa_56 : it_isa .int 56 = true := by decide +kernel
theorem ln_56 {L : Nat} : it_ln L 56 = 48 := rfl
theorem cv_56 {xs : Nat → Int32} {mi : Nat → Nat → Int32} {rw : Nat → Nat} {o : Nat → Int64} {j : Nat} : it_cv xs mi rw o 56 j = .int (mi 56 j) := rfl
theorem isa_57 : it_isa .int 57 = true := by decide +kernel
theorem ln_57 {L : Nat} : it_ln L 57 = 48 := rfl
theorem cv_57 {xs : Nat → Int32} {mi : Nat → Nat → Int32} {rw : Nat → Nat} {o : Nat → Int64} {j : Nat} : it_cv xs mi rw o 57 j = .int (mi 57 j) := rfl
theorem isa_58 : it_isa .int 58 = true := by decide +kernel
theorem ln_58 {L : Nat} : it_ln L 58 = 48 := rfl
theorem cv_58 {xs : Nat → Int32} {mi : Nat → Nat → Int32} {rw : Nat → Nat} {o : Nat → Int64} {j : Nat} : it_cv xs mi rw o 58 j = .int (mi 58 j) := rfl
theorem isa_59 : it_isa .int 59 = true := by decide +kernel
theorem ln_59 {L : Nat} : it_ln L 59 = 48 := rfl
theorem cv_59 {xs : Nat → Int32} {mi : Nat → Nat → Int32} {rw : Nat → Nat} {o : Nat → Int64} {j : Nat} : it_cv xs mi rw o 59 j = .int (mi 59 j) := rfl
theorem isa_60 : it_isa .boolean 60 = true := by decide +kernel
theorem ln_60 {L : Nat} : it_ln L 60 = 48 := rfl
theorem cv_60 {xs : Nat → Int32} {mi : Nat → Nat → Int32} {rw : Nat → Nat} {o : Nat → Int64} {j : Nat} : it_cv xs mi rw o 60 j = .int (mi 60 j) := rfl
theorem isa_61 : it_isa .int 61 = true := by decide +kernel
theorem ln_61 {L : Nat} : it_ln L 61 = 3 := rfl
theorem cv_61 {xs : Nat → Int32} {mi : Nat → Nat → Int32} {rw : Nat → Nat} {o : Nat → Int64} {j : Nat} : it_cv xs mi rw o 61 j = .int (mi 61 j) := rfl
theorem isk_62 : it_isk 5 62 = true := by decide +kernel
theorem cv_62_0 {xs : Nat → Int32} {mi : Nat → Nat → Int32} {rw : Nat → Nat} {o : Nat → Int64} : it_cv xs mi rw o 62 0 = .int (mi 62 0) := rfl
theorem cv_62_1 {xs : Nat → Int32} {mi : Nat → Nat → Int32} {rw : Nat → Nat} {o : Nat → Int64} : it_cv xs mi rw o 62 1 = .int (mi 62 1) := rfl
theorem cv_62_2 {xs : Nat → Int32} {mi : Nat → Nat → Int32} {rw : Nat → Nat} {o : Nat → Int64} : it_cv xs mi rw o 62 2 = .int (mi 62 2) := rfl
theorem cv_62_3 {xs : Nat → Int32} {mi : Nat → Nat → Int32} {rw : Nat → Nat} {o : Nat → Int64} : it_cv xs mi rw o 62 3 = .int (mi 62 3) := rfl
theorem cv_62_4 {xs : Nat → Int32} {mi : Nat → Nat → Int32} {rw : Nat → Nat} {o : Nat → Int64} : it_cv xs mi rw o 62 4 = .int (mi 62 4) := rfl
theorem isk_63 : it_isk 7 63 = true := by decide +kernel
theorem cv_63_0 {xs : Nat → Int32} {mi : Nat → Nat → Int32} {rw : Nat → Nat} {o : Nat → Int64} : it_cv xs mi rw o 63 0 = .ref 64 := rfl
theorem cv_63_1 {xs : Nat → Int32} {mi : Nat → Nat → Int32} {rw : Nat → Nat} {o : Nat → Int64} : it_cv xs mi rw o 63 1 = .ref 65 := rfl
theorem cv_63_2 {xs : Nat → Int32} {mi : Nat → Nat → Int32} {rw : Nat → Nat} {o : Nat → Int64} : it_cv xs mi rw o 63 2 = .ref 69 := rfl
theorem cv_63_3 {xs : Nat → Int32} {mi : Nat → Nat → Int32} {rw : Nat → Nat} {o : Nat → Int64} : it_cv xs mi rw o 63 3 = .int (mi 63 3) := rfl
theorem isa_64 : it_isa .int 64 = true := by decide +kernel
theorem ln_64 {L : Nat} : it_ln L 64 = 3 := rfl
theorem cv_64 {xs : Nat → Int32} {mi : Nat → Nat → Int32} {rw : Nat → Nat} {o : Nat → Int64} {j : Nat} : it_cv xs mi rw o 64 j = .int (mi 64 j) := rfl
theorem isa_65 : it_isa (.array .int) 65 = true := by decide +kernel
theorem ln_65 {L : Nat} : it_ln L 65 = 3 := rfl
theorem cv_65_0 {xs : Nat → Int32} {mi : Nat → Nat → Int32} {rw : Nat → Nat} {o : Nat → Int64} : it_cv xs mi rw o 65 0 = .ref 66 := rfl
theorem cv_65_1 {xs : Nat → Int32} {mi : Nat → Nat → Int32} {rw : Nat → Nat} {o : Nat → Int64} : it_cv xs mi rw o 65 1 = .ref 67 := rfl
theorem cv_65_2 {xs : Nat → Int32} {mi : Nat → Nat → Int32} {rw : Nat → Nat} {o : Nat → Int64} : it_cv xs mi rw o 65 2 = .ref 68 := rfl
theorem isa_66 : it_isa .int 66 = true := by decide +kernel
theorem ln_66 {L : Nat} : it_ln L 66 = 3 := rfl
theorem cv_66 {xs : Nat → Int32} {mi : Nat → Nat → Int32} {rw : Nat → Nat} {o : Nat → Int64} {j : Nat} : it_cv xs mi rw o 66 j = .int (mi 66 j) := rfl
theorem isa_67 : it_isa .int 67 = true := by decide +kernel
theorem ln_67 {L : Nat} : it_ln L 67 = 3 := rfl
theorem cv_67 {xs : Nat → Int32} {mi : Nat → Nat → Int32} {rw : Nat → Nat} {o : Nat → Int64} {j : Nat} : it_cv xs mi rw o 67 j = .int (mi 67 j) := rfl
theorem isa_68 : it_isa .int 68 = true := by decide +kernel
theorem ln_68 {L : Nat} : it_ln L 68 = 3 := rfl
theorem cv_68 {xs : Nat → Int32} {mi : Nat → Nat → Int32} {rw : Nat → Nat} {o : Nat → Int64} {j : Nat} : it_cv xs mi rw o 68 j = .int (mi 68 j) := rfl
theorem isk_69 : it_isk 6 69 = true := by decide +kernel
theorem cv_69_0 {xs : Nat → Int32} {mi : Nat → Nat → Int32} {rw : Nat → Nat} {o : Nat → Int64} : it_cv xs mi rw o 69 0 = .ref 70 := rfl
theorem cv_69_1 {xs : Nat → Int32} {mi : Nat → Nat → Int32} {rw : Nat → Nat} {o : Nat → Int64} : it_cv xs mi rw o 69 1 = .ref 71 := rfl
theorem cv_69_2 {xs : Nat → Int32} {mi : Nat → Nat → Int32} {rw : Nat → Nat} {o : Nat → Int64} : it_cv xs mi rw o 69 2 = .ref 72 := rfl
theorem cv_69_3 {xs : Nat → Int32} {mi : Nat → Nat → Int32} {rw : Nat → Nat} {o : Nat → Int64} : it_cv xs mi rw o 69 3 = .ref 73 := rfl
theorem cv_69_4 {xs : Nat → Int32} {mi : Nat → Nat → Int32} {rw : Nat → Nat} {o : Nat → Int64} : it_cv xs mi rw o 69 4 = .ref 74 := rfl
theorem cv_69_5 {xs : Nat → Int32} {mi : Nat → Nat → Int32} {rw : Nat → Nat} {o : Nat → Int64} : it_cv xs mi rw o 69 5 = .ref 75 := rfl
theorem cv_69_6 {xs : Nat → Int32} {mi : Nat → Nat → Int32} {rw : Nat → Nat} {o : Nat → Int64} : it_cv xs mi rw o 69 6 = .ref 76 := rfl
theorem isa_70 : it_isa .int 70 = true := by decide +kernel
theorem ln_70 {L : Nat} : it_ln L 70 = 48 := rfl
theorem cv_70 {xs : Nat → Int32} {mi : Nat → Nat → Int32} {rw : Nat → Nat} {o : Nat → Int64} {j : Nat} : it_cv xs mi rw o 70 j = .int (mi 70 j) := rfl
theorem isa_71 : it_isa .int 71 = true := by decide +kernel
theorem ln_71 {L : Nat} : it_ln L 71 = 48 := rfl
theorem cv_71 {xs : Nat → Int32} {mi : Nat → Nat → Int32} {rw : Nat → Nat} {o : Nat → Int64} {j : Nat} : it_cv xs mi rw o 71 j = .int (mi 71 j) := rfl
theorem isa_72 : it_isa .int 72 = true := by decide +kernel
theorem ln_72 {L : Nat} : it_ln L 72 = 48 := rfl
theorem cv_72 {xs : Nat → Int32} {mi : Nat → Nat → Int32} {rw : Nat → Nat} {o : Nat → Int64} {j : Nat} : it_cv xs mi rw o 72 j = .int (mi 72 j) := rfl
theorem isa_73 : it_isa .int 73 = true := by decide +kernel
theorem ln_73 {L : Nat} : it_ln L 73 = 48 := rfl
theorem cv_73 {xs : Nat → Int32} {mi : Nat → Nat → Int32} {rw : Nat → Nat} {o : Nat → Int64} {j : Nat} : it_cv xs mi rw o 73 j = .int (mi 73 j) := rfl
theorem isa_74 : it_isa .boolean 74 = true := by decide +kernel
theorem ln_74 {L : Nat} : it_ln L 74 = 48 := rfl
theorem cv_74 {xs : Nat → Int32} {mi : Nat → Nat → Int32} {rw : Nat → Nat} {o : Nat → Int64} {j : Nat} : it_cv xs mi rw o 74 j = .int (mi 74 j) := rfl
theorem isa_75 : it_isa .int 75 = true := by decide +kernel
theorem ln_75 {L : Nat} : it_ln L 75 = 3 := rfl
theorem cv_75 {xs : Nat → Int32} {mi : Nat → Nat → Int32} {rw : Nat → Nat} {o : Nat → Int64} {j : Nat} : it_cv xs mi rw o 75 j = .int (mi 75 j) := rfl
theorem isk_76 : it_isk 5 76 = true := by decide +kernel
theorem cv_76_0 {xs : Nat → Int32} {mi : Nat → Nat → Int32} {rw : Nat → Nat} {o : Nat → Int64} : it_cv xs mi rw o 76 0 = .int (mi 76 0) := rfl
theorem cv_76_1 {xs : Nat → Int32} {mi : Nat → Nat → Int32} {rw : Nat → Nat} {o : Nat → Int64} : it_cv xs mi rw o 76 1 = .int (mi 76 1) := rfl
theorem cv_76_2 {xs : Nat → Int32} {mi : Nat → Nat → Int32} {rw : Nat → Nat} {o : Nat → Int64} : it_cv xs mi rw o 76 2 = .int (mi 76 2) := rfl
theorem cv_76_3 {xs : Nat → Int32} {mi : Nat → Nat → Int32} {rw : Nat → Nat} {o : Nat → Int64} : it_cv xs mi rw o 76 3 = .int (mi 76 3) := rfl
theorem cv_76_4 {xs : Nat → Int32} {mi : Nat → Nat → Int32} {rw : Nat → Nat} {o : Nat → Int64} : it_cv xs mi rw o 76 4 = .int (mi 76 4) := rfl
theorem isk_77 : it_isk 9 77 = true := by decide +kernel
theorem cv_77_0 {xs : Nat → Int32} {mi : Nat → Nat → Int32} {rw : Nat → Nat} {o : Nat → Int64} : it_cv xs mi rw o 77 0 = .ref 78 := rfl
theorem cv_77_1 {xs : Nat → Int32} {mi : Nat → Nat → Int32} {rw : Nat → Nat} {o : Nat → Int64} : it_cv xs mi rw o 77 1 = .int (mi 77 1) := rfl
theorem isa_78 : it_isa (.object "IssueFold$Message") 78 = true := by decide +kernel
theorem ln_78 {L : Nat} : it_ln L 78 = 6 := rfl
theorem cv_78 {xs : Nat → Int32} {mi : Nat → Nat → Int32} {rw : Nat → Nat} {o : Nat → Int64} {j : Nat} : it_cv xs mi rw o 78 j = .ref (rw j) := rfl
theorem isk_79 : it_isk 8 79 = true := by decide +kernel
theorem cv_79_0 {xs : Nat → Int32} {mi : Nat → Nat → Int32} {rw : Nat → Nat} {o : Nat → Int64} : it_cv xs mi rw o 79 0 = .ref 80 := rfl
theorem cv_79_1 {xs : Nat → Int32} {mi : Nat → Nat → Int32} {rw : Nat → Nat} {o : Nat → Int64} : it_cv xs mi rw o 79 1 = .ref 81 := rfl
theorem cv_79_2 {xs : Nat → Int32} {mi : Nat → Nat → Int32} {rw : Nat → Nat} {o : Nat → Int64} : it_cv xs mi rw o 79 2 = .int (mi 79 2) := rfl
theorem cv_79_3 {xs : Nat → Int32} {mi : Nat → Nat → Int32} {rw : Nat → Nat} {o : Nat → Int64} : it_cv xs mi rw o 79 3 = .int (mi 79 3) := rfl
theorem isa_80 : it_isa .int 80 = true := by decide +kernel
theorem ln_80 {L : Nat} : it_ln L 80 = 3 := rfl
theorem cv_80 {xs : Nat → Int32} {mi : Nat → Nat → Int32} {rw : Nat → Nat} {o : Nat → Int64} {j : Nat} : it_cv xs mi rw o 80 j = .int (mi 80 j) := rfl
theorem isa_81 : it_isa .int 81 = true := by decide +kernel
theorem ln_81 {L : Nat} : it_ln L 81 = 3 := rfl
theorem cv_81 {xs : Nat → Int32} {mi : Nat → Nat → Int32} {rw : Nat → Nat} {o : Nat → Int64} {j : Nat} : it_cv xs mi rw o 81 j = .int (mi 81 j) := rfl
theorem isk_82 : it_isk 8 82 = true := by decide +kernel
theorem cv_82_0 {xs : Nat → Int32} {mi : Nat → Nat → Int32} {rw : Nat → Nat} {o : Nat → Int64} : it_cv xs mi rw o 82 0 = .ref 83 := rfl
theorem cv_82_1 {xs : Nat → Int32} {mi : Nat → Nat → Int32} {rw : Nat → Nat} {o : Nat → Int64} : it_cv xs mi rw o 82 1 = .ref 84 := rfl
theorem cv_82_2 {xs : Nat → Int32} {mi : Nat → Nat → Int32} {rw : Nat → Nat} {o : Nat → Int64} : it_cv xs mi rw o 82 2 = .int (mi 82 2) := rfl
theorem cv_82_3 {xs : Nat → Int32} {mi : Nat → Nat → Int32} {rw : Nat → Nat} {o : Nat → Int64} : it_cv xs mi rw o 82 3 = .int (mi 82 3) := rfl
theorem isa_83 : it_isa .int 83 = true := by decide +kernel
theorem ln_83 {L : Nat} : it_ln L 83 = 3 := rfl
theorem cv_83 {xs : Nat → Int32} {mi : Nat → Nat → Int32} {rw : Nat → Nat} {o : Nat → Int64} {j : Nat} : it_cv xs mi rw o 83 j = .int (mi 83 j) := rfl
theorem isa_84 : it_isa .int 84 = true := by decide +kernel
theorem ln_84 {L : Nat} : it_ln L 84 = 3 := rfl
theorem cv_84 {xs : Nat → Int32} {mi : Nat → Nat → Int32} {rw : Nat → Nat} {o : Nat → Int64} {j : Nat} : it_cv xs mi rw o 84 j = .int (mi 84 j) := rfl
theorem isk_85 : it_isk 8 85 = true := by decide +kernel
theorem cv_85_0 {xs : Nat → Int32} {mi : Nat → Nat → Int32} {rw : Nat → Nat} {o : Nat → Int64} : it_cv xs mi rw o 85 0 = .ref 86 := rfl
theorem cv_85_1 {xs : Nat → Int32} {mi : Nat → Nat → Int32} {rw : Nat → Nat} {o : Nat → Int64} : it_cv xs mi rw o 85 1 = .ref 87 := rfl
theorem cv_85_2 {xs : Nat → Int32} {mi : Nat → Nat → Int32} {rw : Nat → Nat} {o : Nat → Int64} : it_cv xs mi rw o 85 2 = .int (mi 85 2) := rfl
theorem cv_85_3 {xs : Nat → Int32} {mi : Nat → Nat → Int32} {rw : Nat → Nat} {o : Nat → Int64} : it_cv xs mi rw o 85 3 = .int (mi 85 3) := rfl
theorem isa_86 : it_isa .int 86 = true := by decide +kernel
theorem ln_86 {L : Nat} : it_ln L 86 = 3 := rfl
theorem cv_86 {xs : Nat → Int32} {mi : Nat → Nat → Int32} {rw : Nat → Nat} {o : Nat → Int64} {j : Nat} : it_cv xs mi rw o 86 j = .int (mi 86 j) := rfl
theorem isa_87 : it_isa .int 87 = true := by decide +kernel
theorem ln_87 {L : Nat} : it_ln L 87 = 3 := rfl
theorem cv_87 {xs : Nat → Int32} {mi : Nat → Nat → Int32} {rw : Nat → Nat} {o : Nat → Int64} {j : Nat} : it_cv xs mi rw o 87 j = .int (mi 87 j) := rfl
theorem isk_88 : it_isk 8 88 = true := by decide +kernel
theorem cv_88_0 {xs : Nat → Int32} {mi : Nat → Nat → Int32} {rw : Nat → Nat} {o : Nat → Int64} : it_cv xs mi rw o 88 0 = .ref 89 := rfl
theorem cv_88_1 {xs : Nat → Int32} {mi : Nat → Nat → Int32} {rw : Nat → Nat} {o : Nat → Int64} : it_cv xs mi rw o 88 1 = .ref 90 := rfl
theorem cv_88_2 {xs : Nat → Int32} {mi : Nat → Nat → Int32} {rw : Nat → Nat} {o : Nat → Int64} : it_cv xs mi rw o 88 2 = .int (mi 88 2) := rfl
theorem cv_88_3 {xs : Nat → Int32} {mi : Nat → Nat → Int32} {rw : Nat → Nat} {o : Nat → Int64} : it_cv xs mi rw o 88 3 = .int (mi 88 3) := rfl
theorem isa_89 : it_isa .int 89 = true := by decide +kernel
theorem ln_89 {L : Nat} : it_ln L 89 = 3 := rfl
theorem cv_89 {xs : Nat → Int32} {mi : Nat → Nat → Int32} {rw : Nat → Nat} {o : Nat → Int64} {j : Nat} : it_cv xs mi rw o 89 j = .int (mi 89 j) := rfl
theorem isa_90 : it_isa .int 90 = true := by decide +kernel
theorem ln_90 {L : Nat} : it_ln L 90 = 3 := rfl
theorem cv_90 {xs : Nat → Int32} {mi : Nat → Nat → Int32} {rw : Nat → Nat} {o : Nat → Int64} {j : Nat} : it_cv xs mi rw o 90 j = .int (mi 90 j) := rfl
theorem isk_91 : it_isk 8 91 = true := by decide +kernel
theorem cv_91_0 {xs : Nat → Int32} {mi : Nat → Nat → Int32} {rw : Nat → Nat} {o : Nat → Int64} : it_cv xs mi rw o 91 0 = .ref 92 := rfl
theorem cv_91_1 {xs : Nat → Int32} {mi : Nat → Nat → Int32} {rw : Nat → Nat} {o : Nat → Int64} : it_cv xs mi rw o 91 1 = .ref 93 := rfl
theorem cv_91_2 {xs : Nat → Int32} {mi : Nat → Nat → Int32} {rw : Nat → Nat} {o : Nat → Int64} : it_cv xs mi rw o 91 2 = .int (mi 91 2) := rfl
theorem cv_91_3 {xs : Nat → Int32} {mi : Nat → Nat → Int32} {rw : Nat → Nat} {o : Nat → Int64} : it_cv xs mi rw o 91 3 = .int (mi 91 3) := rfl
theorem isa_92 : it_isa .int 92 = true := by decide +kernel
theorem ln_92 {L : Nat} : it_ln L 92 = 3 := rfl
theorem cv_92 {xs : Nat → Int32} {mi : Nat → Nat → Int32} {rw : Nat → Nat} {o : Nat → Int64} {j : Nat} : it_cv xs mi rw o 92 j = .int (mi 92 j) := rfl
theorem isa_93 : it_isa .int 93 = true := by decide +kernel
theorem ln_93 {L : Nat} : it_ln L 93 = 3 := rfl
theorem cv_93 {xs : Nat → Int32} {mi : Nat → Nat → Int32} {rw : Nat → Nat} {o : Nat → Int64} {j : Nat} : it_cv xs mi rw o 93 j = .int (mi 93 j) := rfl
theorem isk_94 : it_isk 8 94 = true := by decide +kernel
theorem cv_94_0 {xs : Nat → Int32} {mi : Nat → Nat → Int32} {rw : Nat → Nat} {o : Nat → Int64} : it_cv xs mi rw o 94 0 = .ref 95 := rfl
theorem cv_94_1 {xs : Nat → Int32} {mi : Nat → Nat → Int32} {rw : Nat → Nat} {o : Nat → Int64} : it_cv xs mi rw o 94 1 = .ref 96 := rfl
theorem cv_94_2 {xs : Nat → Int32} {mi : Nat → Nat → Int32} {rw : Nat → Nat} {o : Nat → Int64} : it_cv xs mi rw o 94 2 = .int (mi 94 2) := rfl
theorem cv_94_3 {xs : Nat → Int32} {mi : Nat → Nat → Int32} {rw : Nat → Nat} {o : Nat → Int64} : it_cv xs mi rw o 94 3 = .int (mi 94 3) := rfl
theorem isa_95 : it_isa .int 95 = true := by decide +kernel
theorem ln_95 {L : Nat} : it_ln L 95 = 3 := rfl
theorem cv_95 {xs : Nat → Int32} {mi : Nat → Nat → Int32} {rw : Nat → Nat} {o : Nat → Int64} {j : Nat} : it_cv xs mi rw o 95 j = .int (mi 95 j) := rfl
theorem isa_96 : it_isa .int 96 = true := by decide +kernel
theorem ln_96 {L : Nat} : it_ln L 96 = 3 := rfl
theorem cv_96 {xs : Nat → Int32} {mi : Nat → Nat → Int32} {rw : Nat → Nat} {o : Nat → Int64} {j : Nat} : it_cv xs mi rw o 96 j = .int (mi 96 j) := rfl
theorem isk_97 : it_isk 10 97 = true := by decide +kernel
theorem cv_97_0 {xs : Nat → Int32} {mi : Nat → Nat → Int32} {rw : Nat → Nat} {o : Nat → Int64} : it_cv xs mi rw o 97 0 = .ref 98 := rfl
theorem cv_97_1 {xs : Nat → Int32} {mi : Nat → Nat → Int32} {rw : Nat → Nat} {o : Nat → Int64} : it_cv xs mi rw o 97 1 = .int (mi 97 1) := rfl
theorem isa_98 : it_isa .int 98 = true := by decide +kernel
theorem ln_98 {L : Nat} : it_ln L 98 = 48 := rfl
theorem cv_98 {xs : Nat → Int32} {mi : Nat → Nat → Int32} {rw : Nat → Nat} {o : Nat → Int64} {j : Nat} : it_cv xs mi rw o 98 j = .int (mi 98 j) := rfl
theorem isk_99 : it_isk 12 99 = true := by decide +kernel
theorem cv_99_0 {xs : Nat → Int32} {mi : Nat → Nat → Int32} {rw : Nat → Nat} {o : Nat → Int64} : it_cv xs mi rw o 99 0 = .int (mi 99 0) := rfl
theorem cv_99_1 {xs : Nat → Int32} {mi : Nat → Nat → Int32} {rw : Nat → Nat} {o : Nat → Int64} : it_cv xs mi rw o 99 1 = .int (mi 99 1) := rfl
theorem cv_99_2 {xs : Nat → Int32} {mi : Nat → Nat → Int32} {rw : Nat → Nat} {o : Nat → Int64} : it_cv xs mi rw o 99 2 = .ref 100 := rfl
theorem cv_99_3 {xs : Nat → Int32} {mi : Nat → Nat → Int32} {rw : Nat → Nat} {o : Nat → Int64} : it_cv xs mi rw o 99 3 = .int (mi 99 3) := rfl
theorem cv_99_4 {xs : Nat → Int32} {mi : Nat → Nat → Int32} {rw : Nat → Nat} {o : Nat → Int64} : it_cv xs mi rw o 99 4 = .ref 101 := rfl
theorem cv_99_5 {xs : Nat → Int32} {mi : Nat → Nat → Int32} {rw : Nat → Nat} {o : Nat → Int64} : it_cv xs mi rw o 99 5 = .int (mi 99 5) := rfl
theorem cv_99_6 {xs : Nat → Int32} {mi : Nat → Nat → Int32} {rw : Nat → Nat} {o : Nat → Int64} : it_cv xs mi rw o 99 6 = .ref 102 := rfl
theorem cv_99_7 {xs : Nat → Int32} {mi : Nat → Nat → Int32} {rw : Nat → Nat} {o : Nat → Int64} : it_cv xs mi rw o 99 7 = .int (mi 99 7) := rfl
theorem cv_99_8 {xs : Nat → Int32} {mi : Nat → Nat → Int32} {rw : Nat → Nat} {o : Nat → Int64} : it_cv xs mi rw o 99 8 = .int (mi 99 8) := rfl
theorem cv_99_9 {xs : Nat → Int32} {mi : Nat → Nat → Int32} {rw : Nat → Nat} {o : Nat → Int64} : it_cv xs mi rw o 99 9 = .int (mi 99 9) := rfl
theorem cv_99_10 {xs : Nat → Int32} {mi : Nat → Nat → Int32} {rw : Nat → Nat} {o : Nat → Int64} : it_cv xs mi rw o 99 10 = .int (mi 99 10) := rfl
theorem cv_99_11 {xs : Nat → Int32} {mi : Nat → Nat → Int32} {rw : Nat → Nat} {o : Nat → Int64} : it_cv xs mi rw o 99 11 = .ref 103 := rfl
theorem cv_99_12 {xs : Nat → Int32} {mi : Nat → Nat → Int32} {rw : Nat → Nat} {o : Nat → Int64} : it_cv xs mi rw o 99 12 = .ref 104 := rfl
theorem cv_99_13 {xs : Nat → Int32} {mi : Nat → Nat → Int32} {rw : Nat → Nat} {o : Nat → Int64} : it_cv xs mi rw o 99 13 = .ref 105 := rfl
theorem cv_99_14 {xs : Nat → Int32} {mi : Nat → Nat → Int32} {rw : Nat → Nat} {o : Nat → Int64} : it_cv xs mi rw o 99 14 = .ref 106 := rfl
theorem cv_99_15 {xs : Nat → Int32} {mi : Nat → Nat → Int32} {rw : Nat → Nat} {o : Nat → Int64} : it_cv xs mi rw o 99 15 = .int (mi 99 15) := rfl
theorem cv_99_16 {xs : Nat → Int32} {mi : Nat → Nat → Int32} {rw : Nat → Nat} {o : Nat → Int64} : it_cv xs mi rw o 99 16 = .int (mi 99 16) := rfl
theorem cv_99_17 {xs : Nat → Int32} {mi : Nat → Nat → Int32} {rw : Nat → Nat} {o : Nat → Int64} : it_cv xs mi rw o 99 17 = .ref 107 := rfl
theorem cv_99_18 {xs : Nat → Int32} {mi : Nat → Nat → Int32} {rw : Nat → Nat} {o : Nat → Int64} : it_cv xs mi rw o 99 18 = .ref 108 := rfl
theorem cv_99_19 {xs : Nat → Int32} {mi : Nat → Nat → Int32} {rw : Nat → Nat} {o : Nat → Int64} : it_cv xs mi rw o 99 19 = .ref 109 := rfl
theorem cv_99_20 {xs : Nat → Int32} {mi : Nat → Nat → Int32} {rw : Nat → Nat} {o : Nat → Int64} : it_cv xs mi rw o 99 20 = .int (mi 99 20) := rfl
theorem cv_99_21 {xs : Nat → Int32} {mi : Nat → Nat → Int32} {rw : Nat → Nat} {o : Nat → Int64} : it_cv xs mi rw o 99 21 = .ref 110 := rfl
theorem cv_99_22 {xs : Nat → Int32} {mi : Nat → Nat → Int32} {rw : Nat → Nat} {o : Nat → Int64} : it_cv xs mi rw o 99 22 = .ref 111 := rfl
theorem cv_99_23 {xs : Nat → Int32} {mi : Nat → Nat → Int32} {rw : Nat → Nat} {o : Nat → Int64} : it_cv xs mi rw o 99 23 = .ref 112 := rfl
theorem cv_99_24 {xs : Nat → Int32} {mi : Nat → Nat → Int32} {rw : Nat → Nat} {o : Nat → Int64} : it_cv xs mi rw o 99 24 = .ref 113 := rfl
theorem cv_99_25 {xs : Nat → Int32} {mi : Nat → Nat → Int32} {rw : Nat → Nat} {o : Nat → Int64} : it_cv xs mi rw o 99 25 = .ref 114 := rfl
theorem cv_99_26 {xs : Nat → Int32} {mi : Nat → Nat → Int32} {rw : Nat → Nat} {o : Nat → Int64} : it_cv xs mi rw o 99 26 = .ref 115 := rfl
theorem cv_99_27 {xs : Nat → Int32} {mi : Nat → Nat → Int32} {rw : Nat → Nat} {o : Nat → Int64} : it_cv xs mi rw o 99 27 = .ref 116 := rfl
theorem cv_99_28 {xs : Nat → Int32} {mi : Nat → Nat → Int32} {rw : Nat → Nat} {o : Nat → Int64} : it_cv xs mi rw o 99 28 = .ref 117 := rfl
theorem cv_99_29 {xs : Nat → Int32} {mi : Nat → Nat → Int32} {rw : Nat → Nat} {o : Nat → Int64} : it_cv xs mi rw o 99 29 = .ref 118 := rfl
theorem cv_99_30 {xs : Nat → Int32} {mi : Nat → Nat → Int32} {rw : Nat → Nat} {o : Nat → Int64} : it_cv xs mi rw o 99 30 = .ref 119 := rfl
theorem cv_99_31 {xs : Nat → Int32} {mi : Nat → Nat → Int32} {rw : Nat → Nat} {o : Nat → Int64} : it_cv xs mi rw o 99 31 = .ref 120 := rfl
theorem cv_99_32 {xs : Nat → Int32} {mi : Nat → Nat → Int32} {rw : Nat → Nat} {o : Nat → Int64} : it_cv xs mi rw o 99 32 = .ref 121 := rfl
theorem cv_99_33 {xs : Nat → Int32} {mi : Nat → Nat → Int32} {rw : Nat → Nat} {o : Nat → Int64} : it_cv xs mi rw o 99 33 = .int (mi 99 33) := rfl
theorem cv_99_34 {xs : Nat → Int32} {mi : Nat → Nat → Int32} {rw : Nat → Nat} {o : Nat → Int64} : it_cv xs mi rw o 99 34 = .ref 122 := rfl
theorem cv_99_35 {xs : Nat → Int32} {mi : Nat → Nat → Int32} {rw : Nat → Nat} {o : Nat → Int64} : it_cv xs mi rw o 99 35 = .ref 123 := rfl
theorem cv_99_36 {xs : Nat → Int32} {mi : Nat → Nat → Int32} {rw : Nat → Nat} {o : Nat → Int64} : it_cv xs mi rw o 99 36 = .ref 124 := rfl
theorem cv_99_37 {xs : Nat → Int32} {mi : Nat → Nat → Int32} {rw : Nat → Nat} {o : Nat → Int64} : it_cv xs mi rw o 99 37 = .ref 125 := rfl
theorem cv_99_38 {xs : Nat → Int32} {mi : Nat → Nat → Int32} {rw : Nat → Nat} {o : Nat → Int64} : it_cv xs mi rw o 99 38 = .ref 126 := rfl
theorem cv_99_39 {xs : Nat → Int32} {mi : Nat → Nat → Int32} {rw : Nat → Nat} {o : Nat → Int64} : it_cv xs mi rw o 99 39 = .ref 127 := rfl
theorem cv_99_40 {xs : Nat → Int32} {mi : Nat → Nat → Int32} {rw : Nat → Nat} {o : Nat → Int64} : it_cv xs mi rw o 99 40 = .ref 128 := rfl
theorem cv_99_41 {xs : Nat → Int32} {mi : Nat → Nat → Int32} {rw : Nat → Nat} {o : Nat → Int64} : it_cv xs mi rw o 99 41 = .ref 129 := rfl
theorem cv_99_42 {xs : Nat → Int32} {mi : Nat → Nat → Int32} {rw : Nat → Nat} {o : Nat → Int64} : it_cv xs mi rw o 99 42 = .ref 130 := rfl
theorem cv_99_43 {xs : Nat → Int32} {mi : Nat → Nat → Int32} {rw : Nat → Nat} {o : Nat → Int64} : it_cv xs mi rw o 99 43 = .ref 131 := rfl
theorem cv_99_44 {xs : Nat → Int32} {mi : Nat → Nat → Int32} {rw : Nat → Nat} {o : Nat → Int64} : it_cv xs mi rw o 99 44 = .ref 132 := rfl
theorem cv_99_45 {xs : Nat → Int32} {mi : Nat → Nat → Int32} {rw : Nat → Nat} {o : Nat → Int64} : it_cv xs mi rw o 99 45 = .int (mi 99 45) := rfl
theorem cv_99_46 {xs : Nat → Int32} {mi : Nat → Nat → Int32} {rw : Nat → Nat} {o : Nat → Int64} : it_cv xs mi rw o 99 46 = .ref 133 := rfl
theorem isa_100 : it_isa .char 100 = true := by decide +kernel
theorem ln_100 {L : Nat} : it_ln L 100 = 120 := rfl
theorem cv_100 {xs : Nat → Int32} {mi : Nat → Nat → Int32} {rw : Nat → Nat} {o : Nat → Int64} {j : Nat} : it_cv xs mi rw o 100 j = .int (mi 100 j) := rfl
theorem isa_101 : it_isa .char 101 = true := by decide +kernel
theorem ln_101 {L : Nat} : it_ln L 101 = 40 := rfl
theorem cv_101 {xs : Nat → Int32} {mi : Nat → Nat → Int32} {rw : Nat → Nat} {o : Nat → Int64} {j : Nat} : it_cv xs mi rw o 101 j = .int (mi 101 j) := rfl
theorem isa_102 : it_isa .char 102 = true := by decide +kernel
theorem ln_102 {L : Nat} : it_ln L 102 = 120 := rfl
theorem cv_102 {xs : Nat → Int32} {mi : Nat → Nat → Int32} {rw : Nat → Nat} {o : Nat → Int64} {j : Nat} : it_cv xs mi rw o 102 j = .int (mi 102 j) := rfl
theorem isa_103 : it_isa .char 103 = true := by decide +kernel
theorem ln_103 {L : Nat} : it_ln L 103 = 8 := rfl
theorem cv_103 {xs : Nat → Int32} {mi : Nat → Nat → Int32} {rw : Nat → Nat} {o : Nat → Int64} {j : Nat} : it_cv xs mi rw o 103 j = .int (mi 103 j) := rfl
theorem isa_104 : it_isa .boolean 104 = true := by decide +kernel
theorem ln_104 {L : Nat} : it_ln L 104 = 8 := rfl
theorem cv_104 {xs : Nat → Int32} {mi : Nat → Nat → Int32} {rw : Nat → Nat} {o : Nat → Int64} {j : Nat} : it_cv xs mi rw o 104 j = .int (mi 104 j) := rfl
theorem isa_105 : it_isa .boolean 105 = true := by decide +kernel
theorem ln_105 {L : Nat} : it_ln L 105 = 8 := rfl
theorem cv_105 {xs : Nat → Int32} {mi : Nat → Nat → Int32} {rw : Nat → Nat} {o : Nat → Int64} {j : Nat} : it_cv xs mi rw o 105 j = .int (mi 105 j) := rfl
theorem isa_106 : it_isa .boolean 106 = true := by decide +kernel
theorem ln_106 {L : Nat} : it_ln L 106 = 8 := rfl
theorem cv_106 {xs : Nat → Int32} {mi : Nat → Nat → Int32} {rw : Nat → Nat} {o : Nat → Int64} {j : Nat} : it_cv xs mi rw o 106 j = .int (mi 106 j) := rfl
theorem isa_107 : it_isa .int 107 = true := by decide +kernel
theorem ln_107 {L : Nat} : it_ln L 107 = 32 := rfl
theorem cv_107 {xs : Nat → Int32} {mi : Nat → Nat → Int32} {rw : Nat → Nat} {o : Nat → Int64} {j : Nat} : it_cv xs mi rw o 107 j = .int (mi 107 j) := rfl
theorem isa_108 : it_isa .int 108 = true := by decide +kernel
theorem ln_108 {L : Nat} : it_ln L 108 = 32 := rfl
theorem cv_108 {xs : Nat → Int32} {mi : Nat → Nat → Int32} {rw : Nat → Nat} {o : Nat → Int64} {j : Nat} : it_cv xs mi rw o 108 j = .int (mi 108 j) := rfl
theorem isa_109 : it_isa .int 109 = true := by decide +kernel
theorem ln_109 {L : Nat} : it_ln L 109 = 32 := rfl
theorem cv_109 {xs : Nat → Int32} {mi : Nat → Nat → Int32} {rw : Nat → Nat} {o : Nat → Int64} {j : Nat} : it_cv xs mi rw o 109 j = .int (mi 109 j) := rfl
theorem isa_110 : it_isa .char 110 = true := by decide +kernel
theorem ln_110 {L : Nat} : it_ln L 110 = 120 := rfl
theorem cv_110 {xs : Nat → Int32} {mi : Nat → Nat → Int32} {rw : Nat → Nat} {o : Nat → Int64} {j : Nat} : it_cv xs mi rw o 110 j = .int (mi 110 j) := rfl
theorem isa_111 : it_isa .int 111 = true := by decide +kernel
theorem ln_111 {L : Nat} : it_ln L 111 = 4 := rfl
theorem cv_111 {xs : Nat → Int32} {mi : Nat → Nat → Int32} {rw : Nat → Nat} {o : Nat → Int64} {j : Nat} : it_cv xs mi rw o 111 j = .int (mi 111 j) := rfl
theorem isa_112 : it_isa .int 112 = true := by decide +kernel
theorem ln_112 {L : Nat} : it_ln L 112 = 4 := rfl
theorem cv_112 {xs : Nat → Int32} {mi : Nat → Nat → Int32} {rw : Nat → Nat} {o : Nat → Int64} {j : Nat} : it_cv xs mi rw o 112 j = .int (mi 112 j) := rfl
theorem isa_113 : it_isa .int 113 = true := by decide +kernel
theorem ln_113 {L : Nat} : it_ln L 113 = 3 := rfl
theorem cv_113 {xs : Nat → Int32} {mi : Nat → Nat → Int32} {rw : Nat → Nat} {o : Nat → Int64} {j : Nat} : it_cv xs mi rw o 113 j = .int (mi 113 j) := rfl
theorem isa_114 : it_isa .int 114 = true := by decide +kernel
theorem ln_114 {L : Nat} : it_ln L 114 = 48 := rfl
theorem cv_114 {xs : Nat → Int32} {mi : Nat → Nat → Int32} {rw : Nat → Nat} {o : Nat → Int64} {j : Nat} : it_cv xs mi rw o 114 j = .int (mi 114 j) := rfl
theorem isa_115 : it_isa .int 115 = true := by decide +kernel
theorem ln_115 {L : Nat} : it_ln L 115 = 48 := rfl
theorem cv_115 {xs : Nat → Int32} {mi : Nat → Nat → Int32} {rw : Nat → Nat} {o : Nat → Int64} {j : Nat} : it_cv xs mi rw o 115 j = .int (mi 115 j) := rfl
theorem isa_116 : it_isa .int 116 = true := by decide +kernel
theorem ln_116 {L : Nat} : it_ln L 116 = 48 := rfl
theorem cv_116 {xs : Nat → Int32} {mi : Nat → Nat → Int32} {rw : Nat → Nat} {o : Nat → Int64} {j : Nat} : it_cv xs mi rw o 116 j = .int (mi 116 j) := rfl
theorem isa_117 : it_isa .int 117 = true := by decide +kernel
theorem ln_117 {L : Nat} : it_ln L 117 = 48 := rfl
theorem cv_117 {xs : Nat → Int32} {mi : Nat → Nat → Int32} {rw : Nat → Nat} {o : Nat → Int64} {j : Nat} : it_cv xs mi rw o 117 j = .int (mi 117 j) := rfl
theorem isa_118 : it_isa .int 118 = true := by decide +kernel
theorem ln_118 {L : Nat} : it_ln L 118 = 48 := rfl
theorem cv_118 {xs : Nat → Int32} {mi : Nat → Nat → Int32} {rw : Nat → Nat} {o : Nat → Int64} {j : Nat} : it_cv xs mi rw o 118 j = .int (mi 118 j) := rfl
theorem isa_119 : it_isa .int 119 = true := by decide +kernel
theorem ln_119 {L : Nat} : it_ln L 119 = 9 := rfl
theorem cv_119 {xs : Nat → Int32} {mi : Nat → Nat → Int32} {rw : Nat → Nat} {o : Nat → Int64} {j : Nat} : it_cv xs mi rw o 119 j = .int (mi 119 j) := rfl
theorem isa_120 : it_isa .int 120 = true := by decide +kernel
theorem ln_120 {L : Nat} : it_ln L 120 = 27 := rfl
theorem cv_120 {xs : Nat → Int32} {mi : Nat → Nat → Int32} {rw : Nat → Nat} {o : Nat → Int64} {j : Nat} : it_cv xs mi rw o 120 j = .int (mi 120 j) := rfl
theorem isa_121 : it_isa .int 121 = true := by decide +kernel
theorem ln_121 {L : Nat} : it_ln L 121 = 3 := rfl
theorem cv_121 {xs : Nat → Int32} {mi : Nat → Nat → Int32} {rw : Nat → Nat} {o : Nat → Int64} {j : Nat} : it_cv xs mi rw o 121 j = .int (mi 121 j) := rfl
theorem isa_122 : it_isa .int 122 = true := by decide +kernel
theorem ln_122 {L : Nat} : it_ln L 122 = 6 := rfl
theorem cv_122 {xs : Nat → Int32} {mi : Nat → Nat → Int32} {rw : Nat → Nat} {o : Nat → Int64} {j : Nat} : it_cv xs mi rw o 122 j = .int (mi 122 j) := rfl
theorem isa_123 : it_isa .int 123 = true := by decide +kernel
theorem ln_123 {L : Nat} : it_ln L 123 = 6 := rfl
theorem cv_123 {xs : Nat → Int32} {mi : Nat → Nat → Int32} {rw : Nat → Nat} {o : Nat → Int64} {j : Nat} : it_cv xs mi rw o 123 j = .int (mi 123 j) := rfl
theorem isa_124 : it_isa .int 124 = true := by decide +kernel
theorem ln_124 {L : Nat} : it_ln L 124 = 18 := rfl
theorem cv_124 {xs : Nat → Int32} {mi : Nat → Nat → Int32} {rw : Nat → Nat} {o : Nat → Int64} {j : Nat} : it_cv xs mi rw o 124 j = .int (mi 124 j) := rfl
theorem isa_125 : it_isa .int 125 = true := by decide +kernel
theorem ln_125 {L : Nat} : it_ln L 125 = 18 := rfl
theorem cv_125 {xs : Nat → Int32} {mi : Nat → Nat → Int32} {rw : Nat → Nat} {o : Nat → Int64} {j : Nat} : it_cv xs mi rw o 125 j = .int (mi 125 j) := rfl
theorem isa_126 : it_isa .boolean 126 = true := by decide +kernel
theorem ln_126 {L : Nat} : it_ln L 126 = 48 := rfl
theorem cv_126 {xs : Nat → Int32} {mi : Nat → Nat → Int32} {rw : Nat → Nat} {o : Nat → Int64} {j : Nat} : it_cv xs mi rw o 126 j = .int (mi 126 j) := rfl
theorem isa_127 : it_isa .int 127 = true := by decide +kernel
theorem ln_127 {L : Nat} : it_ln L 127 = 48 := rfl
theorem cv_127 {xs : Nat → Int32} {mi : Nat → Nat → Int32} {rw : Nat → Nat} {o : Nat → Int64} {j : Nat} : it_cv xs mi rw o 127 j = .int (mi 127 j) := rfl
theorem isa_128 : it_isa .int 128 = true := by decide +kernel
theorem ln_128 {L : Nat} : it_ln L 128 = 48 := rfl
theorem cv_128 {xs : Nat → Int32} {mi : Nat → Nat → Int32} {rw : Nat → Nat} {o : Nat → Int64} {j : Nat} : it_cv xs mi rw o 128 j = .int (mi 128 j) := rfl
theorem isa_129 : it_isa .int 129 = true := by decide +kernel
theorem ln_129 {L : Nat} : it_ln L 129 = 48 := rfl
theorem cv_129 {xs : Nat → Int32} {mi : Nat → Nat → Int32} {rw : Nat → Nat} {o : Nat → Int64} {j : Nat} : it_cv xs mi rw o 129 j = .int (mi 129 j) := rfl
theorem isa_130 : it_isa .int 130 = true := by decide +kernel
theorem ln_130 {L : Nat} : it_ln L 130 = 48 := rfl
theorem cv_130 {xs : Nat → Int32} {mi : Nat → Nat → Int32} {rw : Nat → Nat} {o : Nat → Int64} {j : Nat} : it_cv xs mi rw o 130 j = .int (mi 130 j) := rfl
theorem isa_131 : it_isa .boolean 131 = true := by decide +kernel
theorem ln_131 {L : Nat} : it_ln L 131 = 48 := rfl
theorem cv_131 {xs : Nat → Int32} {mi : Nat → Nat → Int32} {rw : Nat → Nat} {o : Nat → Int64} {j : Nat} : it_cv xs mi rw o 131 j = .int (mi 131 j) := rfl
theorem isa_132 : it_isa .int 132 = true := by decide +kernel
theorem ln_132 {L : Nat} : it_ln L 132 = 3 := rfl
theorem cv_132 {xs : Nat → Int32} {mi : Nat → Nat → Int32} {rw : Nat → Nat} {o : Nat → Int64} {j : Nat} : it_cv xs mi rw o 132 j = .int (mi 132 j) := rfl
theorem isa_133 : it_isa .int 133 = true := by decide +kernel
theorem ln_133 {L : Nat} : it_ln L 133 = 48 := rfl
theorem cv_133 {xs : Nat → Int32} {mi : Nat → Nat → Int32} {rw : Nat → Nat} {o : Nat → Int64} {j : Nat} : it_cv xs mi rw o 133 j = .int (mi 133 j) := rfl
theorem isa_134 : it_isa .long 134 = true := by decide +kernel
theorem ln_134 {L : Nat} : it_ln L 134 = 1 := rfl
theorem cv_134 {xs : Nat → Int32} {mi : Nat → Nat → Int32} {rw : Nat → Nat} {o : Nat → Int64} {j : Nat} : it_cv xs mi rw o 134 j = .long (o j) := rfl
theorem isa_0 : it_isa .int 0 = true := by decide +kernel
theorem ln_0 {L : Nat} : it_ln L 0 = L := rfl
theorem cv_0 {xs : Nat → Int32} {mi : Nat → Nat → Int32} {rw : Nat → Nat} {o : Nat → Int64} {j : Nat} : it_cv xs mi rw o 0 j = .int (xs j) := rfl
/-! By class. -/
theorem it_lnL {L a : Nat} (h : a ≠ 0) : it_ln L a = it_ln 0 a := by simp [it_ln, h]
theorem it_fin {p : Nat → Bool} {ci a : Nat} (h : (List.range 135).all (fun a => !it_isk ci a || p a) = true) (ha : it_isk ci a = true) : p a = true := by
  have h1 := List.all_eq_true.mp h a (List.mem_range.mpr (of_decide_eq_true ha).2.1)
  rw [ha] at h1
  simpa using h1
theorem it_cvr {xs : Nat → Int32} {mi : Nat → Nat → Int32} {rw : Nat → Nat} {o : Nat → Int64} {a k r : Nat} (h0 : a ≠ 0) (h1 : a ≠ 134) (h2 : a ≠ 78) (h : it_ref a k = some r) : it_cv xs mi rw o a k = .ref r := by simp [it_cv, h0, h1, h2, h]
theorem it_cvi {xs : Nat → Int32} {mi : Nat → Nat → Int32} {rw : Nat → Nat} {o : Nat → Int64} {a k : Nat} (h0 : a ≠ 0) (h1 : a ≠ 134) (h2 : a ≠ 78) (h : it_ref a k = none) : it_cv xs mi rw o a k = .int (mi a k) := by simp [it_cv, h0, h1, h2, h]
theorem it_cva {xs : Nat → Int32} {mi : Nat → Nat → Int32} {rw : Nat → Nat} {o : Nat → Int64} {a j : Nat} {ty : FieldType} (h0 : a ≠ 0) (h : it_isa ty a = true) (ht : ty = .int ∨ ty = .char ∨ ty = .boolean) : it_cv xs mi rw o a j = .int (mi a j) := by
  obtain ⟨n1, n2, n3⟩ := it_prim h ht
  exact it_cvi h0 n2 n3 (n1 j)
theorem cvg_1_0 {xs : Nat → Int32} {mi : Nat → Nat → Int32} {rw : Nat → Nat} {o : Nat → Int64} {a : Nat} (h : it_isk 1 a = true) : it_cv xs mi rw o a 0 = .ref (a + 1) := by
  obtain ⟨n0, n1, n2⟩ := it_obj h (by decide)
  exact it_cvr n0 n1 n2 (of_decide_eq_true (it_fin (p := fun a => decide (it_ref a 0 = some (a + 1))) (by decide +kernel) h))
theorem isag_1_0 {a : Nat} (h : it_isk 1 a = true) : it_isa .int (a + 1) = true := it_fin (p := fun a => it_isa .int (a + 1)) (by decide +kernel) h
theorem lng_1_0 {L a : Nat} (h : it_isk 1 a = true) : it_ln L (a + 1) = if a = 13 then 40 else 120 := by
  have h1 := of_decide_eq_true (it_fin (p := fun a => decide (it_ln 0 (a + 1) = if a = 13 then 40 else 120)) (by decide +kernel) h)
  exact (it_lnL (by omega)).trans h1
theorem cvag_1_0 {xs : Nat → Int32} {mi : Nat → Nat → Int32} {rw : Nat → Nat} {o : Nat → Int64} {a j : Nat} (h : it_isk 1 a = true) : it_cv xs mi rw o (a + 1) j = .int (mi (a + 1) j) := it_cva (by omega) (isag_1_0 h) (by simp)
theorem cvg_1_1 {xs : Nat → Int32} {mi : Nat → Nat → Int32} {rw : Nat → Nat} {o : Nat → Int64} {a : Nat} (h : it_isk 1 a = true) : it_cv xs mi rw o a 1 = .ref (a + 2) := by
  obtain ⟨n0, n1, n2⟩ := it_obj h (by decide)
  exact it_cvr n0 n1 n2 (of_decide_eq_true (it_fin (p := fun a => decide (it_ref a 1 = some (a + 2))) (by decide +kernel) h))
theorem isag_1_1 {a : Nat} (h : it_isk 1 a = true) : it_isa .int (a + 2) = true := it_fin (p := fun a => it_isa .int (a + 2)) (by decide +kernel) h
theorem lng_1_1 {L a : Nat} (h : it_isk 1 a = true) : it_ln L (a + 2) = if a = 13 then 40 else 120 := by
  have h1 := of_decide_eq_true (it_fin (p := fun a => decide (it_ln 0 (a + 2) = if a = 13 then 40 else 120)) (by decide +kernel) h)
  exact (it_lnL (by omega)).trans h1
theorem cvag_1_1 {xs : Nat → Int32} {mi : Nat → Nat → Int32} {rw : Nat → Nat} {o : Nat → Int64} {a j : Nat} (h : it_isk 1 a = true) : it_cv xs mi rw o (a + 2) j = .int (mi (a + 2) j) := it_cva (by omega) (isag_1_1 h) (by simp)
theorem cvg_1_2 {xs : Nat → Int32} {mi : Nat → Nat → Int32} {rw : Nat → Nat} {o : Nat → Int64} {a : Nat} (h : it_isk 1 a = true) : it_cv xs mi rw o a 2 = .int (mi a 2) := by
  obtain ⟨n0, n1, n2⟩ := it_obj h (by decide)
  exact it_cvi n0 n1 n2 (Option.isNone_iff_eq_none.mp (it_fin (p := fun a => (it_ref a 2).isNone) (by decide +kernel) h))
theorem cvg_5_0 {xs : Nat → Int32} {mi : Nat → Nat → Int32} {rw : Nat → Nat} {o : Nat → Int64} {a : Nat} (h : it_isk 5 a = true) : it_cv xs mi rw o a 0 = .int (mi a 0) := by
  obtain ⟨n0, n1, n2⟩ := it_obj h (by decide)
  exact it_cvi n0 n1 n2 (Option.isNone_iff_eq_none.mp (it_fin (p := fun a => (it_ref a 0).isNone) (by decide +kernel) h))
theorem cvg_5_1 {xs : Nat → Int32} {mi : Nat → Nat → Int32} {rw : Nat → Nat} {o : Nat → Int64} {a : Nat} (h : it_isk 5 a = true) : it_cv xs mi rw o a 1 = .int (mi a 1) := by
  obtain ⟨n0, n1, n2⟩ := it_obj h (by decide)
  exact it_cvi n0 n1 n2 (Option.isNone_iff_eq_none.mp (it_fin (p := fun a => (it_ref a 1).isNone) (by decide +kernel) h))
theorem cvg_5_2 {xs : Nat → Int32} {mi : Nat → Nat → Int32} {rw : Nat → Nat} {o : Nat → Int64} {a : Nat} (h : it_isk 5 a = true) : it_cv xs mi rw o a 2 = .int (mi a 2) := by
  obtain ⟨n0, n1, n2⟩ := it_obj h (by decide)
  exact it_cvi n0 n1 n2 (Option.isNone_iff_eq_none.mp (it_fin (p := fun a => (it_ref a 2).isNone) (by decide +kernel) h))
theorem cvg_5_3 {xs : Nat → Int32} {mi : Nat → Nat → Int32} {rw : Nat → Nat} {o : Nat → Int64} {a : Nat} (h : it_isk 5 a = true) : it_cv xs mi rw o a 3 = .int (mi a 3) := by
  obtain ⟨n0, n1, n2⟩ := it_obj h (by decide)
  exact it_cvi n0 n1 n2 (Option.isNone_iff_eq_none.mp (it_fin (p := fun a => (it_ref a 3).isNone) (by decide +kernel) h))
theorem cvg_5_4 {xs : Nat → Int32} {mi : Nat → Nat → Int32} {rw : Nat → Nat} {o : Nat → Int64} {a : Nat} (h : it_isk 5 a = true) : it_cv xs mi rw o a 4 = .int (mi a 4) := by
  obtain ⟨n0, n1, n2⟩ := it_obj h (by decide)
  exact it_cvi n0 n1 n2 (Option.isNone_iff_eq_none.mp (it_fin (p := fun a => (it_ref a 4).isNone) (by decide +kernel) h))
theorem cvg_6_0 {xs : Nat → Int32} {mi : Nat → Nat → Int32} {rw : Nat → Nat} {o : Nat → Int64} {a : Nat} (h : it_isk 6 a = true) : it_cv xs mi rw o a 0 = .ref (a + 1) := by
  obtain ⟨n0, n1, n2⟩ := it_obj h (by decide)
  exact it_cvr n0 n1 n2 (of_decide_eq_true (it_fin (p := fun a => decide (it_ref a 0 = some (a + 1))) (by decide +kernel) h))
theorem isag_6_0 {a : Nat} (h : it_isk 6 a = true) : it_isa .int (a + 1) = true := it_fin (p := fun a => it_isa .int (a + 1)) (by decide +kernel) h
theorem lng_6_0 {L a : Nat} (h : it_isk 6 a = true) : it_ln L (a + 1) = 48 := by
  have h1 := of_decide_eq_true (it_fin (p := fun a => decide (it_ln 0 (a + 1) = 48)) (by decide +kernel) h)
  exact (it_lnL (by omega)).trans h1
theorem cvag_6_0 {xs : Nat → Int32} {mi : Nat → Nat → Int32} {rw : Nat → Nat} {o : Nat → Int64} {a j : Nat} (h : it_isk 6 a = true) : it_cv xs mi rw o (a + 1) j = .int (mi (a + 1) j) := it_cva (by omega) (isag_6_0 h) (by simp)
theorem cvg_6_1 {xs : Nat → Int32} {mi : Nat → Nat → Int32} {rw : Nat → Nat} {o : Nat → Int64} {a : Nat} (h : it_isk 6 a = true) : it_cv xs mi rw o a 1 = .ref (a + 2) := by
  obtain ⟨n0, n1, n2⟩ := it_obj h (by decide)
  exact it_cvr n0 n1 n2 (of_decide_eq_true (it_fin (p := fun a => decide (it_ref a 1 = some (a + 2))) (by decide +kernel) h))
theorem isag_6_1 {a : Nat} (h : it_isk 6 a = true) : it_isa .int (a + 2) = true := it_fin (p := fun a => it_isa .int (a + 2)) (by decide +kernel) h
theorem lng_6_1 {L a : Nat} (h : it_isk 6 a = true) : it_ln L (a + 2) = 48 := by
  have h1 := of_decide_eq_true (it_fin (p := fun a => decide (it_ln 0 (a + 2) = 48)) (by decide +kernel) h)
  exact (it_lnL (by omega)).trans h1
theorem cvag_6_1 {xs : Nat → Int32} {mi : Nat → Nat → Int32} {rw : Nat → Nat} {o : Nat → Int64} {a j : Nat} (h : it_isk 6 a = true) : it_cv xs mi rw o (a + 2) j = .int (mi (a + 2) j) := it_cva (by omega) (isag_6_1 h) (by simp)
theorem cvg_6_2 {xs : Nat → Int32} {mi : Nat → Nat → Int32} {rw : Nat → Nat} {o : Nat → Int64} {a : Nat} (h : it_isk 6 a = true) : it_cv xs mi rw o a 2 = .ref (a + 3) := by
  obtain ⟨n0, n1, n2⟩ := it_obj h (by decide)
  exact it_cvr n0 n1 n2 (of_decide_eq_true (it_fin (p := fun a => decide (it_ref a 2 = some (a + 3))) (by decide +kernel) h))
theorem isag_6_2 {a : Nat} (h : it_isk 6 a = true) : it_isa .int (a + 3) = true := it_fin (p := fun a => it_isa .int (a + 3)) (by decide +kernel) h
theorem lng_6_2 {L a : Nat} (h : it_isk 6 a = true) : it_ln L (a + 3) = 48 := by
  have h1 := of_decide_eq_true (it_fin (p := fun a => decide (it_ln 0 (a + 3) = 48)) (by decide +kernel) h)
  exact (it_lnL (by omega)).trans h1
theorem cvag_6_2 {xs : Nat → Int32} {mi : Nat → Nat → Int32} {rw : Nat → Nat} {o : Nat → Int64} {a j : Nat} (h : it_isk 6 a = true) : it_cv xs mi rw o (a + 3) j = .int (mi (a + 3) j) := it_cva (by omega) (isag_6_2 h) (by simp)
theorem cvg_6_3 {xs : Nat → Int32} {mi : Nat → Nat → Int32} {rw : Nat → Nat} {o : Nat → Int64} {a : Nat} (h : it_isk 6 a = true) : it_cv xs mi rw o a 3 = .ref (a + 4) := by
  obtain ⟨n0, n1, n2⟩ := it_obj h (by decide)
  exact it_cvr n0 n1 n2 (of_decide_eq_true (it_fin (p := fun a => decide (it_ref a 3 = some (a + 4))) (by decide +kernel) h))
theorem isag_6_3 {a : Nat} (h : it_isk 6 a = true) : it_isa .int (a + 4) = true := it_fin (p := fun a => it_isa .int (a + 4)) (by decide +kernel) h
theorem lng_6_3 {L a : Nat} (h : it_isk 6 a = true) : it_ln L (a + 4) = 48 := by
  have h1 := of_decide_eq_true (it_fin (p := fun a => decide (it_ln 0 (a + 4) = 48)) (by decide +kernel) h)
  exact (it_lnL (by omega)).trans h1
theorem cvag_6_3 {xs : Nat → Int32} {mi : Nat → Nat → Int32} {rw : Nat → Nat} {o : Nat → Int64} {a j : Nat} (h : it_isk 6 a = true) : it_cv xs mi rw o (a + 4) j = .int (mi (a + 4) j) := it_cva (by omega) (isag_6_3 h) (by simp)
theorem cvg_6_4 {xs : Nat → Int32} {mi : Nat → Nat → Int32} {rw : Nat → Nat} {o : Nat → Int64} {a : Nat} (h : it_isk 6 a = true) : it_cv xs mi rw o a 4 = .ref (a + 5) := by
  obtain ⟨n0, n1, n2⟩ := it_obj h (by decide)
  exact it_cvr n0 n1 n2 (of_decide_eq_true (it_fin (p := fun a => decide (it_ref a 4 = some (a + 5))) (by decide +kernel) h))
theorem isag_6_4 {a : Nat} (h : it_isk 6 a = true) : it_isa .boolean (a + 5) = true := it_fin (p := fun a => it_isa .boolean (a + 5)) (by decide +kernel) h
theorem lng_6_4 {L a : Nat} (h : it_isk 6 a = true) : it_ln L (a + 5) = 48 := by
  have h1 := of_decide_eq_true (it_fin (p := fun a => decide (it_ln 0 (a + 5) = 48)) (by decide +kernel) h)
  exact (it_lnL (by omega)).trans h1
theorem cvag_6_4 {xs : Nat → Int32} {mi : Nat → Nat → Int32} {rw : Nat → Nat} {o : Nat → Int64} {a j : Nat} (h : it_isk 6 a = true) : it_cv xs mi rw o (a + 5) j = .int (mi (a + 5) j) := it_cva (by omega) (isag_6_4 h) (by simp)
theorem cvg_6_5 {xs : Nat → Int32} {mi : Nat → Nat → Int32} {rw : Nat → Nat} {o : Nat → Int64} {a : Nat} (h : it_isk 6 a = true) : it_cv xs mi rw o a 5 = .ref (a + 6) := by
  obtain ⟨n0, n1, n2⟩ := it_obj h (by decide)
  exact it_cvr n0 n1 n2 (of_decide_eq_true (it_fin (p := fun a => decide (it_ref a 5 = some (a + 6))) (by decide +kernel) h))
theorem isag_6_5 {a : Nat} (h : it_isk 6 a = true) : it_isa .int (a + 6) = true := it_fin (p := fun a => it_isa .int (a + 6)) (by decide +kernel) h
theorem lng_6_5 {L a : Nat} (h : it_isk 6 a = true) : it_ln L (a + 6) = 3 := by
  have h1 := of_decide_eq_true (it_fin (p := fun a => decide (it_ln 0 (a + 6) = 3)) (by decide +kernel) h)
  exact (it_lnL (by omega)).trans h1
theorem cvag_6_5 {xs : Nat → Int32} {mi : Nat → Nat → Int32} {rw : Nat → Nat} {o : Nat → Int64} {a j : Nat} (h : it_isk 6 a = true) : it_cv xs mi rw o (a + 6) j = .int (mi (a + 6) j) := it_cva (by omega) (isag_6_5 h) (by simp)
theorem cvg_6_6 {xs : Nat → Int32} {mi : Nat → Nat → Int32} {rw : Nat → Nat} {o : Nat → Int64} {a : Nat} (h : it_isk 6 a = true) : it_cv xs mi rw o a 6 = .ref (a + 7) := by
  obtain ⟨n0, n1, n2⟩ := it_obj h (by decide)
  exact it_cvr n0 n1 n2 (of_decide_eq_true (it_fin (p := fun a => decide (it_ref a 6 = some (a + 7))) (by decide +kernel) h))
theorem iskg_6_6 {a : Nat} (h : it_isk 6 a = true) : it_isk 5 (a + 7) = true := it_fin (p := fun a => it_isk 5 (a + 7)) (by decide +kernel) h
theorem cvg_7_0 {xs : Nat → Int32} {mi : Nat → Nat → Int32} {rw : Nat → Nat} {o : Nat → Int64} {a : Nat} (h : it_isk 7 a = true) : it_cv xs mi rw o a 0 = .ref (a + 1) := by
  obtain ⟨n0, n1, n2⟩ := it_obj h (by decide)
  exact it_cvr n0 n1 n2 (of_decide_eq_true (it_fin (p := fun a => decide (it_ref a 0 = some (a + 1))) (by decide +kernel) h))
theorem isag_7_0 {a : Nat} (h : it_isk 7 a = true) : it_isa .int (a + 1) = true := it_fin (p := fun a => it_isa .int (a + 1)) (by decide +kernel) h
theorem lng_7_0 {L a : Nat} (h : it_isk 7 a = true) : it_ln L (a + 1) = 3 := by
  have h1 := of_decide_eq_true (it_fin (p := fun a => decide (it_ln 0 (a + 1) = 3)) (by decide +kernel) h)
  exact (it_lnL (by omega)).trans h1
theorem cvag_7_0 {xs : Nat → Int32} {mi : Nat → Nat → Int32} {rw : Nat → Nat} {o : Nat → Int64} {a j : Nat} (h : it_isk 7 a = true) : it_cv xs mi rw o (a + 1) j = .int (mi (a + 1) j) := it_cva (by omega) (isag_7_0 h) (by simp)
theorem cvg_7_1 {xs : Nat → Int32} {mi : Nat → Nat → Int32} {rw : Nat → Nat} {o : Nat → Int64} {a : Nat} (h : it_isk 7 a = true) : it_cv xs mi rw o a 1 = .ref (a + 2) := by
  obtain ⟨n0, n1, n2⟩ := it_obj h (by decide)
  exact it_cvr n0 n1 n2 (of_decide_eq_true (it_fin (p := fun a => decide (it_ref a 1 = some (a + 2))) (by decide +kernel) h))
theorem isag_7_1 {a : Nat} (h : it_isk 7 a = true) : it_isa (.array .int) (a + 2) = true := it_fin (p := fun a => it_isa (.array .int) (a + 2)) (by decide +kernel) h
theorem lng_7_1 {L a : Nat} (h : it_isk 7 a = true) : it_ln L (a + 2) = 3 := by
  have h1 := of_decide_eq_true (it_fin (p := fun a => decide (it_ln 0 (a + 2) = 3)) (by decide +kernel) h)
  exact (it_lnL (by omega)).trans h1
theorem cvag_7_1_0 {xs : Nat → Int32} {mi : Nat → Nat → Int32} {rw : Nat → Nat} {o : Nat → Int64} {a : Nat} (h : it_isk 7 a = true) : it_cv xs mi rw o (a + 2) 0 = .ref (a + 3) := it_cvr (by omega) (of_decide_eq_true (it_fin (p := fun a => decide (a + 2 ≠ 134)) (by decide +kernel) h)) (of_decide_eq_true (it_fin (p := fun a => decide (a + 2 ≠ 78)) (by decide +kernel) h)) (of_decide_eq_true (it_fin (p := fun a => decide (it_ref (a + 2) 0 = some (a + 3))) (by decide +kernel) h))
theorem isag_7_1_0 {a : Nat} (h : it_isk 7 a = true) : it_isa .int (a + 3) = true := it_fin (p := fun a => it_isa .int (a + 3)) (by decide +kernel) h
theorem lng_7_1_0 {L a : Nat} (h : it_isk 7 a = true) : it_ln L (a + 3) = 3 := by
  have h1 := of_decide_eq_true (it_fin (p := fun a => decide (it_ln 0 (a + 3) = 3)) (by decide +kernel) h)
  exact (it_lnL (by omega)).trans h1
theorem cvag_7_1_0a {xs : Nat → Int32} {mi : Nat → Nat → Int32} {rw : Nat → Nat} {o : Nat → Int64} {a j : Nat} (h : it_isk 7 a = true) : it_cv xs mi rw o (a + 3) j = .int (mi (a + 3) j) := it_cva (by omega) (isag_7_1_0 h) (by simp)
theorem cvag_7_1_1 {xs : Nat → Int32} {mi : Nat → Nat → Int32} {rw : Nat → Nat} {o : Nat → Int64} {a : Nat} (h : it_isk 7 a = true) : it_cv xs mi rw o (a + 2) 1 = .ref (a + 4) := it_cvr (by omega) (of_decide_eq_true (it_fin (p := fun a => decide (a + 2 ≠ 134)) (by decide +kernel) h)) (of_decide_eq_true (it_fin (p := fun a => decide (a + 2 ≠ 78)) (by decide +kernel) h)) (of_decide_eq_true (it_fin (p := fun a => decide (it_ref (a + 2) 1 = some (a + 4))) (by decide +kernel) h))
theorem isag_7_1_1 {a : Nat} (h : it_isk 7 a = true) : it_isa .int (a + 4) = true := it_fin (p := fun a => it_isa .int (a + 4)) (by decide +kernel) h
theorem lng_7_1_1 {L a : Nat} (h : it_isk 7 a = true) : it_ln L (a + 4) = 3 := by
  have h1 := of_decide_eq_true (it_fin (p := fun a => decide (it_ln 0 (a + 4) = 3)) (by decide +kernel) h)
  exact (it_lnL (by omega)).trans h1
theorem cvag_7_1_1a {xs : Nat → Int32} {mi : Nat → Nat → Int32} {rw : Nat → Nat} {o : Nat → Int64} {a j : Nat} (h : it_isk 7 a = true) : it_cv xs mi rw o (a + 4) j = .int (mi (a + 4) j) := it_cva (by omega) (isag_7_1_1 h) (by simp)
theorem cvag_7_1_2 {xs : Nat → Int32} {mi : Nat → Nat → Int32} {rw : Nat → Nat} {o : Nat → Int64} {a : Nat} (h : it_isk 7 a = true) : it_cv xs mi rw o (a + 2) 2 = .ref (a + 5) := it_cvr (by omega) (of_decide_eq_true (it_fin (p := fun a => decide (a + 2 ≠ 134)) (by decide +kernel) h)) (of_decide_eq_true (it_fin (p := fun a => decide (a + 2 ≠ 78)) (by decide +kernel) h)) (of_decide_eq_true (it_fin (p := fun a => decide (it_ref (a + 2) 2 = some (a + 5))) (by decide +kernel) h))
theorem isag_7_1_2 {a : Nat} (h : it_isk 7 a = true) : it_isa .int (a + 5) = true := it_fin (p := fun a => it_isa .int (a + 5)) (by decide +kernel) h
theorem lng_7_1_2 {L a : Nat} (h : it_isk 7 a = true) : it_ln L (a + 5) = 3 := by
  have h1 := of_decide_eq_true (it_fin (p := fun a => decide (it_ln 0 (a + 5) = 3)) (by decide +kernel) h)
  exact (it_lnL (by omega)).trans h1
theorem cvag_7_1_2a {xs : Nat → Int32} {mi : Nat → Nat → Int32} {rw : Nat → Nat} {o : Nat → Int64} {a j : Nat} (h : it_isk 7 a = true) : it_cv xs mi rw o (a + 5) j = .int (mi (a + 5) j) := it_cva (by omega) (isag_7_1_2 h) (by simp)
theorem cvg_7_2 {xs : Nat → Int32} {mi : Nat → Nat → Int32} {rw : Nat → Nat} {o : Nat → Int64} {a : Nat} (h : it_isk 7 a = true) : it_cv xs mi rw o a 2 = .ref (a + 6) := by
  obtain ⟨n0, n1, n2⟩ := it_obj h (by decide)
  exact it_cvr n0 n1 n2 (of_decide_eq_true (it_fin (p := fun a => decide (it_ref a 2 = some (a + 6))) (by decide +kernel) h))
theorem iskg_7_2 {a : Nat} (h : it_isk 7 a = true) : it_isk 6 (a + 6) = true := it_fin (p := fun a => it_isk 6 (a + 6)) (by decide +kernel) h
theorem cvg_7_3 {xs : Nat → Int32} {mi : Nat → Nat → Int32} {rw : Nat → Nat} {o : Nat → Int64} {a : Nat} (h : it_isk 7 a = true) : it_cv xs mi rw o a 3 = .int (mi a 3) := by
  obtain ⟨n0, n1, n2⟩ := it_obj h (by decide)
  exact it_cvi n0 n1 n2 (Option.isNone_iff_eq_none.mp (it_fin (p := fun a => (it_ref a 3).isNone) (by decide +kernel) h))
theorem cvg_8_0 {xs : Nat → Int32} {mi : Nat → Nat → Int32} {rw : Nat → Nat} {o : Nat → Int64} {a : Nat} (h : it_isk 8 a = true) : it_cv xs mi rw o a 0 = .ref (a + 1) := by
  obtain ⟨n0, n1, n2⟩ := it_obj h (by decide)
  exact it_cvr n0 n1 n2 (of_decide_eq_true (it_fin (p := fun a => decide (it_ref a 0 = some (a + 1))) (by decide +kernel) h))
theorem isag_8_0 {a : Nat} (h : it_isk 8 a = true) : it_isa .int (a + 1) = true := it_fin (p := fun a => it_isa .int (a + 1)) (by decide +kernel) h
theorem lng_8_0 {L a : Nat} (h : it_isk 8 a = true) : it_ln L (a + 1) = 3 := by
  have h1 := of_decide_eq_true (it_fin (p := fun a => decide (it_ln 0 (a + 1) = 3)) (by decide +kernel) h)
  exact (it_lnL (by omega)).trans h1
theorem cvag_8_0 {xs : Nat → Int32} {mi : Nat → Nat → Int32} {rw : Nat → Nat} {o : Nat → Int64} {a j : Nat} (h : it_isk 8 a = true) : it_cv xs mi rw o (a + 1) j = .int (mi (a + 1) j) := it_cva (by omega) (isag_8_0 h) (by simp)
theorem cvg_8_1 {xs : Nat → Int32} {mi : Nat → Nat → Int32} {rw : Nat → Nat} {o : Nat → Int64} {a : Nat} (h : it_isk 8 a = true) : it_cv xs mi rw o a 1 = .ref (a + 2) := by
  obtain ⟨n0, n1, n2⟩ := it_obj h (by decide)
  exact it_cvr n0 n1 n2 (of_decide_eq_true (it_fin (p := fun a => decide (it_ref a 1 = some (a + 2))) (by decide +kernel) h))
theorem isag_8_1 {a : Nat} (h : it_isk 8 a = true) : it_isa .int (a + 2) = true := it_fin (p := fun a => it_isa .int (a + 2)) (by decide +kernel) h
theorem lng_8_1 {L a : Nat} (h : it_isk 8 a = true) : it_ln L (a + 2) = 3 := by
  have h1 := of_decide_eq_true (it_fin (p := fun a => decide (it_ln 0 (a + 2) = 3)) (by decide +kernel) h)
  exact (it_lnL (by omega)).trans h1
theorem cvag_8_1 {xs : Nat → Int32} {mi : Nat → Nat → Int32} {rw : Nat → Nat} {o : Nat → Int64} {a j : Nat} (h : it_isk 8 a = true) : it_cv xs mi rw o (a + 2) j = .int (mi (a + 2) j) := it_cva (by omega) (isag_8_1 h) (by simp)
theorem cvg_8_2 {xs : Nat → Int32} {mi : Nat → Nat → Int32} {rw : Nat → Nat} {o : Nat → Int64} {a : Nat} (h : it_isk 8 a = true) : it_cv xs mi rw o a 2 = .int (mi a 2) := by
  obtain ⟨n0, n1, n2⟩ := it_obj h (by decide)
  exact it_cvi n0 n1 n2 (Option.isNone_iff_eq_none.mp (it_fin (p := fun a => (it_ref a 2).isNone) (by decide +kernel) h))
theorem cvg_8_3 {xs : Nat → Int32} {mi : Nat → Nat → Int32} {rw : Nat → Nat} {o : Nat → Int64} {a : Nat} (h : it_isk 8 a = true) : it_cv xs mi rw o a 3 = .int (mi a 3) := by
  obtain ⟨n0, n1, n2⟩ := it_obj h (by decide)
  exact it_cvi n0 n1 n2 (Option.isNone_iff_eq_none.mp (it_fin (p := fun a => (it_ref a 3).isNone) (by decide +kernel) h))
