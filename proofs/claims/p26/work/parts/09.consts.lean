/-! the small constants of the code -/
theorem bp_105 : (Int8.ofInt (105)).toInt32 = nI 105 := by decide +kernel
theorem bp_11 : (Int8.ofInt (11)).toInt32 = nI 11 := by decide +kernel
theorem bp_12 : (Int8.ofInt (12)).toInt32 = nI 12 := by decide +kernel
theorem bp_127 : (Int8.ofInt (127)).toInt32 = nI 127 := by decide +kernel
theorem bp_15 : (Int8.ofInt (15)).toInt32 = nI 15 := by decide +kernel
theorem bp_16 : (Int8.ofInt (16)).toInt32 = nI 16 := by decide +kernel
theorem bp_18 : (Int8.ofInt (18)).toInt32 = nI 18 := by decide +kernel
theorem bp_32 : (Int8.ofInt (32)).toInt32 = nI 32 := by decide +kernel
theorem bp_38 : (Int8.ofInt (38)).toInt32 = nI 38 := by decide +kernel
theorem bp_52 : (Int8.ofInt (52)).toInt32 = nI 52 := by decide +kernel
theorem bp_6 : (Int8.ofInt (6)).toInt32 = nI 6 := by decide +kernel
theorem bp_60 : (Int8.ofInt (60)).toInt32 = nI 60 := by decide +kernel
theorem bp_63 : (Int8.ofInt (63)).toInt32 = nI 63 := by decide +kernel
theorem bp_64 : (Int8.ofInt (64)).toInt32 = nI 64 := by decide +kernel
theorem bp_7 : (Int8.ofInt (7)).toInt32 = nI 7 := by decide +kernel
theorem bp_8 : (Int8.ofInt (8)).toInt32 = nI 8 := by decide +kernel
theorem ic_m1 : Int32.ofInt (-1) = (-1) := by decide +kernel
theorem ic_0 : Int32.ofInt (0) = nI 0 := by decide +kernel
theorem ic_1 : Int32.ofInt (1) = nI 1 := by decide +kernel
theorem ic_2 : Int32.ofInt (2) = nI 2 := by decide +kernel
theorem ic_3 : Int32.ofInt (3) = nI 3 := by decide +kernel
theorem ic_4 : Int32.ofInt (4) = nI 4 := by decide +kernel
theorem ic_5 : Int32.ofInt (5) = nI 5 := by decide +kernel
theorem lc_0 : Int64.ofNat (((0 : Fin 2) : Fin 2) : Nat) = lN 0 := by decide +kernel
theorem lc_1 : Int64.ofNat (((1 : Fin 2) : Fin 2) : Nat) = lN 1 := by decide +kernel
theorem sp_1022 : (Int16.ofInt (1022)).toInt32 = nI 1022 := by decide +kernel
theorem sp_256 : (Int16.ofInt (256)).toInt32 = nI 256 := by decide +kernel
theorem sp_4369 : (Int16.ofInt (4369)).toInt32 = nI 4369 := by decide +kernel
theorem sp_7919 : (Int16.ofInt (7919)).toInt32 = nI 7919 := by decide +kernel
theorem nI_lit1 : (1 : Int32) = nI 1 := rfl
theorem ii_m1 (a : Nat) (h : 0 < a) : nI a + Int32.ofInt (-1) = nI (a - 1) := sb_m1 h
theorem ii_1 (a : Nat) : nI a + Int32.ofInt 1 = nI (a + 1) := nI_add a 1
