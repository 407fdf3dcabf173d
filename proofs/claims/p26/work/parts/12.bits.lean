theorem lN_subw {a b : Nat} (h : b ≤ a) : lN a - lN b = lN (a - b) := lN_sub h
theorem nI_subw {a b : Nat} (h : b ≤ a) : nI a - nI b = nI (a - b) := pk_sub h
theorem nI_mod (n : Nat) : nI n = nI (n % 2 ^ 32) := Int32.toBitVec_inj.mp (by show BitVec.ofNat 32 n = BitVec.ofNat 32 _; apply BitVec.eq_of_toNat_eq; rw [BitVec.toNat_ofNat, BitVec.toNat_ofNat, Nat.mod_mod])
theorem nI_andw (a b : Nat) : nI a &&& nI b = nI (a &&& b) := by
  apply Int32.toBitVec_inj.mp
  rw [Int32.toBitVec_and]
  show BitVec.ofNat 32 a &&& BitVec.ofNat 32 b = BitVec.ofNat 32 (a &&& b)
  rw [← BitVec.ofNat_and]
theorem nI_orw (a b : Nat) : nI a ||| nI b = nI (a ||| b) := by
  apply Int32.toBitVec_inj.mp
  rw [Int32.toBitVec_or]
  show BitVec.ofNat 32 a ||| BitVec.ofNat 32 b = BitVec.ofNat 32 (a ||| b)
  rw [← BitVec.ofNat_or]
theorem pk_andNw {n : Nat} {m : Int32} (k : Nat) (hm : m = nI (2 ^ k - 1)) : nI n &&& m = nI (n % 2 ^ k) := by
  rw [hm, nI_andw, Nat.and_two_pow_sub_one_eq_mod]
def r_J13_bitCount_95d88 : Room := { frames := 0, cells := 0, slots := 0, locals := 0 }
set_option maxRecDepth 100000 in
set_option maxHeartbeats 4000000 in
theorem k_J13_bitCount_95d88 (l : Launch) (D : va_G) (ty : Nat → ClassId) (x : Int64) (f : Nat → Bool) (hx : x = lN (zmsk f 64)) : gM l D ty yJ13_bitCount_95d88 cJ13_bitCount_95d88 2 (some (FieldType.int : FieldType)) r_J13_bitCount_95d88 0 0 [.long (x)] [] (fun (zr : Option Value) (zW : va_W) => zr = some (.int (nI (zcnt f 64))) ∧ zW = []) := by
  subst hx
  have hX := zmsk_lt f 64
  obtain ⟨b1, Y, Z, e1, b2, e2, b3, e3⟩ := zlanes 8 (zmsk f 64) hX
  obtain ⟨b4, e4⟩ := zsum8 (zmsk f 64) _ rfl
  have e5 : zsb zgC 8 (zmsk f 64) = zcnt f 64 := (zsb_cnt 8 _).trans (zcnt_congr (fun i hi => by rw [zmsk_tb]; simp; omega))
  rw [e5] at e4
  generalize zmsk f 64 = X at *
  have b5 : (X / 2 &&& zmm 85 8) < 2 ^ 64 := by omega
  have k1 : lN 6148914691236517205 = lN (zmm 85 8) := rfl
  have k2 : lN 3689348814741910323 = lN (zmm 51 8) := rfl
  have k3 : lN 1085102592571150095 = lN (zmm 15 8) := rfl
  have b6 : (Y &&& zmm 51 8) ≤ zmm 51 8 := Nat.and_le_right
  have b7 : (Y / 4 &&& zmm 51 8) ≤ zmm 51 8 := Nat.and_le_right
  have k4 : zmm 51 8 = 3689348814741910323 := rfl
  have k5 : zmm 85 8 < 2 ^ 64 := by decide
  have k6 : zmm 15 8 < 2 ^ 64 := by decide
  generalize hG : zln zgC 8 X = G at *
  refine gM_of RJ13 rfl (by decide +kernel) (Nat.le_of_ble_eq_true rfl) ?_
  intro pg en s0 mi ag bl mth cd AA HH QQ C E hnm
  show gW pg l en r_J13_bitCount_95d88 s0 mi ag bl mth cd 2 D AA HH QQ 0 [(0, .long (lN X))] [] [] 0 0
  refine g_lload_n C 0 rfl dJ13_bitCount_95d88_0 ?_
  refine g_lload_n C 0 rfl dJ13_bitCount_95d88_1 ?_
  refine g_iconst C (nI 1) ic_1 dJ13_bitCount_95d88_2 ?_
  refine g_lushr C (lN (X / 2 ^ 1)) (wb_shr (by omega) (by decide)) dJ13_bitCount_95d88_3 ?_
  refine g_ldc2 C wd_J13_314 dJ13_bitCount_95d88_4 ?_
  refine g_land C (lN (X / 2 &&& zmm 85 8)) dJ13_bitCount_95d88_7 (wb_and (by omega) k5) ?_
  refine g_lsub C (lN Y) dJ13_bitCount_95d88_8 ((lN_subw b1).trans (congrArg lN e1)) ?_
  refine g_lstore_n C [(0, .long (lN Y))] dJ13_bitCount_95d88_9 rfl (by decide) rfl ?_
  refine g_lload_n C 0 rfl dJ13_bitCount_95d88_10 ?_
  refine g_ldc2 C wd_J13_316 dJ13_bitCount_95d88_11 ?_
  refine g_land C (lN (Y &&& zmm 51 8)) dJ13_bitCount_95d88_14 (wb_and (by omega) (by decide)) ?_
  refine g_lload_n C 0 rfl dJ13_bitCount_95d88_15 ?_
  refine g_iconst C (nI 2) ic_2 dJ13_bitCount_95d88_16 ?_
  refine g_lushr C (lN (Y / 2 ^ 2)) (wb_shr (by omega) (by decide)) dJ13_bitCount_95d88_17 ?_
  refine g_ldc2 C wd_J13_316 dJ13_bitCount_95d88_18 ?_
  refine g_land C (lN (Y / 4 &&& zmm 51 8)) dJ13_bitCount_95d88_21 (wb_and (by omega) (by decide)) ?_
  refine g_ladd C (lN Z) dJ13_bitCount_95d88_22 ((lN_add _ _).trans (congrArg lN e2)) ?_
  refine g_lstore_n C [(0, .long (lN Z))] dJ13_bitCount_95d88_23 rfl (by decide) rfl ?_
  refine g_lload_n C 0 rfl dJ13_bitCount_95d88_24 ?_
  refine g_lload_n C 0 rfl dJ13_bitCount_95d88_25 ?_
  refine g_iconst C (nI 4) ic_4 dJ13_bitCount_95d88_26 ?_
  refine g_lushr C (lN (Z / 2 ^ 4)) (wb_shr (by omega) (by decide)) dJ13_bitCount_95d88_27 ?_
  refine g_ladd C (lN (Z + Z / 16)) dJ13_bitCount_95d88_28 (lN_add _ _) ?_
  refine g_ldc2 C wd_J13_318 dJ13_bitCount_95d88_29 ?_
  refine g_land C (lN G) dJ13_bitCount_95d88_32 ((wb_and (by omega) k6).trans (congrArg lN e3)) ?_
  refine g_lstore_n C [(0, .long (lN G))] dJ13_bitCount_95d88_33 rfl (by decide) rfl ?_
  refine g_lload_n C 0 rfl dJ13_bitCount_95d88_34 ?_
  refine g_lload_n C 0 rfl dJ13_bitCount_95d88_35 ?_
  refine g_bipush C (nI 8) bp_8 dJ13_bitCount_95d88_36 ?_
  refine g_lushr C (lN (G / 2 ^ 8)) (wb_shr (by omega) (by decide)) dJ13_bitCount_95d88_38 ?_
  refine g_ladd C (lN (G + G / 256)) dJ13_bitCount_95d88_39 (lN_add _ _) ?_
  refine g_lstore_n C [(0, .long (lN (G + G / 256)))] dJ13_bitCount_95d88_40 rfl (by decide) rfl ?_
  refine g_lload_n C 0 rfl dJ13_bitCount_95d88_41 ?_
  refine g_lload_n C 0 rfl dJ13_bitCount_95d88_42 ?_
  refine g_bipush C (nI 16) bp_16 dJ13_bitCount_95d88_43 ?_
  refine g_lushr C (lN ((G + G / 256) / 2 ^ 16)) (wb_shr (by omega) (by decide)) dJ13_bitCount_95d88_45 ?_
  refine g_ladd C (lN (G + G / 256 + (G + G / 256) / 65536)) dJ13_bitCount_95d88_46 (lN_add _ _) ?_
  refine g_lstore_n C [(0, .long (lN (G + G / 256 + (G + G / 256) / 65536)))] dJ13_bitCount_95d88_47 rfl (by decide) rfl ?_
  refine g_lload_n C 0 rfl dJ13_bitCount_95d88_48 ?_
  refine g_lload_n C 0 rfl dJ13_bitCount_95d88_49 ?_
  refine g_bipush C (nI 32) bp_32 dJ13_bitCount_95d88_50 ?_
  refine g_lushr C (lN ((G + G / 256 + (G + G / 256) / 65536) / 2 ^ 32)) (wb_shr (by omega) (by decide)) dJ13_bitCount_95d88_52 ?_
  refine g_ladd C (lN (G + G / 256 + (G + G / 256) / 65536 + (G + G / 256 + (G + G / 256) / 65536) / 4294967296)) dJ13_bitCount_95d88_53 (lN_add _ _) ?_
  refine g_lstore_n C [(0, .long (lN (G + G / 256 + (G + G / 256) / 65536 + (G + G / 256 + (G + G / 256) / 65536) / 4294967296)))] dJ13_bitCount_95d88_54 rfl (by decide) rfl ?_
  refine g_lload_n C 0 rfl dJ13_bitCount_95d88_55 ?_
  refine g_l2i C (nI (G + G / 256 + (G + G / 256) / 65536 + (G + G / 256 + (G + G / 256) / 65536) / 4294967296)) (lN_i _) dJ13_bitCount_95d88_56 ?_
  refine g_bipush C (nI 127) bp_127 dJ13_bitCount_95d88_57 ?_
  refine g_iand C (nI (zcnt f 64)) dJ13_bitCount_95d88_59 ((pk_andNw 7 (by decide +kernel)).trans (congrArg nI e4)) ?_
  exact g_iret E dJ13_bitCount_95d88_60 (by decide) (by decide) ⟨rfl, rfl⟩
def r_J6_bitCount_0f7a4 : Room := { frames := 0, cells := 0, slots := 0, locals := 0 }
set_option maxRecDepth 100000 in
set_option maxHeartbeats 4000000 in
theorem k_J6_bitCount_0f7a4 (l : Launch) (D : va_G) (ty : Nat → ClassId) (x : Int32) (f : Nat → Bool) (hx : x = nI (zmsk f 32)) : gM l D ty yJ6_bitCount_0f7a4 cJ6_bitCount_0f7a4 1 (some (FieldType.int : FieldType)) r_J6_bitCount_0f7a4 0 0 [.int (x)] [] (fun (zr : Option Value) (zW : va_W) => zr = some (.int (nI (zcnt f 32))) ∧ zW = []) := by
  subst hx
  have hX := zmsk_lt f 32
  obtain ⟨b1, Y, Z, e1, b2, e2, b3, e3⟩ := zlanes 4 (zmsk f 32) hX
  obtain ⟨b4, e4⟩ := zsum4 (zmsk f 32) _ rfl
  have e5 : zsb zgC 4 (zmsk f 32) = zcnt f 32 := (zsb_cnt 4 _).trans (zcnt_congr (fun i hi => by rw [zmsk_tb]; simp; omega))
  rw [e5] at e4
  generalize zmsk f 32 = X at *
  have b5 : (X / 2 &&& zmm 85 4) < 2 ^ 32 := by omega
  have b6 : (Y &&& zmm 51 4) ≤ zmm 51 4 := Nat.and_le_right
  have b7 : (Y / 4 &&& zmm 51 4) ≤ zmm 51 4 := Nat.and_le_right
  have k4 : zmm 51 4 = 858993459 := rfl
  generalize hG : zln zgC 4 X = G at *
  refine gM_of RJ6 rfl (by decide +kernel) (Nat.le_of_ble_eq_true rfl) ?_
  intro pg en s0 mi ag bl mth cd AA HH QQ C E hnm
  show gW pg l en r_J6_bitCount_0f7a4 s0 mi ag bl mth cd 1 D AA HH QQ 0 [(0, .int (nI X))] [] [] 0 0
  refine g_iload_n C 0 rfl dJ6_bitCount_0f7a4_0 ?_
  refine g_iload_n C 0 rfl dJ6_bitCount_0f7a4_1 ?_
  refine g_iconst C (nI 1) ic_1 dJ6_bitCount_0f7a4_2 ?_
  refine g_iushr C (nI (X / 2 ^ 1)) (pk_ushrN (by omega) _ 1 (by decide +kernel)) dJ6_bitCount_0f7a4_3 ?_
  refine g_ldcw C wd_J6_265 dJ6_bitCount_0f7a4_4 ?_
  refine g_iand C (nI (X / 2 &&& zmm 85 4)) dJ6_bitCount_0f7a4_7 (nI_andw _ _) ?_
  refine g_isub C (nI Y) dJ6_bitCount_0f7a4_8 ((nI_subw b1).trans (congrArg nI e1)) ?_
  refine g_istore_n C [(0, .int (nI Y))] dJ6_bitCount_0f7a4_9 rfl (by decide) rfl ?_
  refine g_iload_n C 0 rfl dJ6_bitCount_0f7a4_10 ?_
  refine g_ldcw C wd_J6_266 dJ6_bitCount_0f7a4_11 ?_
  refine g_iand C (nI (Y &&& zmm 51 4)) dJ6_bitCount_0f7a4_14 (nI_andw _ _) ?_
  refine g_iload_n C 0 rfl dJ6_bitCount_0f7a4_15 ?_
  refine g_iconst C (nI 2) ic_2 dJ6_bitCount_0f7a4_16 ?_
  refine g_iushr C (nI (Y / 2 ^ 2)) (pk_ushrN (by omega) _ 2 (by decide +kernel)) dJ6_bitCount_0f7a4_17 ?_
  refine g_ldcw C wd_J6_266 dJ6_bitCount_0f7a4_18 ?_
  refine g_iand C (nI (Y / 4 &&& zmm 51 4)) dJ6_bitCount_0f7a4_21 (nI_andw _ _) ?_
  refine g_iadd C (nI Z) dJ6_bitCount_0f7a4_22 ((nI_add _ _).trans (congrArg nI e2)) ?_
  refine g_istore_n C [(0, .int (nI Z))] dJ6_bitCount_0f7a4_23 rfl (by decide) rfl ?_
  refine g_iload_n C 0 rfl dJ6_bitCount_0f7a4_24 ?_
  refine g_iload_n C 0 rfl dJ6_bitCount_0f7a4_25 ?_
  refine g_iconst C (nI 4) ic_4 dJ6_bitCount_0f7a4_26 ?_
  refine g_iushr C (nI (Z / 2 ^ 4)) (pk_ushrN (by omega) _ 4 (by decide +kernel)) dJ6_bitCount_0f7a4_27 ?_
  refine g_iadd C (nI (Z + Z / 16)) dJ6_bitCount_0f7a4_28 (nI_add _ _) ?_
  refine g_ldcw C wd_J6_267 dJ6_bitCount_0f7a4_29 ?_
  refine g_iand C (nI G) dJ6_bitCount_0f7a4_32 ((nI_andw _ _).trans (congrArg nI e3)) ?_
  refine g_istore_n C [(0, .int (nI G))] dJ6_bitCount_0f7a4_33 rfl (by decide) rfl ?_
  refine g_iload_n C 0 rfl dJ6_bitCount_0f7a4_34 ?_
  refine g_iload_n C 0 rfl dJ6_bitCount_0f7a4_35 ?_
  refine g_bipush C (nI 8) bp_8 dJ6_bitCount_0f7a4_36 ?_
  refine g_iushr C (nI (G / 2 ^ 8)) (pk_ushrN (by omega) _ 8 (by decide +kernel)) dJ6_bitCount_0f7a4_38 ?_
  refine g_iadd C (nI (G + G / 256)) dJ6_bitCount_0f7a4_39 (nI_add _ _) ?_
  refine g_istore_n C [(0, .int (nI (G + G / 256)))] dJ6_bitCount_0f7a4_40 rfl (by decide) rfl ?_
  refine g_iload_n C 0 rfl dJ6_bitCount_0f7a4_41 ?_
  refine g_iload_n C 0 rfl dJ6_bitCount_0f7a4_42 ?_
  refine g_bipush C (nI 16) bp_16 dJ6_bitCount_0f7a4_43 ?_
  refine g_iushr C (nI ((G + G / 256) / 2 ^ 16)) (pk_ushrN (by omega) _ 16 (by decide +kernel)) dJ6_bitCount_0f7a4_45 ?_
  refine g_iadd C (nI (G + G / 256 + (G + G / 256) / 65536)) dJ6_bitCount_0f7a4_46 (nI_add _ _) ?_
  refine g_istore_n C [(0, .int (nI (G + G / 256 + (G + G / 256) / 65536)))] dJ6_bitCount_0f7a4_47 rfl (by decide) rfl ?_
  refine g_iload_n C 0 rfl dJ6_bitCount_0f7a4_48 ?_
  refine g_bipush C (nI 63) bp_63 dJ6_bitCount_0f7a4_49 ?_
  refine g_iand C (nI (zcnt f 32)) dJ6_bitCount_0f7a4_51 ((pk_andNw 6 (by decide +kernel)).trans (congrArg nI e4)) ?_
  exact g_iret E dJ6_bitCount_0f7a4_52 (by decide) (by decide) ⟨rfl, rfl⟩
