def r_X1_predicate : Room := { frames := 0, cells := 0, slots := 0, locals := 0 }
set_option maxRecDepth 100000 in
set_option maxHeartbeats 4000000 in
theorem k_X1_predicate (l : Launch) (D : va_G) (ty : Nat → ClassId) (a : Nat) (ha : a < 256) : gM l D ty yX1_predicate cX1_predicate 1 (some (FieldType.int : FieldType)) r_X1_predicate 0 0 [.int (nI a)] [] (fun (zr : Option Value) (zW : va_W) => zr = some (.int (nI (a / 64))) ∧ zW = []) := by
  refine gM_of RX1 rfl (by decide +kernel) (Nat.le_of_ble_eq_true rfl) ?_
  intro pg en s0 mi ag bl mth cd AA HH QQ C E hnm
  show gW pg l en r_X1_predicate s0 mi ag bl mth cd 1 D AA HH QQ 0 [(0, .int (nI a))] [] [] 0 0
  refine g_iload_n C 0 rfl dX1_predicate_0 ?_
  refine g_bipush C (nI 6) bp_6 dX1_predicate_1 ?_
  refine g_ishr C (nI (a / 64)) dX1_predicate_3 (pk_shrN (by omega) _ 6 (by decide +kernel)) ?_
  refine g_iconst C (nI 3) ic_3 dX1_predicate_4 ?_
  refine g_iand C (nI (a / 64)) dX1_predicate_5 ((pk_andN (by omega) 2 (by decide +kernel)).trans (congrArg nI (by omega))) ?_
  exact g_iret E dX1_predicate_6 (by decide) (by decide) ⟨rfl, rfl⟩
def r_X1_pair : Room := { frames := 0, cells := 0, slots := 0, locals := 0 }
set_option maxRecDepth 100000 in
set_option maxHeartbeats 4000000 in
theorem k_X1_pair (l : Launch) (D : va_G) (ty : Nat → ClassId) (a : Nat) (ha : a < 256) : gM l D ty yX1_pair cX1_pair 1 (some (FieldType.int : FieldType)) r_X1_pair 0 0 [.int (nI a)] [] (fun (zr : Option Value) (zW : va_W) => zr = some (.int (nI (a % 64))) ∧ zW = []) := by
  refine gM_of RX1 rfl (by decide +kernel) (Nat.le_of_ble_eq_true rfl) ?_
  intro pg en s0 mi ag bl mth cd AA HH QQ C E hnm
  show gW pg l en r_X1_pair s0 mi ag bl mth cd 1 D AA HH QQ 0 [(0, .int (nI a))] [] [] 0 0
  refine g_iload_n C 0 rfl dX1_pair_0 ?_
  refine g_bipush C (nI 63) bp_63 dX1_pair_1 ?_
  refine g_iand C (nI (a % 64)) dX1_pair_3 (pk_andN (by omega) 6 (by decide +kernel)) ?_
  exact g_iret E dX1_pair_4 (by decide) (by decide) ⟨rfl, rfl⟩
def r_X1_first : Room := { frames := 0, cells := 0, slots := 0, locals := 0 }
set_option maxRecDepth 100000 in
set_option maxHeartbeats 4000000 in
theorem k_X1_first (l : Launch) (D : va_G) (ty : Nat → ClassId) (a : Nat) (ha : a < 256) : gM l D ty yX1_first cX1_first 1 (some (FieldType.int : FieldType)) r_X1_first 0 0 [.int (nI a)] [] (fun (zr : Option Value) (zW : va_W) => zr = some (.int (nI (a / 8 % 8))) ∧ zW = []) := by
  refine gM_of RX1 rfl (by decide +kernel) (Nat.le_of_ble_eq_true rfl) ?_
  intro pg en s0 mi ag bl mth cd AA HH QQ C E hnm
  show gW pg l en r_X1_first s0 mi ag bl mth cd 1 D AA HH QQ 0 [(0, .int (nI a))] [] [] 0 0
  refine g_iload_n C 0 rfl dX1_first_0 ?_
  refine g_iconst C (nI 3) ic_3 dX1_first_1 ?_
  refine g_ishr C (nI (a / 8)) dX1_first_2 (pk_shrN (by omega) _ 3 (by decide +kernel)) ?_
  refine g_bipush C (nI 7) bp_7 dX1_first_3 ?_
  refine g_iand C (nI (a / 8 % 8)) dX1_first_5 (pk_andN (by omega) 3 (by decide +kernel)) ?_
  exact g_iret E dX1_first_6 (by decide) (by decide) ⟨rfl, rfl⟩
def r_X1_second : Room := { frames := 0, cells := 0, slots := 0, locals := 0 }
set_option maxRecDepth 100000 in
set_option maxHeartbeats 4000000 in
theorem k_X1_second (l : Launch) (D : va_G) (ty : Nat → ClassId) (a : Nat) (ha : a < 256) : gM l D ty yX1_second cX1_second 1 (some (FieldType.int : FieldType)) r_X1_second 0 0 [.int (nI a)] [] (fun (zr : Option Value) (zW : va_W) => zr = some (.int (nI (a % 8))) ∧ zW = []) := by
  refine gM_of RX1 rfl (by decide +kernel) (Nat.le_of_ble_eq_true rfl) ?_
  intro pg en s0 mi ag bl mth cd AA HH QQ C E hnm
  show gW pg l en r_X1_second s0 mi ag bl mth cd 1 D AA HH QQ 0 [(0, .int (nI a))] [] [] 0 0
  refine g_iload_n C 0 rfl dX1_second_0 ?_
  refine g_bipush C (nI 7) bp_7 dX1_second_1 ?_
  refine g_iand C (nI (a % 8)) dX1_second_3 (pk_andN (by omega) 3 (by decide +kernel)) ?_
  exact g_iret E dX1_second_4 (by decide) (by decide) ⟨rfl, rfl⟩
def r_X1_of : Room := { frames := 0, cells := 0, slots := 0, locals := 0 }
set_option maxRecDepth 100000 in
set_option maxHeartbeats 4000000 in
theorem k_X1_of (l : Launch) (D : va_G) (ty : Nat → ClassId) (a : Nat) (b : Nat) (c : Nat)  : gM l D ty yX1_of cX1_of 3 (some (FieldType.int : FieldType)) r_X1_of 0 0 [.int (nI a), .int (nI b), .int (nI c)] [] (fun (zr : Option Value) (zW : va_W) => zr = some (.int (nI (64 * a + 8 * b + c))) ∧ zW = []) := by
  refine gM_of RX1 rfl (by decide +kernel) (Nat.le_of_ble_eq_true rfl) ?_
  intro pg en s0 mi ag bl mth cd AA HH QQ C E hnm
  show gW pg l en r_X1_of s0 mi ag bl mth cd 3 D AA HH QQ 0 [(0, .int (nI a)), (1, .int (nI b)), (2, .int (nI c))] [] [] 0 0
  refine g_bipush C (nI 64) bp_64 dX1_of_0 ?_
  refine g_iload_n C 0 rfl dX1_of_2 ?_
  refine g_imul C (nI (64 * a)) dX1_of_3 (pk_mul _ _) ?_
  refine g_bipush C (nI 8) bp_8 dX1_of_4 ?_
  refine g_iload_n C 1 rfl dX1_of_6 ?_
  refine g_imul C (nI (8 * b)) dX1_of_7 (pk_mul _ _) ?_
  refine g_iadd C (nI ((64 * a) + (8 * b))) dX1_of_8 (nI_add _ _) ?_
  refine g_iload_n C 2 rfl dX1_of_9 ?_
  refine g_iadd C (nI (((64 * a) + (8 * b)) + c)) dX1_of_10 (nI_add _ _) ?_
  exact g_iret E dX1_of_11 (by decide) (by decide) ⟨rfl, rfl⟩
def r_X1_isAtom : Room := { frames := 0, cells := 0, slots := 0, locals := 0 }
def isA (a : Int32) : Bool := decide (¬ a < 0 ∧ ¬ nI 256 ≤ a)
set_option maxRecDepth 100000 in
set_option maxHeartbeats 4000000 in
theorem k_X1_isAtom (l : Launch) (D : va_G) (ty : Nat → ClassId) (a : Int32)  : gM l D ty yX1_isAtom cX1_isAtom 1 (some (FieldType.boolean : FieldType)) r_X1_isAtom 0 0 [.int (a)] [] (fun (zr : Option Value) (zW : va_W) => zr = some (.int (bI (isA a))) ∧ zW = []) := by
  refine gM_of RX1 rfl (by decide +kernel) (Nat.le_of_ble_eq_true rfl) ?_
  intro pg en s0 mi ag bl mth cd AA HH QQ C E hnm
  show gW pg l en r_X1_isAtom s0 mi ag bl mth cd 1 D AA HH QQ 0 [(0, .int (a))] [] [] 0 0
  refine g_iload_n C 0 rfl dX1_isAtom_0 ?_
  refine g_if_lt C 15 dX1_isAtom_1 rfl (fun c1 => ?_) (fun c1 => ?_)
  · skip
    refine g_iconst C (nI 0) ic_0 dX1_isAtom_15 ?_
    exact g_zret E false rfl dX1_isAtom_16 (by decide) (by decide) ⟨(congrArg (fun z => some (Value.int (bI z))) (by simp_all [isA])), rfl⟩
  · skip
    refine g_iload_n C 0 rfl dX1_isAtom_4 ?_
    refine g_sipush C (nI 256) sp_256 dX1_isAtom_5 ?_
    refine g_icmp_ge C 15 dX1_isAtom_8 rfl (fun c8 => ?_) (fun c8 => ?_)
    · skip
      refine g_iconst C (nI 0) ic_0 dX1_isAtom_15 ?_
      exact g_zret E false rfl dX1_isAtom_16 (by decide) (by decide) ⟨(congrArg (fun z => some (Value.int (bI z))) (by simp_all [isA])), rfl⟩
    · skip
      refine g_iconst C (nI 1) ic_1 dX1_isAtom_11 ?_
      refine g_goto C 16 dX1_isAtom_12 rfl ?_
      exact g_zret E true rfl dX1_isAtom_16 (by decide) (by decide) ⟨(congrArg (fun z => some (Value.int (bI z))) (by simp_all [isA])), rfl⟩
def r_X1_isFact : Room := { frames := 0, cells := 0, slots := 0, locals := 0 }
def isFi (a b c : Int32) : Bool := if a < 0 then false else if nI 4 ≤ a then false else if b < 0 then false else if 0 ≤ c then (if nI 4 ≤ b then (if b = nI 4 then (if nI 5 < c then false else true) else false) else (if nI 4 < c then false else true)) else false
set_option maxRecDepth 100000 in
set_option maxHeartbeats 4000000 in
theorem k_X1_isFact (l : Launch) (D : va_G) (ty : Nat → ClassId) (a : Int32) (b : Int32) (c : Int32)  : gM l D ty yX1_isFact cX1_isFact 3 (some (FieldType.boolean : FieldType)) r_X1_isFact 0 0 [.int (a), .int (b), .int (c)] [] (fun (zr : Option Value) (zW : va_W) => zr = some (.int (bI (isFi a b c))) ∧ zW = []) := by
  refine gM_of RX1 rfl (by decide +kernel) (Nat.le_of_ble_eq_true rfl) ?_
  intro pg en s0 mi ag bl mth cd AA HH QQ C E hnm
  show gW pg l en r_X1_isFact s0 mi ag bl mth cd 3 D AA HH QQ 0 [(0, .int (a)), (1, .int (b)), (2, .int (c))] [] [] 0 0
  refine g_iload_n C 0 rfl dX1_isFact_0 ?_
  refine g_if_lt C 17 dX1_isFact_1 rfl (fun c1 => ?_) (fun c1 => ?_)
  · skip
    refine g_iconst C (nI 0) ic_0 dX1_isFact_17 ?_
    exact g_zret E false rfl dX1_isFact_18 (by decide) (by decide) ⟨(congrArg (fun z => some (Value.int (bI z))) (by first | (simp only [isFi, *, reduceIte]; done) | grind [isFi])), rfl⟩
  · skip
    refine g_iload_n C 0 rfl dX1_isFact_4 ?_
    refine g_iconst C (nI 4) ic_4 dX1_isFact_5 ?_
    refine g_icmp_ge C 17 dX1_isFact_6 rfl (fun c6 => ?_) (fun c6 => ?_)
    · skip
      refine g_iconst C (nI 0) ic_0 dX1_isFact_17 ?_
      exact g_zret E false rfl dX1_isFact_18 (by decide) (by decide) ⟨(congrArg (fun z => some (Value.int (bI z))) (by first | (simp only [isFi, *, reduceIte]; done) | grind [isFi])), rfl⟩
    · skip
      refine g_iload_n C 1 rfl dX1_isFact_9 ?_
      refine g_if_lt C 17 dX1_isFact_10 rfl (fun c10 => ?_) (fun c10 => ?_)
      · skip
        refine g_iconst C (nI 0) ic_0 dX1_isFact_17 ?_
        exact g_zret E false rfl dX1_isFact_18 (by decide) (by decide) ⟨(congrArg (fun z => some (Value.int (bI z))) (by first | (simp only [isFi, *, reduceIte]; done) | grind [isFi])), rfl⟩
      · skip
        refine g_iload_n C 2 rfl dX1_isFact_13 ?_
        refine g_if_ge C 19 dX1_isFact_14 rfl (fun c14 => ?_) (fun c14 => ?_)
        · skip
          refine g_iload_n C 1 rfl dX1_isFact_19 ?_
          refine g_iconst C (nI 4) ic_4 dX1_isFact_20 ?_
          refine g_icmp_ge C 37 dX1_isFact_21 rfl (fun c21 => ?_) (fun c21 => ?_)
          · skip
            refine g_iload_n C 1 rfl dX1_isFact_37 ?_
            refine g_iconst C (nI 4) ic_4 dX1_isFact_38 ?_
            refine g_icmp_ne C 51 dX1_isFact_39 rfl (fun c39 => ?_) (fun c39 => ?_)
            · skip
              refine g_iconst C (nI 0) ic_0 dX1_isFact_51 ?_
              exact g_zret E false rfl dX1_isFact_52 (by decide) (by decide) ⟨(congrArg (fun z => some (Value.int (bI z))) (by first | (simp only [isFi, *, reduceIte]; done) | grind [isFi])), rfl⟩
            · skip
              refine g_iload_n C 2 rfl dX1_isFact_42 ?_
              refine g_iconst C (nI 5) ic_5 dX1_isFact_43 ?_
              refine g_icmp_gt C 51 dX1_isFact_44 rfl (fun c44 => ?_) (fun c44 => ?_)
              · skip
                refine g_iconst C (nI 0) ic_0 dX1_isFact_51 ?_
                exact g_zret E false rfl dX1_isFact_52 (by decide) (by decide) ⟨(congrArg (fun z => some (Value.int (bI z))) (by first | (simp only [isFi, *, reduceIte]; done) | grind [isFi])), rfl⟩
              · skip
                refine g_iconst C (nI 1) ic_1 dX1_isFact_47 ?_
                refine g_goto C 52 dX1_isFact_48 rfl ?_
                exact g_zret E true rfl dX1_isFact_52 (by decide) (by decide) ⟨(congrArg (fun z => some (Value.int (bI z))) (by first | (simp only [isFi, *, reduceIte]; done) | grind [isFi])), rfl⟩
          · skip
            refine g_iload_n C 2 rfl dX1_isFact_24 ?_
            refine g_iconst C (nI 4) ic_4 dX1_isFact_25 ?_
            refine g_icmp_gt C 33 dX1_isFact_26 rfl (fun c26 => ?_) (fun c26 => ?_)
            · skip
              refine g_iconst C (nI 0) ic_0 dX1_isFact_33 ?_
              refine g_goto C 52 dX1_isFact_34 rfl ?_
              exact g_zret E false rfl dX1_isFact_52 (by decide) (by decide) ⟨(congrArg (fun z => some (Value.int (bI z))) (by first | (simp only [isFi, *, reduceIte]; done) | grind [isFi])), rfl⟩
            · skip
              refine g_iconst C (nI 1) ic_1 dX1_isFact_29 ?_
              refine g_goto C 52 dX1_isFact_30 rfl ?_
              exact g_zret E true rfl dX1_isFact_52 (by decide) (by decide) ⟨(congrArg (fun z => some (Value.int (bI z))) (by first | (simp only [isFi, *, reduceIte]; done) | grind [isFi])), rfl⟩
        · skip
          refine g_iconst C (nI 0) ic_0 dX1_isFact_17 ?_
          exact g_zret E false rfl dX1_isFact_18 (by decide) (by decide) ⟨(congrArg (fun z => some (Value.int (bI z))) (by first | (simp only [isFi, *, reduceIte]; done) | grind [isFi])), rfl⟩
def r_X1_strongerPairs : Room := { frames := 1, cells := 0, slots := 0, locals := 22 }
/-- the pairs of terms that are stronger than a pair, as a mask -/
def spm (a : Nat) : Nat := if a / 8 % 8 > 4 ∨ a % 8 > 4 then 0 else if a / 8 % 8 = 4 ∨ a % 8 = 4 then 2 ^ 37 else 2 ^ 37 ||| (2 ^ (8 * (a / 8 % 8) + 4) ||| 2 ^ (32 + a % 8)) ||| (if a / 8 % 8 = a % 8 then 2 ^ 36 else 0)
set_option maxRecDepth 100000 in
set_option maxHeartbeats 4000000 in
theorem k_X1_strongerPairs (l : Launch) (D : va_G) (ty : Nat → ClassId) (a : Nat) (ha : a < 64) : gM l D ty yX1_strongerPairs cX1_strongerPairs 7 (some (FieldType.long : FieldType)) r_X1_strongerPairs 0 0 [.int (nI a)] [] (fun (zr : Option Value) (zW : va_W) => zr = some (.long (lN (spm a))) ∧ zW = []) := by
  refine gM_of RX1 rfl (by decide +kernel) (Nat.le_of_ble_eq_true rfl) ?_
  intro pg en s0 mi ag bl mth cd AA HH QQ C E hnm
  show gW pg l en r_X1_strongerPairs s0 mi ag bl mth cd 7 D AA HH QQ 0 [(0, .int (nI a))] [] [] 0 0
  refine g_iload_n C 0 rfl dX1_strongerPairs_0 ?_
  refine g_callS0 C (nA := 1) (k_X1_first l D ty a (by omega)) wm_X1_11 ws_X1_first wi_X1 wc_X1_first rfl (by decide +kernel) ⟨(Nat.le_of_ble_eq_true rfl), (Nat.le_of_ble_eq_true rfl)⟩ ⟨rfl, rfl⟩ dX1_strongerPairs_1 (fun _ _ h => h.2) (Nat.le_of_ble_eq_true rfl) rfl ⟨Nat.zero_le _, Nat.zero_le _⟩ (fun r hp => ?_)
  obtain ⟨rfl, -⟩ := hp
  refine g_st [.int (nI (a / 8 % 8))] rfl ?_
  refine g_istore_n C [(1, .int (nI (a / 8 % 8))), (0, .int (nI a))] dX1_strongerPairs_4 rfl (by decide) rfl ?_
  refine g_iload_n C 1 rfl dX1_strongerPairs_5 ?_
  refine g_callS0 C (nA := 1) (k_X1_second l D ty a (by omega)) wm_X1_15 ws_X1_second wi_X1 wc_X1_second rfl (by decide +kernel) ⟨(Nat.le_of_ble_eq_true rfl), (Nat.le_of_ble_eq_true rfl)⟩ ⟨rfl, rfl⟩ dX1_strongerPairs_6 (fun _ _ h => h.2) (Nat.le_of_ble_eq_true rfl) rfl ⟨Nat.zero_le _, Nat.zero_le _⟩ (fun r hp => ?_)
  obtain ⟨rfl, -⟩ := hp
  refine g_st [.int (nI (a % 8))] rfl ?_
  refine g_istore_n C [(2, .int (nI (a % 8))), (1, .int (nI (a / 8 % 8))), (0, .int (nI a))] dX1_strongerPairs_9 rfl (by decide) rfl ?_
  refine g_iload_n C 1 rfl dX1_strongerPairs_10 ?_
  refine g_iconst C (nI 4) ic_4 dX1_strongerPairs_11 ?_
  refine g_icmp_gtN C (a / 8 % 8) 4 20 rfl rfl (by omega) (by omega) dX1_strongerPairs_12 rfl (fun c12 => ?_) (fun c12 => ?_)
  · skip
    refine g_lconst C (lN 0) lc_0 dX1_strongerPairs_20 ?_
    exact g_lret E dX1_strongerPairs_21 (by decide) (by decide) ⟨(congrArg (fun z => some (Value.long z)) (by clear C E; revert a; decide +kernel)), rfl⟩
  · skip
    refine g_iload_n C 0 rfl dX1_strongerPairs_15 ?_
    refine g_iconst C (nI 4) ic_4 dX1_strongerPairs_16 ?_
    refine g_icmp_leN C (a % 8) 4 22 rfl rfl (by omega) (by omega) dX1_strongerPairs_17 rfl (fun c17 => ?_) (fun c17 => ?_)
    · skip
      refine g_lconst C (lN 1) lc_1 dX1_strongerPairs_22 ?_
      refine g_iconst C (nI 0) ic_0 dX1_strongerPairs_23 ?_
      refine g_iconst C (nI 4) ic_4 dX1_strongerPairs_24 ?_
      refine g_iconst C (nI 5) ic_5 dX1_strongerPairs_25 ?_
      refine g_callS0 C (nA := 3) (k_X1_of l D ty 0 4 5 ) wm_X1_18 ws_X1_of wi_X1 wc_X1_of rfl (by decide +kernel) ⟨(Nat.le_of_ble_eq_true rfl), (Nat.le_of_ble_eq_true rfl)⟩ ⟨rfl, rfl⟩ dX1_strongerPairs_26 (fun _ _ h => h.2) (Nat.le_of_ble_eq_true rfl) rfl ⟨Nat.zero_le _, Nat.zero_le _⟩ (fun r hp => ?_)
      obtain ⟨rfl, -⟩ := hp
      refine g_st [.int (nI (64 * 0 + 8 * 4 + 5)), .long (lN 1)] rfl ?_
      refine g_lshl C ((lN 1) <<< ((nI (64 * 0 + 8 * 4 + 5)).toInt64 &&& 63)) rfl dX1_strongerPairs_29 ?_
      refine g_lstore_n C [(3, .long ((lN 1) <<< ((nI (64 * 0 + 8 * 4 + 5)).toInt64 &&& 63))), (2, .int (nI (a % 8))), (1, .int (nI (a / 8 % 8))), (0, .int (nI a))] dX1_strongerPairs_30 rfl (by decide) rfl ?_
      refine g_iload_n C 2 rfl dX1_strongerPairs_31 ?_
      refine g_iconst C (nI 4) ic_4 dX1_strongerPairs_32 ?_
      refine g_icmp_eqN C (a / 8 % 8) 4 41 rfl rfl (by omega) (by omega) dX1_strongerPairs_33 rfl (fun c33 => ?_) (fun c33 => ?_)
      · skip
        refine g_lload_n C 0 rfl dX1_strongerPairs_41 ?_
        exact g_lret E dX1_strongerPairs_42 (by decide) (by decide) ⟨(congrArg (fun z => some (Value.long z)) (by clear C E; revert a; decide +kernel)), rfl⟩
      · skip
        refine g_iload_n C 1 rfl dX1_strongerPairs_36 ?_
        refine g_iconst C (nI 4) ic_4 dX1_strongerPairs_37 ?_
        refine g_icmp_neN C (a % 8) 4 43 rfl rfl (by omega) (by omega) dX1_strongerPairs_38 rfl (fun c38 => ?_) (fun c38 => ?_)
        · skip
          refine g_lconst C (lN 1) lc_1 dX1_strongerPairs_43 ?_
          refine g_iconst C (nI 0) ic_0 dX1_strongerPairs_44 ?_
          refine g_iload_n C 2 rfl dX1_strongerPairs_45 ?_
          refine g_iconst C (nI 4) ic_4 dX1_strongerPairs_46 ?_
          refine g_callS0 C (nA := 3) (k_X1_of l D ty 0 (a / 8 % 8) 4 ) wm_X1_18 ws_X1_of wi_X1 wc_X1_of rfl (by decide +kernel) ⟨(Nat.le_of_ble_eq_true rfl), (Nat.le_of_ble_eq_true rfl)⟩ ⟨rfl, rfl⟩ dX1_strongerPairs_47 (fun _ _ h => h.2) (Nat.le_of_ble_eq_true rfl) rfl ⟨Nat.zero_le _, Nat.zero_le _⟩ (fun r hp => ?_)
          obtain ⟨rfl, -⟩ := hp
          refine g_st [.int (nI (64 * 0 + 8 * (a / 8 % 8) + 4)), .long (lN 1)] rfl ?_
          refine g_lshl C ((lN 1) <<< ((nI (64 * 0 + 8 * (a / 8 % 8) + 4)).toInt64 &&& 63)) rfl dX1_strongerPairs_50 ?_
          refine g_lconst C (lN 1) lc_1 dX1_strongerPairs_51 ?_
          refine g_iconst C (nI 0) ic_0 dX1_strongerPairs_52 ?_
          refine g_iconst C (nI 4) ic_4 dX1_strongerPairs_53 ?_
          refine g_iload_n C 1 rfl dX1_strongerPairs_54 ?_
          refine g_callS0 C (nA := 3) (k_X1_of l D ty 0 4 (a % 8) ) wm_X1_18 ws_X1_of wi_X1 wc_X1_of rfl (by decide +kernel) ⟨(Nat.le_of_ble_eq_true rfl), (Nat.le_of_ble_eq_true rfl)⟩ ⟨rfl, rfl⟩ dX1_strongerPairs_55 (fun _ _ h => h.2) (Nat.le_of_ble_eq_true rfl) rfl ⟨Nat.zero_le _, Nat.zero_le _⟩ (fun r hp => ?_)
          obtain ⟨rfl, -⟩ := hp
          refine g_st [.int (nI (64 * 0 + 8 * 4 + (a % 8))), .long (lN 1), .long ((lN 1) <<< ((nI (64 * 0 + 8 * (a / 8 % 8) + 4)).toInt64 &&& 63))] rfl ?_
          refine g_lshl C ((lN 1) <<< ((nI (64 * 0 + 8 * 4 + (a % 8))).toInt64 &&& 63)) rfl dX1_strongerPairs_58 ?_
          refine g_lor C (((lN 1) <<< ((nI (64 * 0 + 8 * (a / 8 % 8) + 4)).toInt64 &&& 63)) ||| ((lN 1) <<< ((nI (64 * 0 + 8 * 4 + (a % 8))).toInt64 &&& 63))) dX1_strongerPairs_59 rfl ?_
          refine g_lstore C [(5, .long (((lN 1) <<< ((nI (64 * 0 + 8 * (a / 8 % 8) + 4)).toInt64 &&& 63)) ||| ((lN 1) <<< ((nI (64 * 0 + 8 * 4 + (a % 8))).toInt64 &&& 63)))), (3, .long ((lN 1) <<< ((nI (64 * 0 + 8 * 4 + 5)).toInt64 &&& 63))), (2, .int (nI (a % 8))), (1, .int (nI (a / 8 % 8))), (0, .int (nI a))] dX1_strongerPairs_60 (by decide) rfl ?_
          refine g_lload_n C 1 rfl dX1_strongerPairs_62 ?_
          refine g_lload C 0 rfl dX1_strongerPairs_63 ?_
          refine g_lor C (((lN 1) <<< ((nI (64 * 0 + 8 * 4 + 5)).toInt64 &&& 63)) ||| (((lN 1) <<< ((nI (64 * 0 + 8 * (a / 8 % 8) + 4)).toInt64 &&& 63)) ||| ((lN 1) <<< ((nI (64 * 0 + 8 * 4 + (a % 8))).toInt64 &&& 63)))) dX1_strongerPairs_65 rfl ?_
          refine g_iload_n C 3 rfl dX1_strongerPairs_66 ?_
          refine g_iload_n C 2 rfl dX1_strongerPairs_67 ?_
          refine g_icmp_neN C (a / 8 % 8) (a % 8) 82 rfl rfl (by omega) (by omega) dX1_strongerPairs_68 rfl (fun c68 => ?_) (fun c68 => ?_)
          · skip
            refine g_lconst C (lN 0) lc_0 dX1_strongerPairs_82 ?_
            refine g_lor C ((((lN 1) <<< ((nI (64 * 0 + 8 * 4 + 5)).toInt64 &&& 63)) ||| (((lN 1) <<< ((nI (64 * 0 + 8 * (a / 8 % 8) + 4)).toInt64 &&& 63)) ||| ((lN 1) <<< ((nI (64 * 0 + 8 * 4 + (a % 8))).toInt64 &&& 63)))) ||| (lN 0)) dX1_strongerPairs_83 rfl ?_
            exact g_lret E dX1_strongerPairs_84 (by decide) (by decide) ⟨(congrArg (fun z => some (Value.long z)) (by clear C E; have h9 : a / 8 % 8 < 4 ∧ a % 8 < 4 := (by omega); clear c12 c17 c33 c38; revert a; decide +kernel)), rfl⟩
          · skip
            refine g_lconst C (lN 1) lc_1 dX1_strongerPairs_71 ?_
            refine g_iconst C (nI 0) ic_0 dX1_strongerPairs_72 ?_
            refine g_iconst C (nI 4) ic_4 dX1_strongerPairs_73 ?_
            refine g_iconst C (nI 4) ic_4 dX1_strongerPairs_74 ?_
            refine g_callS0 C (nA := 3) (k_X1_of l D ty 0 4 4 ) wm_X1_18 ws_X1_of wi_X1 wc_X1_of rfl (by decide +kernel) ⟨(Nat.le_of_ble_eq_true rfl), (Nat.le_of_ble_eq_true rfl)⟩ ⟨rfl, rfl⟩ dX1_strongerPairs_75 (fun _ _ h => h.2) (Nat.le_of_ble_eq_true rfl) rfl ⟨Nat.zero_le _, Nat.zero_le _⟩ (fun r hp => ?_)
            obtain ⟨rfl, -⟩ := hp
            refine g_st [.int (nI (64 * 0 + 8 * 4 + 4)), .long (lN 1), .long (((lN 1) <<< ((nI (64 * 0 + 8 * 4 + 5)).toInt64 &&& 63)) ||| (((lN 1) <<< ((nI (64 * 0 + 8 * (a / 8 % 8) + 4)).toInt64 &&& 63)) ||| ((lN 1) <<< ((nI (64 * 0 + 8 * 4 + (a % 8))).toInt64 &&& 63))))] rfl ?_
            refine g_lshl C ((lN 1) <<< ((nI (64 * 0 + 8 * 4 + 4)).toInt64 &&& 63)) rfl dX1_strongerPairs_78 ?_
            refine g_goto C 83 dX1_strongerPairs_79 rfl ?_
            refine g_lor C ((((lN 1) <<< ((nI (64 * 0 + 8 * 4 + 5)).toInt64 &&& 63)) ||| (((lN 1) <<< ((nI (64 * 0 + 8 * (a / 8 % 8) + 4)).toInt64 &&& 63)) ||| ((lN 1) <<< ((nI (64 * 0 + 8 * 4 + (a % 8))).toInt64 &&& 63)))) ||| ((lN 1) <<< ((nI (64 * 0 + 8 * 4 + 4)).toInt64 &&& 63))) dX1_strongerPairs_83 rfl ?_
            exact g_lret E dX1_strongerPairs_84 (by decide) (by decide) ⟨(congrArg (fun z => some (Value.long z)) (by clear C E; have h9 : a / 8 % 8 < 4 ∧ a % 8 < 4 := (by omega); clear c12 c17 c33 c38; revert a; decide +kernel)), rfl⟩
        · skip
          refine g_lload_n C 0 rfl dX1_strongerPairs_41 ?_
          exact g_lret E dX1_strongerPairs_42 (by decide) (by decide) ⟨(congrArg (fun z => some (Value.long z)) (by clear C E; revert a; decide +kernel)), rfl⟩
    · skip
      refine g_lconst C (lN 0) lc_0 dX1_strongerPairs_20 ?_
      exact g_lret E dX1_strongerPairs_21 (by decide) (by decide) ⟨(congrArg (fun z => some (Value.long z)) (by clear C E; revert a; decide +kernel)), rfl⟩
def r_X1_instanceMask : Room := { frames := 1, cells := 0, slots := 0, locals := 20 }
/-- the instances of a fact, the bit 4 * f + s for the constants f and s -/
def iM (a : Nat) : Nat := if a / 8 % 8 < 4 then (if a % 8 < 4 then 2 ^ (4 * (a / 8 % 8) + a % 8) else 15 * 2 ^ (4 * (a / 8 % 8))) else if a % 8 < 4 then 4369 * 2 ^ (a % 8) else if a % 8 = 4 then 33825 else 65535
set_option maxRecDepth 100000 in
set_option maxHeartbeats 4000000 in
theorem k_X1_instanceMask (l : Launch) (D : va_G) (ty : Nat → ClassId) (a : Nat) (ha : a < 256) : gM l D ty yX1_instanceMask cX1_instanceMask 3 (some (FieldType.int : FieldType)) r_X1_instanceMask 0 0 [.int (nI a)] [] (fun (zr : Option Value) (zW : va_W) => zr = some (.int (nI (iM a))) ∧ zW = []) := by
  refine gM_of RX1 rfl (by decide +kernel) (Nat.le_of_ble_eq_true rfl) ?_
  intro pg en s0 mi ag bl mth cd AA HH QQ C E hnm
  show gW pg l en r_X1_instanceMask s0 mi ag bl mth cd 3 D AA HH QQ 0 [(0, .int (nI a))] [] [] 0 0
  refine g_iload_n C 0 rfl dX1_instanceMask_0 ?_
  refine g_callS0 C (nA := 1) (k_X1_first l D ty a (by omega)) wm_X1_11 ws_X1_first wi_X1 wc_X1_first rfl (by decide +kernel) ⟨(Nat.le_of_ble_eq_true rfl), (Nat.le_of_ble_eq_true rfl)⟩ ⟨rfl, rfl⟩ dX1_instanceMask_1 (fun _ _ h => h.2) (Nat.le_of_ble_eq_true rfl) rfl ⟨Nat.zero_le _, Nat.zero_le _⟩ (fun r hp => ?_)
  obtain ⟨rfl, -⟩ := hp
  refine g_st [.int (nI (a / 8 % 8))] rfl ?_
  refine g_istore_n C [(1, .int (nI (a / 8 % 8))), (0, .int (nI a))] dX1_instanceMask_4 rfl (by decide) rfl ?_
  refine g_iload_n C 1 rfl dX1_instanceMask_5 ?_
  refine g_callS0 C (nA := 1) (k_X1_second l D ty a (by omega)) wm_X1_15 ws_X1_second wi_X1 wc_X1_second rfl (by decide +kernel) ⟨(Nat.le_of_ble_eq_true rfl), (Nat.le_of_ble_eq_true rfl)⟩ ⟨rfl, rfl⟩ dX1_instanceMask_6 (fun _ _ h => h.2) (Nat.le_of_ble_eq_true rfl) rfl ⟨Nat.zero_le _, Nat.zero_le _⟩ (fun r hp => ?_)
  obtain ⟨rfl, -⟩ := hp
  refine g_st [.int (nI (a % 8))] rfl ?_
  refine g_istore_n C [(2, .int (nI (a % 8))), (1, .int (nI (a / 8 % 8))), (0, .int (nI a))] dX1_instanceMask_9 rfl (by decide) rfl ?_
  refine g_iload_n C 1 rfl dX1_instanceMask_10 ?_
  refine g_iconst C (nI 4) ic_4 dX1_instanceMask_11 ?_
  refine g_icmp_geN C (a / 8 % 8) 4 37 rfl rfl (by omega) (by omega) dX1_instanceMask_12 rfl (fun c12 => ?_) (fun c12 => ?_)
  · skip
    refine g_iload_n C 0 rfl dX1_instanceMask_37 ?_
    refine g_iconst C (nI 4) ic_4 dX1_instanceMask_38 ?_
    refine g_icmp_geN C (a % 8) 4 48 rfl rfl (by omega) (by omega) dX1_instanceMask_39 rfl (fun c39 => ?_) (fun c39 => ?_)
    · skip
      refine g_iload_n C 0 rfl dX1_instanceMask_48 ?_
      refine g_iconst C (nI 4) ic_4 dX1_instanceMask_49 ?_
      refine g_icmp_neN C (a % 8) 4 58 rfl rfl (by omega) (by omega) dX1_instanceMask_50 rfl (fun c50 => ?_) (fun c50 => ?_)
      · skip
        refine g_ldc C wd_X1_23 dX1_instanceMask_58 ?_
        exact g_iret E dX1_instanceMask_60 (by decide) (by decide) ⟨(congrArg (fun z => some (Value.int z)) (by clear C E; revert a; decide +kernel)), rfl⟩
      · skip
        refine g_ldc C wd_X1_22 dX1_instanceMask_53 ?_
        refine g_goto C 60 dX1_instanceMask_55 rfl ?_
        exact g_iret E dX1_instanceMask_60 (by decide) (by decide) ⟨(congrArg (fun z => some (Value.int z)) (by clear C E; revert a; decide +kernel)), rfl⟩
    · skip
      refine g_sipush C (nI 4369) sp_4369 dX1_instanceMask_42 ?_
      refine g_iload_n C 0 rfl dX1_instanceMask_45 ?_
      refine g_ishl C ((nI 4369) <<< ((nI (a % 8)) &&& 31)) dX1_instanceMask_46 rfl ?_
      exact g_iret E dX1_instanceMask_47 (by decide) (by decide) ⟨(congrArg (fun z => some (Value.int z)) (by clear C E; revert a; decide +kernel)), rfl⟩
  · skip
    refine g_iload_n C 0 rfl dX1_instanceMask_15 ?_
    refine g_iconst C (nI 4) ic_4 dX1_instanceMask_16 ?_
    refine g_icmp_geN C (a % 8) 4 30 rfl rfl (by omega) (by omega) dX1_instanceMask_17 rfl (fun c17 => ?_) (fun c17 => ?_)
    · skip
      refine g_bipush C (nI 15) bp_15 dX1_instanceMask_30 ?_
      refine g_iconst C (nI 4) ic_4 dX1_instanceMask_32 ?_
      refine g_iload_n C 1 rfl dX1_instanceMask_33 ?_
      refine g_imul C (nI (4 * (a / 8 % 8))) dX1_instanceMask_34 (pk_mul _ _) ?_
      refine g_ishl C ((nI 15) <<< ((nI (4 * (a / 8 % 8))) &&& 31)) dX1_instanceMask_35 rfl ?_
      exact g_iret E dX1_instanceMask_36 (by decide) (by decide) ⟨(congrArg (fun z => some (Value.int z)) (by clear C E; revert a; decide +kernel)), rfl⟩
    · skip
      refine g_iconst C (nI 1) ic_1 dX1_instanceMask_20 ?_
      refine g_iconst C (nI 4) ic_4 dX1_instanceMask_21 ?_
      refine g_iload_n C 1 rfl dX1_instanceMask_22 ?_
      refine g_imul C (nI (4 * (a / 8 % 8))) dX1_instanceMask_23 (pk_mul _ _) ?_
      refine g_iload_n C 0 rfl dX1_instanceMask_24 ?_
      refine g_iadd C (nI ((4 * (a / 8 % 8)) + (a % 8))) dX1_instanceMask_25 (nI_add _ _) ?_
      refine g_ishl C ((nI 1) <<< ((nI ((4 * (a / 8 % 8)) + (a % 8))) &&& 31)) dX1_instanceMask_26 rfl ?_
      refine g_goto C 36 dX1_instanceMask_27 rfl ?_
      exact g_iret E dX1_instanceMask_36 (by decide) (by decide) ⟨(congrArg (fun z => some (Value.int z)) (by clear C E; revert a; decide +kernel)), rfl⟩
