/-! the reference: its own questions about numbers -/
def inI (v a b : Int32) : Bool := if v < a then false else if b < v then false else true
theorem inI_of {v : Int32} {b : Nat} (hb : b < 2 ^ 31) (h : inI v (nI 0) (nI b) = true) : ∃ x, x ≤ b ∧ v = nI x := by
  unfold inI at h
  split at h
  · cases h
  · split at h
    · cases h
    · rename_i h1 h2
      obtain ⟨x, hx, rfl⟩ := nI_of (by rw [nI_0] at h1; exact h1)
      exact ⟨x, Nat.le_of_not_lt (fun q => h2 ((nI_ltI hb hx).mpr q)), rfl⟩
theorem inI_N {x a b : Nat} (hx : x < 2 ^ 31) (ha : a < 2 ^ 31) (hb : b < 2 ^ 31) : inI (nI x) (nI a) (nI b) = decide (a ≤ x ∧ x ≤ b) := by
  unfold inI
  by_cases h1 : x < a
  · rw [if_pos ((nI_ltI hx ha).mpr h1), decide_eq_false (by omega)]
  · rw [if_neg (fun q => h1 ((nI_ltI hx ha).mp q))]
    by_cases h2 : b < x
    · rw [if_pos ((nI_ltI hb hx).mpr h2), decide_eq_false (by omega)]
    · rw [if_neg (fun q => h2 ((nI_ltI hb hx).mp q)), decide_eq_true (by omega)]
theorem isFi_F : ∀ x, x < 4 → ∀ y, y < 5 → ∀ z, z < 6 → isFi (nI x) (nI y) (nI z) = isF (64 * x + 8 * y + z) := by decide +kernel
theorem isFi_in {a b c : Int32} (h : isFi a b c = true) : inI a (nI 0) (nI 3) = true ∧ inI b (nI 0) (nI 4) = true ∧ inI c (nI 0) (nI 5) = true := by
  unfold isFi at h
  split at h
  · cases h
  · rename_i h1
    split at h
    · cases h
    · rename_i h2
      split at h
      · cases h
      · rename_i h3
        obtain ⟨x, hx, rfl⟩ := nI_of h1
        obtain ⟨y, hy, rfl⟩ := nI_of h3
        have x4 : x < 4 := Nat.lt_of_not_le (fun q => h2 ((nI_leI (by omega) hx).mpr q))
        split at h
        · rename_i h4
          obtain ⟨z, hz, rfl⟩ := nI_of (Int32.not_lt.mpr h4)
          rw [inI_N hx (by omega) (by omega), inI_N hy (by omega) (by omega), inI_N hz (by omega) (by omega)]
          have e5 := nI_ltI (a := 5) (b := z) (by omega) hz
          have e4 := nI_ltI (a := 4) (b := z) (by omega) hz
          split at h
          · split at h
            · rename_i h6
              have y4 : y = 4 := (nI_eq hy (by omega)).mp h6
              split at h
              · cases h
              · rename_i h7
                have : ¬ 5 < z := fun q => h7 (e5.mpr q)
                exact ⟨decide_eq_true (by omega), decide_eq_true (by omega), decide_eq_true (by omega)⟩
            · cases h
          · rename_i h5
            have : ¬ 4 ≤ y := fun q => h5 ((nI_leI (by omega) hy).mpr q)
            split at h
            · cases h
            · rename_i h7
              have : ¬ 4 < z := fun q => h7 (e4.mpr q)
              exact ⟨decide_eq_true (by omega), decide_eq_true (by omega), decide_eq_true (by omega)⟩
        · cases h
def spF (o w : Nat) : Bool := decide (o ≠ w ∧ o / 64 = w / 64 ∧ (o / 8 % 8 = 4 ∨ o / 8 % 8 = w / 8 % 8) ∧ (3 < o % 8 ∨ o % 8 = w % 8) ∧ (o / 8 % 8 ≠ 4 ∨ o % 8 ≠ 4 ∨ w / 8 % 8 = w % 8))
def isO (f i : Nat) : Bool := decide (f = i) || spF f i
def iC (a : Nat) : Nat := if a / 8 % 8 ≤ 3 ∧ a % 8 ≤ 3 then 1 else if a % 8 = 5 then 16 else 4
def tmM (t f : Nat) : Nat := if t < 4 then t else 8 + f + t - 4

def r_X8_in : Room := { frames := 0, cells := 0, slots := 0, locals := 0 }
set_option maxRecDepth 100000 in
set_option maxHeartbeats 4000000 in
theorem k_X8_in (l : Launch) (D : va_G) (ty : Nat → ClassId) (v : Int32) (a : Int32) (b : Int32)  : gM l D ty yX8_in cX8_in 3 (some (FieldType.boolean : FieldType)) r_X8_in 0 0 [.int (v), .int (a), .int (b)] [] (fun (zr : Option Value) (zW : va_W) => zr = some (.int (bI (inI v a b))) ∧ zW = []) := by
  refine gM_of RX8 rfl (by decide +kernel) (Nat.le_of_ble_eq_true rfl) ?_
  intro pg en s0 mi ag bl mth cd AA HH QQ C E hnm
  show gW pg l en r_X8_in s0 mi ag bl mth cd 3 D AA HH QQ 0 [(0, .int (v)), (1, .int (a)), (2, .int (b))] [] [] 0 0
  refine g_iload_n C 0 rfl dX8_in_0 ?_
  refine g_iload_n C 1 rfl dX8_in_1 ?_
  refine g_icmp_lt C 14 dX8_in_2 rfl (fun c2 => ?_) (fun c2 => ?_)
  · skip
    refine g_iconst C (nI 0) ic_0 dX8_in_14 ?_
    exact g_zret E false rfl dX8_in_15 (by decide) (by decide) ⟨(congrArg (fun z => some (Value.int (bI z))) (by simp only [inI, *, reduceIte])), rfl⟩
  · skip
    refine g_iload_n C 0 rfl dX8_in_5 ?_
    refine g_iload_n C 2 rfl dX8_in_6 ?_
    refine g_icmp_gt C 14 dX8_in_7 rfl (fun c7 => ?_) (fun c7 => ?_)
    · skip
      refine g_iconst C (nI 0) ic_0 dX8_in_14 ?_
      exact g_zret E false rfl dX8_in_15 (by decide) (by decide) ⟨(congrArg (fun z => some (Value.int (bI z))) (by simp only [inI, *, reduceIte])), rfl⟩
    · skip
      refine g_iconst C (nI 1) ic_1 dX8_in_10 ?_
      refine g_goto C 15 dX8_in_11 rfl ?_
      exact g_zret E true rfl dX8_in_15 (by decide) (by decide) ⟨(congrArg (fun z => some (Value.int (bI z))) (by simp only [inI, *, reduceIte])), rfl⟩
def r_X8_isFact : Room := { frames := 0, cells := 0, slots := 0, locals := 0 }
set_option maxRecDepth 100000 in
set_option maxHeartbeats 4000000 in
theorem k_X8_isFact (l : Launch) (D : va_G) (ty : Nat → ClassId) (a : Nat) (ha : a < 256) : gM l D ty yX8_isFact cX8_isFact 3 (some (FieldType.boolean : FieldType)) r_X8_isFact 0 0 [.int (nI a)] [] (fun (zr : Option Value) (zW : va_W) => zr = some (.int (bI (isF a))) ∧ zW = []) := by
  refine gM_of RX8 rfl (by decide +kernel) (Nat.le_of_ble_eq_true rfl) ?_
  intro pg en s0 mi ag bl mth cd AA HH QQ C E hnm
  show gW pg l en r_X8_isFact s0 mi ag bl mth cd 3 D AA HH QQ 0 [(0, .int (nI a))] [] [] 0 0
  refine g_iload_n C 0 rfl dX8_isFact_0 ?_
  refine g_bipush C (nI 8) bp_8 dX8_isFact_1 ?_
  refine g_idiv C (nI (a / 8)) (by decide +kernel) dX8_isFact_3 (pk_div (by omega) (by omega) (by omega)) ?_
  refine g_bipush C (nI 8) bp_8 dX8_isFact_4 ?_
  refine g_irem C (nI ((a / 8) % 8)) (by decide +kernel) dX8_isFact_6 (pk_rem (by omega) (by omega) (by omega)) ?_
  refine g_istore_n C [(1, .int (nI ((a / 8) % 8))), (0, .int (nI a))] dX8_isFact_7 rfl (by decide) rfl ?_
  refine g_iload_n C 1 rfl dX8_isFact_8 ?_
  refine g_bipush C (nI 8) bp_8 dX8_isFact_9 ?_
  refine g_irem C (nI (a % 8)) (by decide +kernel) dX8_isFact_11 (pk_rem (by omega) (by omega) (by omega)) ?_
  refine g_istore_n C [(2, .int (nI (a % 8))), (1, .int (nI ((a / 8) % 8))), (0, .int (nI a))] dX8_isFact_12 rfl (by decide) rfl ?_
  refine g_iload_n C 1 rfl dX8_isFact_13 ?_
  refine g_iconst C (nI 5) ic_5 dX8_isFact_14 ?_
  refine g_icmp_geN C ((a / 8) % 8) 5 37 rfl rfl (by omega) (by omega) dX8_isFact_15 rfl (fun c15 => ?_) (fun c15 => ?_)
  · skip
    refine g_iconst C (nI 0) ic_0 dX8_isFact_37 ?_
    exact g_zret E false rfl dX8_isFact_38 (by decide) (by decide) ⟨(congrArg (fun z => some (Value.int (bI z))) (by unfold isF; first | exact (decide_eq_true (by omega)).symm | exact (decide_eq_false (by omega)).symm)), rfl⟩
  · skip
    refine g_iload_n C 0 rfl dX8_isFact_18 ?_
    refine g_iconst C (nI 5) ic_5 dX8_isFact_19 ?_
    refine g_icmp_ltN C (a % 8) 5 33 rfl rfl (by omega) (by omega) dX8_isFact_20 rfl (fun c20 => ?_) (fun c20 => ?_)
    · skip
      refine g_iconst C (nI 1) ic_1 dX8_isFact_33 ?_
      refine g_goto C 38 dX8_isFact_34 rfl ?_
      exact g_zret E true rfl dX8_isFact_38 (by decide) (by decide) ⟨(congrArg (fun z => some (Value.int (bI z))) (by unfold isF; first | exact (decide_eq_true (by omega)).symm | exact (decide_eq_false (by omega)).symm)), rfl⟩
    · skip
      refine g_iload_n C 0 rfl dX8_isFact_23 ?_
      refine g_iconst C (nI 5) ic_5 dX8_isFact_24 ?_
      refine g_icmp_neN C (a % 8) 5 37 rfl rfl (by omega) (by omega) dX8_isFact_25 rfl (fun c25 => ?_) (fun c25 => ?_)
      · skip
        refine g_iconst C (nI 0) ic_0 dX8_isFact_37 ?_
        exact g_zret E false rfl dX8_isFact_38 (by decide) (by decide) ⟨(congrArg (fun z => some (Value.int (bI z))) (by unfold isF; first | exact (decide_eq_true (by omega)).symm | exact (decide_eq_false (by omega)).symm)), rfl⟩
      · skip
        refine g_iload_n C 1 rfl dX8_isFact_28 ?_
        refine g_iconst C (nI 4) ic_4 dX8_isFact_29 ?_
        refine g_icmp_neN C ((a / 8) % 8) 4 37 rfl rfl (by omega) (by omega) dX8_isFact_30 rfl (fun c30 => ?_) (fun c30 => ?_)
        · skip
          refine g_iconst C (nI 0) ic_0 dX8_isFact_37 ?_
          exact g_zret E false rfl dX8_isFact_38 (by decide) (by decide) ⟨(congrArg (fun z => some (Value.int (bI z))) (by unfold isF; first | exact (decide_eq_true (by omega)).symm | exact (decide_eq_false (by omega)).symm)), rfl⟩
        · skip
          refine g_iconst C (nI 1) ic_1 dX8_isFact_33 ?_
          refine g_goto C 38 dX8_isFact_34 rfl ?_
          exact g_zret E true rfl dX8_isFact_38 (by decide) (by decide) ⟨(congrArg (fun z => some (Value.int (bI z))) (by unfold isF; first | exact (decide_eq_true (by omega)).symm | exact (decide_eq_false (by omega)).symm)), rfl⟩
def r_X8_isOfFact : Room := { frames := 1, cells := 0, slots := 0, locals := 22 }
set_option maxRecDepth 100000 in
set_option maxHeartbeats 4000000 in
theorem k_X8_isOfFact (l : Launch) (D : va_G) (ty : Nat → ClassId) (a : Int32) (b : Int32) (c : Int32)  : gM l D ty yX8_isOfFact cX8_isOfFact 3 (some (FieldType.boolean : FieldType)) r_X8_isOfFact 0 0 [.int (a), .int (b), .int (c)] [] (fun (zr : Option Value) (zW : va_W) => zr = some (.int (bI (isFi a b c))) ∧ zW = []) := by
  refine gM_of RX8 rfl (by decide +kernel) (Nat.le_of_ble_eq_true rfl) ?_
  intro pg en s0 mi ag bl mth cd AA HH QQ C E hnm
  show gW pg l en r_X8_isOfFact s0 mi ag bl mth cd 3 D AA HH QQ 0 [(0, .int (a)), (1, .int (b)), (2, .int (c))] [] [] 0 0
  refine g_iload_n C 0 rfl dX8_isOfFact_0 ?_
  refine g_iconst C (nI 0) ic_0 dX8_isOfFact_1 ?_
  refine g_iconst C (nI 3) ic_3 dX8_isOfFact_2 ?_
  refine g_callS0 C (nA := 3) (k_X8_in l D ty a ((nI 0)) ((nI 3)) ) wm_X8_54 ws_X8_in wi_X8 wc_X8_in rfl (by decide +kernel) ⟨(Nat.le_of_ble_eq_true rfl), (Nat.le_of_ble_eq_true rfl)⟩ ⟨rfl, rfl⟩ dX8_isOfFact_3 (fun _ _ h => h.2) (Nat.le_of_ble_eq_true rfl) rfl ⟨Nat.zero_le _, Nat.zero_le _⟩ (fun r hp => ?_)
  obtain ⟨rfl, -⟩ := hp
  refine g_st [.int (bI (inI a ((nI 0)) ((nI 3))))] rfl ?_
  refine g_if_eqB C (inI a ((nI 0)) ((nI 3))) 48 rfl dX8_isOfFact_6 rfl (fun c6 => ?_) (fun c6 => ?_)
  · skip
    refine g_iconst C (nI 0) ic_0 dX8_isOfFact_48 ?_
    exact g_zret E false rfl dX8_isOfFact_49 (by decide) (by decide) ⟨(congrArg (fun z => some (Value.int (bI z))) (by first | (rw [isFi_F x (by omega) y (by omega) z (by omega), c41]; done) | exact (Bool.eq_false_iff.mpr (fun q => by have := isFi_in q; simp_all)).symm)), rfl⟩
  · skip
    refine g_iload_n C 1 rfl dX8_isOfFact_9 ?_
    refine g_iconst C (nI 0) ic_0 dX8_isOfFact_10 ?_
    refine g_iconst C (nI 4) ic_4 dX8_isOfFact_11 ?_
    refine g_callS0 C (nA := 3) (k_X8_in l D ty b ((nI 0)) ((nI 4)) ) wm_X8_54 ws_X8_in wi_X8 wc_X8_in rfl (by decide +kernel) ⟨(Nat.le_of_ble_eq_true rfl), (Nat.le_of_ble_eq_true rfl)⟩ ⟨rfl, rfl⟩ dX8_isOfFact_12 (fun _ _ h => h.2) (Nat.le_of_ble_eq_true rfl) rfl ⟨Nat.zero_le _, Nat.zero_le _⟩ (fun r hp => ?_)
    obtain ⟨rfl, -⟩ := hp
    refine g_st [.int (bI (inI b ((nI 0)) ((nI 4))))] rfl ?_
    refine g_if_eqB C (inI b ((nI 0)) ((nI 4))) 48 rfl dX8_isOfFact_15 rfl (fun c15 => ?_) (fun c15 => ?_)
    · skip
      refine g_iconst C (nI 0) ic_0 dX8_isOfFact_48 ?_
      exact g_zret E false rfl dX8_isOfFact_49 (by decide) (by decide) ⟨(congrArg (fun z => some (Value.int (bI z))) (by first | (rw [isFi_F x (by omega) y (by omega) z (by omega), c41]; done) | exact (Bool.eq_false_iff.mpr (fun q => by have := isFi_in q; simp_all)).symm)), rfl⟩
    · skip
      refine g_iload_n C 2 rfl dX8_isOfFact_18 ?_
      refine g_iconst C (nI 0) ic_0 dX8_isOfFact_19 ?_
      refine g_iconst C (nI 5) ic_5 dX8_isOfFact_20 ?_
      refine g_callS0 C (nA := 3) (k_X8_in l D ty c ((nI 0)) ((nI 5)) ) wm_X8_54 ws_X8_in wi_X8 wc_X8_in rfl (by decide +kernel) ⟨(Nat.le_of_ble_eq_true rfl), (Nat.le_of_ble_eq_true rfl)⟩ ⟨rfl, rfl⟩ dX8_isOfFact_21 (fun _ _ h => h.2) (Nat.le_of_ble_eq_true rfl) rfl ⟨Nat.zero_le _, Nat.zero_le _⟩ (fun r hp => ?_)
      obtain ⟨rfl, -⟩ := hp
      refine g_st [.int (bI (inI c ((nI 0)) ((nI 5))))] rfl ?_
      refine g_if_eqB C (inI c ((nI 0)) ((nI 5))) 48 rfl dX8_isOfFact_24 rfl (fun c24 => ?_) (fun c24 => ?_)
      · skip
        refine g_iconst C (nI 0) ic_0 dX8_isOfFact_48 ?_
        exact g_zret E false rfl dX8_isOfFact_49 (by decide) (by decide) ⟨(congrArg (fun z => some (Value.int (bI z))) (by first | (rw [isFi_F x (by omega) y (by omega) z (by omega), c41]; done) | exact (Bool.eq_false_iff.mpr (fun q => by have := isFi_in q; simp_all)).symm)), rfl⟩
      · skip
        obtain ⟨x, hx, rfl⟩ := inI_of (by decide) c6
        obtain ⟨y, hy, rfl⟩ := inI_of (by decide) c15
        obtain ⟨z, hz, rfl⟩ := inI_of (by decide) c24
        refine g_bipush C (nI 64) bp_64 dX8_isOfFact_27 ?_
        refine g_iload_n C 0 rfl dX8_isOfFact_29 ?_
        refine g_imul C (nI (64 * x)) dX8_isOfFact_30 (pk_mul _ _) ?_
        refine g_bipush C (nI 8) bp_8 dX8_isOfFact_31 ?_
        refine g_iload_n C 1 rfl dX8_isOfFact_33 ?_
        refine g_imul C (nI (8 * y)) dX8_isOfFact_34 (pk_mul _ _) ?_
        refine g_iadd C (nI ((64 * x) + (8 * y))) dX8_isOfFact_35 (nI_add _ _) ?_
        refine g_iload_n C 2 rfl dX8_isOfFact_36 ?_
        refine g_iadd C (nI (((64 * x) + (8 * y)) + z)) dX8_isOfFact_37 (nI_add _ _) ?_
        refine g_callS0 C (nA := 1) (k_X8_isFact l D ty (((64 * x) + (8 * y)) + z) (by omega)) wm_X8_58 ws_X8_isFact wi_X8 wc_X8_isFact rfl (by decide +kernel) ⟨(Nat.le_of_ble_eq_true rfl), (Nat.le_of_ble_eq_true rfl)⟩ ⟨rfl, rfl⟩ dX8_isOfFact_38 (fun _ _ h => h.2) (Nat.le_of_ble_eq_true rfl) rfl ⟨Nat.zero_le _, Nat.zero_le _⟩ (fun r hp => ?_)
        obtain ⟨rfl, -⟩ := hp
        refine g_st [.int (bI (isF (((64 * x) + (8 * y)) + z)))] rfl ?_
        refine g_if_eqB C (isF (((64 * x) + (8 * y)) + z)) 48 rfl dX8_isOfFact_41 rfl (fun c41 => ?_) (fun c41 => ?_)
        · skip
          refine g_iconst C (nI 0) ic_0 dX8_isOfFact_48 ?_
          exact g_zret E false rfl dX8_isOfFact_49 (by decide) (by decide) ⟨(congrArg (fun z => some (Value.int (bI z))) (by first | (rw [isFi_F x (by omega) y (by omega) z (by omega), c41]; done) | exact (Bool.eq_false_iff.mpr (fun q => by have := isFi_in q; simp_all)).symm)), rfl⟩
        · skip
          refine g_iconst C (nI 1) ic_1 dX8_isOfFact_44 ?_
          refine g_goto C 49 dX8_isOfFact_45 rfl ?_
          exact g_zret E true rfl dX8_isOfFact_49 (by decide) (by decide) ⟨(congrArg (fun z => some (Value.int (bI z))) (by rw [isFi_F x (by omega) y (by omega) z (by omega), c41])), rfl⟩
def r_X8_isStronger : Room := { frames := 0, cells := 0, slots := 0, locals := 0 }
set_option maxRecDepth 100000 in
set_option maxHeartbeats 4000000 in
theorem k_X8_isStronger (l : Launch) (D : va_G) (ty : Nat → ClassId) (a : Nat) (w : Nat) (ha : a < 256) (hw : w < 256) : gM l D ty yX8_isStronger cX8_isStronger 7 (some (FieldType.boolean : FieldType)) r_X8_isStronger 0 0 [.int (nI a), .int (nI w)] [] (fun (zr : Option Value) (zW : va_W) => zr = some (.int (bI (spF a w))) ∧ zW = []) := by
  refine gM_of RX8 rfl (by decide +kernel) (Nat.le_of_ble_eq_true rfl) ?_
  intro pg en s0 mi ag bl mth cd AA HH QQ C E hnm
  show gW pg l en r_X8_isStronger s0 mi ag bl mth cd 7 D AA HH QQ 0 [(0, .int (nI a)), (1, .int (nI w))] [] [] 0 0
  refine g_iload_n C 0 rfl dX8_isStronger_0 ?_
  refine g_bipush C (nI 8) bp_8 dX8_isStronger_1 ?_
  refine g_idiv C (nI (a / 8)) (by decide +kernel) dX8_isStronger_3 (pk_div (by omega) (by omega) (by omega)) ?_
  refine g_bipush C (nI 8) bp_8 dX8_isStronger_4 ?_
  refine g_irem C (nI ((a / 8) % 8)) (by decide +kernel) dX8_isStronger_6 (pk_rem (by omega) (by omega) (by omega)) ?_
  refine g_istore_n C [(2, .int (nI ((a / 8) % 8))), (0, .int (nI a)), (1, .int (nI w))] dX8_isStronger_7 rfl (by decide) rfl ?_
  refine g_iload_n C 1 rfl dX8_isStronger_8 ?_
  refine g_bipush C (nI 8) bp_8 dX8_isStronger_9 ?_
  refine g_irem C (nI (a % 8)) (by decide +kernel) dX8_isStronger_11 (pk_rem (by omega) (by omega) (by omega)) ?_
  refine g_istore_n C [(3, .int (nI (a % 8))), (2, .int (nI ((a / 8) % 8))), (0, .int (nI a)), (1, .int (nI w))] dX8_isStronger_12 rfl (by decide) rfl ?_
  refine g_iload_n C 1 rfl dX8_isStronger_13 ?_
  refine g_iconst C (nI 4) ic_4 dX8_isStronger_14 ?_
  refine g_icmp_eqN C ((a / 8) % 8) 4 29 rfl rfl (by omega) (by omega) dX8_isStronger_15 rfl (fun c15 => ?_) (fun c15 => ?_)
  · skip
    refine g_iconst C (nI 1) ic_1 dX8_isStronger_29 ?_
    refine g_goto C 34 dX8_isStronger_30 rfl ?_
    refine g_st [.int (bI (decide (a / 8 % 8 = 4 ∨ a / 8 % 8 = w / 8 % 8)))] (congrArg (fun z => [Value.int z]) (by first | (rw [decide_eq_true (by omega)]; rfl) | (rw [decide_eq_false (by omega)]; rfl))) ?_
    refine g_istore C [(4, .int (bI (decide (a / 8 % 8 = 4 ∨ a / 8 % 8 = w / 8 % 8)))), (3, .int (nI (a % 8))), (2, .int (nI ((a / 8) % 8))), (0, .int (nI a)), (1, .int (nI w))] dX8_isStronger_34 (by decide) rfl ?_
    refine g_lo [3, 4, 2, 1, 0] [(0, .int (nI a)), (1, .int (nI w)), (2, .int (nI ((a / 8) % 8))), (3, .int (nI (a % 8))), (4, .int (bI (decide (a / 8 % 8 = 4 ∨ a / 8 % 8 = w / 8 % 8))))] rfl ?_
    have L36 : gW pg l en r_X8_isStronger s0 mi ag bl mth cd 7 D AA HH QQ 36 [(0, .int (nI a)), (1, .int (nI w)), (2, .int (nI ((a / 8) % 8))), (3, .int (nI (a % 8))), (4, .int (bI (decide (a / 8 % 8 = 4 ∨ a / 8 % 8 = w / 8 % 8))))] [] [] 0 0 := by
      skip
      refine g_iload_n C 3 rfl dX8_isStronger_36 ?_
      refine g_iconst C (nI 3) ic_3 dX8_isStronger_37 ?_
      refine g_icmp_gtN C (a % 8) 3 49 rfl rfl (by omega) (by omega) dX8_isStronger_38 rfl (fun c38 => ?_) (fun c38 => ?_)
      · skip
        refine g_iconst C (nI 1) ic_1 dX8_isStronger_49 ?_
        refine g_goto C 54 dX8_isStronger_50 rfl ?_
        refine g_st [.int (bI (decide (3 < a % 8 ∨ a % 8 = w % 8)))] (congrArg (fun z => [Value.int z]) (by first | (rw [decide_eq_true (by omega)]; rfl) | (rw [decide_eq_false (by omega)]; rfl))) ?_
        refine g_istore C [(5, .int (bI (decide (3 < a % 8 ∨ a % 8 = w % 8)))), (0, .int (nI a)), (1, .int (nI w)), (2, .int (nI ((a / 8) % 8))), (3, .int (nI (a % 8))), (4, .int (bI (decide (a / 8 % 8 = 4 ∨ a / 8 % 8 = w / 8 % 8))))] dX8_isStronger_54 (by decide) rfl ?_
        refine g_lo [1, 2, 3, 4, 5, 0] [(0, .int (nI a)), (1, .int (nI w)), (2, .int (nI ((a / 8) % 8))), (3, .int (nI (a % 8))), (4, .int (bI (decide (a / 8 % 8 = 4 ∨ a / 8 % 8 = w / 8 % 8)))), (5, .int (bI (decide (3 < a % 8 ∨ a % 8 = w % 8))))] rfl ?_
        have L56 : gW pg l en r_X8_isStronger s0 mi ag bl mth cd 7 D AA HH QQ 56 [(0, .int (nI a)), (1, .int (nI w)), (2, .int (nI ((a / 8) % 8))), (3, .int (nI (a % 8))), (4, .int (bI (decide (a / 8 % 8 = 4 ∨ a / 8 % 8 = w / 8 % 8)))), (5, .int (bI (decide (3 < a % 8 ∨ a % 8 = w % 8))))] [] [] 0 0 := by
          skip
          refine g_iload_n C 2 rfl dX8_isStronger_56 ?_
          refine g_iconst C (nI 4) ic_4 dX8_isStronger_57 ?_
          refine g_icmp_neN C ((a / 8) % 8) 4 80 rfl rfl (by omega) (by omega) dX8_isStronger_58 rfl (fun c58 => ?_) (fun c58 => ?_)
          · skip
            refine g_iconst C (nI 1) ic_1 dX8_isStronger_80 ?_
            refine g_goto C 85 dX8_isStronger_81 rfl ?_
            refine g_st [.int (bI (decide (a / 8 % 8 ≠ 4 ∨ a % 8 ≠ 4 ∨ w / 8 % 8 = w % 8)))] (congrArg (fun z => [Value.int z]) (by first | (rw [decide_eq_true (by omega)]; rfl) | (rw [decide_eq_false (by omega)]; rfl))) ?_
            refine g_istore C [(6, .int (bI (decide (a / 8 % 8 ≠ 4 ∨ a % 8 ≠ 4 ∨ w / 8 % 8 = w % 8)))), (0, .int (nI a)), (1, .int (nI w)), (2, .int (nI ((a / 8) % 8))), (3, .int (nI (a % 8))), (4, .int (bI (decide (a / 8 % 8 = 4 ∨ a / 8 % 8 = w / 8 % 8)))), (5, .int (bI (decide (3 < a % 8 ∨ a % 8 = w % 8))))] dX8_isStronger_85 (by decide) rfl ?_
            refine g_lo [1, 2, 3, 4, 5, 6, 0] [(0, .int (nI a)), (1, .int (nI w)), (2, .int (nI ((a / 8) % 8))), (3, .int (nI (a % 8))), (4, .int (bI (decide (a / 8 % 8 = 4 ∨ a / 8 % 8 = w / 8 % 8)))), (5, .int (bI (decide (3 < a % 8 ∨ a % 8 = w % 8)))), (6, .int (bI (decide (a / 8 % 8 ≠ 4 ∨ a % 8 ≠ 4 ∨ w / 8 % 8 = w % 8))))] rfl ?_
            have L87 : gW pg l en r_X8_isStronger s0 mi ag bl mth cd 7 D AA HH QQ 87 [(0, .int (nI a)), (1, .int (nI w)), (2, .int (nI ((a / 8) % 8))), (3, .int (nI (a % 8))), (4, .int (bI (decide (a / 8 % 8 = 4 ∨ a / 8 % 8 = w / 8 % 8)))), (5, .int (bI (decide (3 < a % 8 ∨ a % 8 = w % 8)))), (6, .int (bI (decide (a / 8 % 8 ≠ 4 ∨ a % 8 ≠ 4 ∨ w / 8 % 8 = w % 8))))] [] [] 0 0 := by
              skip
              refine g_iload_n C 0 rfl dX8_isStronger_87 ?_
              refine g_iload_n C 1 rfl dX8_isStronger_88 ?_
              refine g_icmp_eqN C a w 122 rfl rfl (by omega) (by omega) dX8_isStronger_89 rfl (fun c89 => ?_) (fun c89 => ?_)
              · skip
                refine g_iconst C (nI 0) ic_0 dX8_isStronger_122 ?_
                exact g_zret E false rfl dX8_isStronger_123 (by decide) (by decide) ⟨(congrArg (fun z => some (Value.int (bI z))) (by (try simp only [decide_eq_true_eq, decide_eq_false_iff_not] at c105); (try simp only [decide_eq_true_eq, decide_eq_false_iff_not] at c110); (try simp only [decide_eq_true_eq, decide_eq_false_iff_not] at c115); unfold spF; first | exact (decide_eq_true (by omega)).symm | exact (decide_eq_false (by omega)).symm)), rfl⟩
              · skip
                refine g_iload_n C 0 rfl dX8_isStronger_92 ?_
                refine g_bipush C (nI 64) bp_64 dX8_isStronger_93 ?_
                refine g_idiv C (nI (a / 64)) (by decide +kernel) dX8_isStronger_95 (pk_div (by omega) (by omega) (by omega)) ?_
                refine g_iload_n C 1 rfl dX8_isStronger_96 ?_
                refine g_bipush C (nI 64) bp_64 dX8_isStronger_97 ?_
                refine g_idiv C (nI (w / 64)) (by decide +kernel) dX8_isStronger_99 (pk_div (by omega) (by omega) (by omega)) ?_
                refine g_icmp_neN C (a / 64) (w / 64) 122 rfl rfl (by omega) (by omega) dX8_isStronger_100 rfl (fun c100 => ?_) (fun c100 => ?_)
                · skip
                  refine g_iconst C (nI 0) ic_0 dX8_isStronger_122 ?_
                  exact g_zret E false rfl dX8_isStronger_123 (by decide) (by decide) ⟨(congrArg (fun z => some (Value.int (bI z))) (by (try simp only [decide_eq_true_eq, decide_eq_false_iff_not] at c105); (try simp only [decide_eq_true_eq, decide_eq_false_iff_not] at c110); (try simp only [decide_eq_true_eq, decide_eq_false_iff_not] at c115); unfold spF; first | exact (decide_eq_true (by omega)).symm | exact (decide_eq_false (by omega)).symm)), rfl⟩
                · skip
                  refine g_iload C 4 rfl dX8_isStronger_103 ?_
                  refine g_if_eqB C (decide (a / 8 % 8 = 4 ∨ a / 8 % 8 = w / 8 % 8)) 122 rfl dX8_isStronger_105 rfl (fun c105 => ?_) (fun c105 => ?_)
                  · skip
                    refine g_iconst C (nI 0) ic_0 dX8_isStronger_122 ?_
                    exact g_zret E false rfl dX8_isStronger_123 (by decide) (by decide) ⟨(congrArg (fun z => some (Value.int (bI z))) (by (try simp only [decide_eq_true_eq, decide_eq_false_iff_not] at c105); (try simp only [decide_eq_true_eq, decide_eq_false_iff_not] at c110); (try simp only [decide_eq_true_eq, decide_eq_false_iff_not] at c115); unfold spF; first | exact (decide_eq_true (by omega)).symm | exact (decide_eq_false (by omega)).symm)), rfl⟩
                  · skip
                    refine g_iload C 5 rfl dX8_isStronger_108 ?_
                    refine g_if_eqB C (decide (3 < a % 8 ∨ a % 8 = w % 8)) 122 rfl dX8_isStronger_110 rfl (fun c110 => ?_) (fun c110 => ?_)
                    · skip
                      refine g_iconst C (nI 0) ic_0 dX8_isStronger_122 ?_
                      exact g_zret E false rfl dX8_isStronger_123 (by decide) (by decide) ⟨(congrArg (fun z => some (Value.int (bI z))) (by (try simp only [decide_eq_true_eq, decide_eq_false_iff_not] at c105); (try simp only [decide_eq_true_eq, decide_eq_false_iff_not] at c110); (try simp only [decide_eq_true_eq, decide_eq_false_iff_not] at c115); unfold spF; first | exact (decide_eq_true (by omega)).symm | exact (decide_eq_false (by omega)).symm)), rfl⟩
                    · skip
                      refine g_iload C 6 rfl dX8_isStronger_113 ?_
                      refine g_if_eqB C (decide (a / 8 % 8 ≠ 4 ∨ a % 8 ≠ 4 ∨ w / 8 % 8 = w % 8)) 122 rfl dX8_isStronger_115 rfl (fun c115 => ?_) (fun c115 => ?_)
                      · skip
                        refine g_iconst C (nI 0) ic_0 dX8_isStronger_122 ?_
                        exact g_zret E false rfl dX8_isStronger_123 (by decide) (by decide) ⟨(congrArg (fun z => some (Value.int (bI z))) (by (try simp only [decide_eq_true_eq, decide_eq_false_iff_not] at c105); (try simp only [decide_eq_true_eq, decide_eq_false_iff_not] at c110); (try simp only [decide_eq_true_eq, decide_eq_false_iff_not] at c115); unfold spF; first | exact (decide_eq_true (by omega)).symm | exact (decide_eq_false (by omega)).symm)), rfl⟩
                      · skip
                        refine g_iconst C (nI 1) ic_1 dX8_isStronger_118 ?_
                        refine g_goto C 123 dX8_isStronger_119 rfl ?_
                        exact g_zret E true rfl dX8_isStronger_123 (by decide) (by decide) ⟨(congrArg (fun z => some (Value.int (bI z))) (by (try simp only [decide_eq_true_eq, decide_eq_false_iff_not] at c105); (try simp only [decide_eq_true_eq, decide_eq_false_iff_not] at c110); (try simp only [decide_eq_true_eq, decide_eq_false_iff_not] at c115); unfold spF; first | exact (decide_eq_true (by omega)).symm | exact (decide_eq_false (by omega)).symm)), rfl⟩
            exact L87  
          · skip
            refine g_iload_n C 3 rfl dX8_isStronger_61 ?_
            refine g_iconst C (nI 4) ic_4 dX8_isStronger_62 ?_
            refine g_icmp_neN C (a % 8) 4 80 rfl rfl (by omega) (by omega) dX8_isStronger_63 rfl (fun c63 => ?_) (fun c63 => ?_)
            · skip
              refine g_iconst C (nI 1) ic_1 dX8_isStronger_80 ?_
              refine g_goto C 85 dX8_isStronger_81 rfl ?_
              refine g_st [.int (bI (decide (a / 8 % 8 ≠ 4 ∨ a % 8 ≠ 4 ∨ w / 8 % 8 = w % 8)))] (congrArg (fun z => [Value.int z]) (by first | (rw [decide_eq_true (by omega)]; rfl) | (rw [decide_eq_false (by omega)]; rfl))) ?_
              refine g_istore C [(6, .int (bI (decide (a / 8 % 8 ≠ 4 ∨ a % 8 ≠ 4 ∨ w / 8 % 8 = w % 8)))), (0, .int (nI a)), (1, .int (nI w)), (2, .int (nI ((a / 8) % 8))), (3, .int (nI (a % 8))), (4, .int (bI (decide (a / 8 % 8 = 4 ∨ a / 8 % 8 = w / 8 % 8)))), (5, .int (bI (decide (3 < a % 8 ∨ a % 8 = w % 8))))] dX8_isStronger_85 (by decide) rfl ?_
              refine g_lo [1, 2, 3, 4, 5, 6, 0] [(0, .int (nI a)), (1, .int (nI w)), (2, .int (nI ((a / 8) % 8))), (3, .int (nI (a % 8))), (4, .int (bI (decide (a / 8 % 8 = 4 ∨ a / 8 % 8 = w / 8 % 8)))), (5, .int (bI (decide (3 < a % 8 ∨ a % 8 = w % 8)))), (6, .int (bI (decide (a / 8 % 8 ≠ 4 ∨ a % 8 ≠ 4 ∨ w / 8 % 8 = w % 8))))] rfl ?_
              have L87 : gW pg l en r_X8_isStronger s0 mi ag bl mth cd 7 D AA HH QQ 87 [(0, .int (nI a)), (1, .int (nI w)), (2, .int (nI ((a / 8) % 8))), (3, .int (nI (a % 8))), (4, .int (bI (decide (a / 8 % 8 = 4 ∨ a / 8 % 8 = w / 8 % 8)))), (5, .int (bI (decide (3 < a % 8 ∨ a % 8 = w % 8)))), (6, .int (bI (decide (a / 8 % 8 ≠ 4 ∨ a % 8 ≠ 4 ∨ w / 8 % 8 = w % 8))))] [] [] 0 0 := by
                skip
                refine g_iload_n C 0 rfl dX8_isStronger_87 ?_
                refine g_iload_n C 1 rfl dX8_isStronger_88 ?_
                refine g_icmp_eqN C a w 122 rfl rfl (by omega) (by omega) dX8_isStronger_89 rfl (fun c89 => ?_) (fun c89 => ?_)
                · skip
                  refine g_iconst C (nI 0) ic_0 dX8_isStronger_122 ?_
                  exact g_zret E false rfl dX8_isStronger_123 (by decide) (by decide) ⟨(congrArg (fun z => some (Value.int (bI z))) (by (try simp only [decide_eq_true_eq, decide_eq_false_iff_not] at c105); (try simp only [decide_eq_true_eq, decide_eq_false_iff_not] at c110); (try simp only [decide_eq_true_eq, decide_eq_false_iff_not] at c115); unfold spF; first | exact (decide_eq_true (by omega)).symm | exact (decide_eq_false (by omega)).symm)), rfl⟩
                · skip
                  refine g_iload_n C 0 rfl dX8_isStronger_92 ?_
                  refine g_bipush C (nI 64) bp_64 dX8_isStronger_93 ?_
                  refine g_idiv C (nI (a / 64)) (by decide +kernel) dX8_isStronger_95 (pk_div (by omega) (by omega) (by omega)) ?_
                  refine g_iload_n C 1 rfl dX8_isStronger_96 ?_
                  refine g_bipush C (nI 64) bp_64 dX8_isStronger_97 ?_
                  refine g_idiv C (nI (w / 64)) (by decide +kernel) dX8_isStronger_99 (pk_div (by omega) (by omega) (by omega)) ?_
                  refine g_icmp_neN C (a / 64) (w / 64) 122 rfl rfl (by omega) (by omega) dX8_isStronger_100 rfl (fun c100 => ?_) (fun c100 => ?_)
                  · skip
                    refine g_iconst C (nI 0) ic_0 dX8_isStronger_122 ?_
                    exact g_zret E false rfl dX8_isStronger_123 (by decide) (by decide) ⟨(congrArg (fun z => some (Value.int (bI z))) (by (try simp only [decide_eq_true_eq, decide_eq_false_iff_not] at c105); (try simp only [decide_eq_true_eq, decide_eq_false_iff_not] at c110); (try simp only [decide_eq_true_eq, decide_eq_false_iff_not] at c115); unfold spF; first | exact (decide_eq_true (by omega)).symm | exact (decide_eq_false (by omega)).symm)), rfl⟩
                  · skip
                    refine g_iload C 4 rfl dX8_isStronger_103 ?_
                    refine g_if_eqB C (decide (a / 8 % 8 = 4 ∨ a / 8 % 8 = w / 8 % 8)) 122 rfl dX8_isStronger_105 rfl (fun c105 => ?_) (fun c105 => ?_)
                    · skip
                      refine g_iconst C (nI 0) ic_0 dX8_isStronger_122 ?_
                      exact g_zret E false rfl dX8_isStronger_123 (by decide) (by decide) ⟨(congrArg (fun z => some (Value.int (bI z))) (by (try simp only [decide_eq_true_eq, decide_eq_false_iff_not] at c105); (try simp only [decide_eq_true_eq, decide_eq_false_iff_not] at c110); (try simp only [decide_eq_true_eq, decide_eq_false_iff_not] at c115); unfold spF; first | exact (decide_eq_true (by omega)).symm | exact (decide_eq_false (by omega)).symm)), rfl⟩
                    · skip
                      refine g_iload C 5 rfl dX8_isStronger_108 ?_
                      refine g_if_eqB C (decide (3 < a % 8 ∨ a % 8 = w % 8)) 122 rfl dX8_isStronger_110 rfl (fun c110 => ?_) (fun c110 => ?_)
                      · skip
                        refine g_iconst C (nI 0) ic_0 dX8_isStronger_122 ?_
                        exact g_zret E false rfl dX8_isStronger_123 (by decide) (by decide) ⟨(congrArg (fun z => some (Value.int (bI z))) (by (try simp only [decide_eq_true_eq, decide_eq_false_iff_not] at c105); (try simp only [decide_eq_true_eq, decide_eq_false_iff_not] at c110); (try simp only [decide_eq_true_eq, decide_eq_false_iff_not] at c115); unfold spF; first | exact (decide_eq_true (by omega)).symm | exact (decide_eq_false (by omega)).symm)), rfl⟩
                      · skip
                        refine g_iload C 6 rfl dX8_isStronger_113 ?_
                        refine g_if_eqB C (decide (a / 8 % 8 ≠ 4 ∨ a % 8 ≠ 4 ∨ w / 8 % 8 = w % 8)) 122 rfl dX8_isStronger_115 rfl (fun c115 => ?_) (fun c115 => ?_)
                        · skip
                          refine g_iconst C (nI 0) ic_0 dX8_isStronger_122 ?_
                          exact g_zret E false rfl dX8_isStronger_123 (by decide) (by decide) ⟨(congrArg (fun z => some (Value.int (bI z))) (by (try simp only [decide_eq_true_eq, decide_eq_false_iff_not] at c105); (try simp only [decide_eq_true_eq, decide_eq_false_iff_not] at c110); (try simp only [decide_eq_true_eq, decide_eq_false_iff_not] at c115); unfold spF; first | exact (decide_eq_true (by omega)).symm | exact (decide_eq_false (by omega)).symm)), rfl⟩
                        · skip
                          refine g_iconst C (nI 1) ic_1 dX8_isStronger_118 ?_
                          refine g_goto C 123 dX8_isStronger_119 rfl ?_
                          exact g_zret E true rfl dX8_isStronger_123 (by decide) (by decide) ⟨(congrArg (fun z => some (Value.int (bI z))) (by (try simp only [decide_eq_true_eq, decide_eq_false_iff_not] at c105); (try simp only [decide_eq_true_eq, decide_eq_false_iff_not] at c110); (try simp only [decide_eq_true_eq, decide_eq_false_iff_not] at c115); unfold spF; first | exact (decide_eq_true (by omega)).symm | exact (decide_eq_false (by omega)).symm)), rfl⟩
              exact L87  
            · skip
              refine g_iload_n C 1 rfl dX8_isStronger_66 ?_
              refine g_bipush C (nI 8) bp_8 dX8_isStronger_67 ?_
              refine g_idiv C (nI (w / 8)) (by decide +kernel) dX8_isStronger_69 (pk_div (by omega) (by omega) (by omega)) ?_
              refine g_bipush C (nI 8) bp_8 dX8_isStronger_70 ?_
              refine g_irem C (nI ((w / 8) % 8)) (by decide +kernel) dX8_isStronger_72 (pk_rem (by omega) (by omega) (by omega)) ?_
              refine g_iload_n C 1 rfl dX8_isStronger_73 ?_
              refine g_bipush C (nI 8) bp_8 dX8_isStronger_74 ?_
              refine g_irem C (nI (w % 8)) (by decide +kernel) dX8_isStronger_76 (pk_rem (by omega) (by omega) (by omega)) ?_
              refine g_icmp_neN C ((w / 8) % 8) (w % 8) 84 rfl rfl (by omega) (by omega) dX8_isStronger_77 rfl (fun c77 => ?_) (fun c77 => ?_)
              · skip
                refine g_iconst C (nI 0) ic_0 dX8_isStronger_84 ?_
                refine g_st [.int (bI (decide (a / 8 % 8 ≠ 4 ∨ a % 8 ≠ 4 ∨ w / 8 % 8 = w % 8)))] (congrArg (fun z => [Value.int z]) (by first | (rw [decide_eq_true (by omega)]; rfl) | (rw [decide_eq_false (by omega)]; rfl))) ?_
                refine g_istore C [(6, .int (bI (decide (a / 8 % 8 ≠ 4 ∨ a % 8 ≠ 4 ∨ w / 8 % 8 = w % 8)))), (0, .int (nI a)), (1, .int (nI w)), (2, .int (nI ((a / 8) % 8))), (3, .int (nI (a % 8))), (4, .int (bI (decide (a / 8 % 8 = 4 ∨ a / 8 % 8 = w / 8 % 8)))), (5, .int (bI (decide (3 < a % 8 ∨ a % 8 = w % 8))))] dX8_isStronger_85 (by decide) rfl ?_
                refine g_lo [1, 2, 3, 4, 5, 6, 0] [(0, .int (nI a)), (1, .int (nI w)), (2, .int (nI ((a / 8) % 8))), (3, .int (nI (a % 8))), (4, .int (bI (decide (a / 8 % 8 = 4 ∨ a / 8 % 8 = w / 8 % 8)))), (5, .int (bI (decide (3 < a % 8 ∨ a % 8 = w % 8)))), (6, .int (bI (decide (a / 8 % 8 ≠ 4 ∨ a % 8 ≠ 4 ∨ w / 8 % 8 = w % 8))))] rfl ?_
                have L87 : gW pg l en r_X8_isStronger s0 mi ag bl mth cd 7 D AA HH QQ 87 [(0, .int (nI a)), (1, .int (nI w)), (2, .int (nI ((a / 8) % 8))), (3, .int (nI (a % 8))), (4, .int (bI (decide (a / 8 % 8 = 4 ∨ a / 8 % 8 = w / 8 % 8)))), (5, .int (bI (decide (3 < a % 8 ∨ a % 8 = w % 8)))), (6, .int (bI (decide (a / 8 % 8 ≠ 4 ∨ a % 8 ≠ 4 ∨ w / 8 % 8 = w % 8))))] [] [] 0 0 := by
                  skip
                  refine g_iload_n C 0 rfl dX8_isStronger_87 ?_
                  refine g_iload_n C 1 rfl dX8_isStronger_88 ?_
                  refine g_icmp_eqN C a w 122 rfl rfl (by omega) (by omega) dX8_isStronger_89 rfl (fun c89 => ?_) (fun c89 => ?_)
                  · skip
                    refine g_iconst C (nI 0) ic_0 dX8_isStronger_122 ?_
                    exact g_zret E false rfl dX8_isStronger_123 (by decide) (by decide) ⟨(congrArg (fun z => some (Value.int (bI z))) (by (try simp only [decide_eq_true_eq, decide_eq_false_iff_not] at c105); (try simp only [decide_eq_true_eq, decide_eq_false_iff_not] at c110); (try simp only [decide_eq_true_eq, decide_eq_false_iff_not] at c115); unfold spF; first | exact (decide_eq_true (by omega)).symm | exact (decide_eq_false (by omega)).symm)), rfl⟩
                  · skip
                    refine g_iload_n C 0 rfl dX8_isStronger_92 ?_
                    refine g_bipush C (nI 64) bp_64 dX8_isStronger_93 ?_
                    refine g_idiv C (nI (a / 64)) (by decide +kernel) dX8_isStronger_95 (pk_div (by omega) (by omega) (by omega)) ?_
                    refine g_iload_n C 1 rfl dX8_isStronger_96 ?_
                    refine g_bipush C (nI 64) bp_64 dX8_isStronger_97 ?_
                    refine g_idiv C (nI (w / 64)) (by decide +kernel) dX8_isStronger_99 (pk_div (by omega) (by omega) (by omega)) ?_
                    refine g_icmp_neN C (a / 64) (w / 64) 122 rfl rfl (by omega) (by omega) dX8_isStronger_100 rfl (fun c100 => ?_) (fun c100 => ?_)
                    · skip
                      refine g_iconst C (nI 0) ic_0 dX8_isStronger_122 ?_
                      exact g_zret E false rfl dX8_isStronger_123 (by decide) (by decide) ⟨(congrArg (fun z => some (Value.int (bI z))) (by (try simp only [decide_eq_true_eq, decide_eq_false_iff_not] at c105); (try simp only [decide_eq_true_eq, decide_eq_false_iff_not] at c110); (try simp only [decide_eq_true_eq, decide_eq_false_iff_not] at c115); unfold spF; first | exact (decide_eq_true (by omega)).symm | exact (decide_eq_false (by omega)).symm)), rfl⟩
                    · skip
                      refine g_iload C 4 rfl dX8_isStronger_103 ?_
                      refine g_if_eqB C (decide (a / 8 % 8 = 4 ∨ a / 8 % 8 = w / 8 % 8)) 122 rfl dX8_isStronger_105 rfl (fun c105 => ?_) (fun c105 => ?_)
                      · skip
                        refine g_iconst C (nI 0) ic_0 dX8_isStronger_122 ?_
                        exact g_zret E false rfl dX8_isStronger_123 (by decide) (by decide) ⟨(congrArg (fun z => some (Value.int (bI z))) (by (try simp only [decide_eq_true_eq, decide_eq_false_iff_not] at c105); (try simp only [decide_eq_true_eq, decide_eq_false_iff_not] at c110); (try simp only [decide_eq_true_eq, decide_eq_false_iff_not] at c115); unfold spF; first | exact (decide_eq_true (by omega)).symm | exact (decide_eq_false (by omega)).symm)), rfl⟩
                      · skip
                        refine g_iload C 5 rfl dX8_isStronger_108 ?_
                        refine g_if_eqB C (decide (3 < a % 8 ∨ a % 8 = w % 8)) 122 rfl dX8_isStronger_110 rfl (fun c110 => ?_) (fun c110 => ?_)
                        · skip
                          refine g_iconst C (nI 0) ic_0 dX8_isStronger_122 ?_
                          exact g_zret E false rfl dX8_isStronger_123 (by decide) (by decide) ⟨(congrArg (fun z => some (Value.int (bI z))) (by (try simp only [decide_eq_true_eq, decide_eq_false_iff_not] at c105); (try simp only [decide_eq_true_eq, decide_eq_false_iff_not] at c110); (try simp only [decide_eq_true_eq, decide_eq_false_iff_not] at c115); unfold spF; first | exact (decide_eq_true (by omega)).symm | exact (decide_eq_false (by omega)).symm)), rfl⟩
                        · skip
                          refine g_iload C 6 rfl dX8_isStronger_113 ?_
                          refine g_if_eqB C (decide (a / 8 % 8 ≠ 4 ∨ a % 8 ≠ 4 ∨ w / 8 % 8 = w % 8)) 122 rfl dX8_isStronger_115 rfl (fun c115 => ?_) (fun c115 => ?_)
                          · skip
                            refine g_iconst C (nI 0) ic_0 dX8_isStronger_122 ?_
                            exact g_zret E false rfl dX8_isStronger_123 (by decide) (by decide) ⟨(congrArg (fun z => some (Value.int (bI z))) (by (try simp only [decide_eq_true_eq, decide_eq_false_iff_not] at c105); (try simp only [decide_eq_true_eq, decide_eq_false_iff_not] at c110); (try simp only [decide_eq_true_eq, decide_eq_false_iff_not] at c115); unfold spF; first | exact (decide_eq_true (by omega)).symm | exact (decide_eq_false (by omega)).symm)), rfl⟩
                          · skip
                            refine g_iconst C (nI 1) ic_1 dX8_isStronger_118 ?_
                            refine g_goto C 123 dX8_isStronger_119 rfl ?_
                            exact g_zret E true rfl dX8_isStronger_123 (by decide) (by decide) ⟨(congrArg (fun z => some (Value.int (bI z))) (by (try simp only [decide_eq_true_eq, decide_eq_false_iff_not] at c105); (try simp only [decide_eq_true_eq, decide_eq_false_iff_not] at c110); (try simp only [decide_eq_true_eq, decide_eq_false_iff_not] at c115); unfold spF; first | exact (decide_eq_true (by omega)).symm | exact (decide_eq_false (by omega)).symm)), rfl⟩
                exact L87  
              · skip
                refine g_iconst C (nI 1) ic_1 dX8_isStronger_80 ?_
                refine g_goto C 85 dX8_isStronger_81 rfl ?_
                refine g_st [.int (bI (decide (a / 8 % 8 ≠ 4 ∨ a % 8 ≠ 4 ∨ w / 8 % 8 = w % 8)))] (congrArg (fun z => [Value.int z]) (by first | (rw [decide_eq_true (by omega)]; rfl) | (rw [decide_eq_false (by omega)]; rfl))) ?_
                refine g_istore C [(6, .int (bI (decide (a / 8 % 8 ≠ 4 ∨ a % 8 ≠ 4 ∨ w / 8 % 8 = w % 8)))), (0, .int (nI a)), (1, .int (nI w)), (2, .int (nI ((a / 8) % 8))), (3, .int (nI (a % 8))), (4, .int (bI (decide (a / 8 % 8 = 4 ∨ a / 8 % 8 = w / 8 % 8)))), (5, .int (bI (decide (3 < a % 8 ∨ a % 8 = w % 8))))] dX8_isStronger_85 (by decide) rfl ?_
                refine g_lo [1, 2, 3, 4, 5, 6, 0] [(0, .int (nI a)), (1, .int (nI w)), (2, .int (nI ((a / 8) % 8))), (3, .int (nI (a % 8))), (4, .int (bI (decide (a / 8 % 8 = 4 ∨ a / 8 % 8 = w / 8 % 8)))), (5, .int (bI (decide (3 < a % 8 ∨ a % 8 = w % 8)))), (6, .int (bI (decide (a / 8 % 8 ≠ 4 ∨ a % 8 ≠ 4 ∨ w / 8 % 8 = w % 8))))] rfl ?_
                have L87 : gW pg l en r_X8_isStronger s0 mi ag bl mth cd 7 D AA HH QQ 87 [(0, .int (nI a)), (1, .int (nI w)), (2, .int (nI ((a / 8) % 8))), (3, .int (nI (a % 8))), (4, .int (bI (decide (a / 8 % 8 = 4 ∨ a / 8 % 8 = w / 8 % 8)))), (5, .int (bI (decide (3 < a % 8 ∨ a % 8 = w % 8)))), (6, .int (bI (decide (a / 8 % 8 ≠ 4 ∨ a % 8 ≠ 4 ∨ w / 8 % 8 = w % 8))))] [] [] 0 0 := by
                  skip
                  refine g_iload_n C 0 rfl dX8_isStronger_87 ?_
                  refine g_iload_n C 1 rfl dX8_isStronger_88 ?_
                  refine g_icmp_eqN C a w 122 rfl rfl (by omega) (by omega) dX8_isStronger_89 rfl (fun c89 => ?_) (fun c89 => ?_)
                  · skip
                    refine g_iconst C (nI 0) ic_0 dX8_isStronger_122 ?_
                    exact g_zret E false rfl dX8_isStronger_123 (by decide) (by decide) ⟨(congrArg (fun z => some (Value.int (bI z))) (by (try simp only [decide_eq_true_eq, decide_eq_false_iff_not] at c105); (try simp only [decide_eq_true_eq, decide_eq_false_iff_not] at c110); (try simp only [decide_eq_true_eq, decide_eq_false_iff_not] at c115); unfold spF; first | exact (decide_eq_true (by omega)).symm | exact (decide_eq_false (by omega)).symm)), rfl⟩
                  · skip
                    refine g_iload_n C 0 rfl dX8_isStronger_92 ?_
                    refine g_bipush C (nI 64) bp_64 dX8_isStronger_93 ?_
                    refine g_idiv C (nI (a / 64)) (by decide +kernel) dX8_isStronger_95 (pk_div (by omega) (by omega) (by omega)) ?_
                    refine g_iload_n C 1 rfl dX8_isStronger_96 ?_
                    refine g_bipush C (nI 64) bp_64 dX8_isStronger_97 ?_
                    refine g_idiv C (nI (w / 64)) (by decide +kernel) dX8_isStronger_99 (pk_div (by omega) (by omega) (by omega)) ?_
                    refine g_icmp_neN C (a / 64) (w / 64) 122 rfl rfl (by omega) (by omega) dX8_isStronger_100 rfl (fun c100 => ?_) (fun c100 => ?_)
                    · skip
                      refine g_iconst C (nI 0) ic_0 dX8_isStronger_122 ?_
                      exact g_zret E false rfl dX8_isStronger_123 (by decide) (by decide) ⟨(congrArg (fun z => some (Value.int (bI z))) (by (try simp only [decide_eq_true_eq, decide_eq_false_iff_not] at c105); (try simp only [decide_eq_true_eq, decide_eq_false_iff_not] at c110); (try simp only [decide_eq_true_eq, decide_eq_false_iff_not] at c115); unfold spF; first | exact (decide_eq_true (by omega)).symm | exact (decide_eq_false (by omega)).symm)), rfl⟩
                    · skip
                      refine g_iload C 4 rfl dX8_isStronger_103 ?_
                      refine g_if_eqB C (decide (a / 8 % 8 = 4 ∨ a / 8 % 8 = w / 8 % 8)) 122 rfl dX8_isStronger_105 rfl (fun c105 => ?_) (fun c105 => ?_)
                      · skip
                        refine g_iconst C (nI 0) ic_0 dX8_isStronger_122 ?_
                        exact g_zret E false rfl dX8_isStronger_123 (by decide) (by decide) ⟨(congrArg (fun z => some (Value.int (bI z))) (by (try simp only [decide_eq_true_eq, decide_eq_false_iff_not] at c105); (try simp only [decide_eq_true_eq, decide_eq_false_iff_not] at c110); (try simp only [decide_eq_true_eq, decide_eq_false_iff_not] at c115); unfold spF; first | exact (decide_eq_true (by omega)).symm | exact (decide_eq_false (by omega)).symm)), rfl⟩
                      · skip
                        refine g_iload C 5 rfl dX8_isStronger_108 ?_
                        refine g_if_eqB C (decide (3 < a % 8 ∨ a % 8 = w % 8)) 122 rfl dX8_isStronger_110 rfl (fun c110 => ?_) (fun c110 => ?_)
                        · skip
                          refine g_iconst C (nI 0) ic_0 dX8_isStronger_122 ?_
                          exact g_zret E false rfl dX8_isStronger_123 (by decide) (by decide) ⟨(congrArg (fun z => some (Value.int (bI z))) (by (try simp only [decide_eq_true_eq, decide_eq_false_iff_not] at c105); (try simp only [decide_eq_true_eq, decide_eq_false_iff_not] at c110); (try simp only [decide_eq_true_eq, decide_eq_false_iff_not] at c115); unfold spF; first | exact (decide_eq_true (by omega)).symm | exact (decide_eq_false (by omega)).symm)), rfl⟩
                        · skip
                          refine g_iload C 6 rfl dX8_isStronger_113 ?_
                          refine g_if_eqB C (decide (a / 8 % 8 ≠ 4 ∨ a % 8 ≠ 4 ∨ w / 8 % 8 = w % 8)) 122 rfl dX8_isStronger_115 rfl (fun c115 => ?_) (fun c115 => ?_)
                          · skip
                            refine g_iconst C (nI 0) ic_0 dX8_isStronger_122 ?_
                            exact g_zret E false rfl dX8_isStronger_123 (by decide) (by decide) ⟨(congrArg (fun z => some (Value.int (bI z))) (by (try simp only [decide_eq_true_eq, decide_eq_false_iff_not] at c105); (try simp only [decide_eq_true_eq, decide_eq_false_iff_not] at c110); (try simp only [decide_eq_true_eq, decide_eq_false_iff_not] at c115); unfold spF; first | exact (decide_eq_true (by omega)).symm | exact (decide_eq_false (by omega)).symm)), rfl⟩
                          · skip
                            refine g_iconst C (nI 1) ic_1 dX8_isStronger_118 ?_
                            refine g_goto C 123 dX8_isStronger_119 rfl ?_
                            exact g_zret E true rfl dX8_isStronger_123 (by decide) (by decide) ⟨(congrArg (fun z => some (Value.int (bI z))) (by (try simp only [decide_eq_true_eq, decide_eq_false_iff_not] at c105); (try simp only [decide_eq_true_eq, decide_eq_false_iff_not] at c110); (try simp only [decide_eq_true_eq, decide_eq_false_iff_not] at c115); unfold spF; first | exact (decide_eq_true (by omega)).symm | exact (decide_eq_false (by omega)).symm)), rfl⟩
                exact L87  
        exact L56  
      · skip
        refine g_iload_n C 3 rfl dX8_isStronger_41 ?_
        refine g_iload_n C 1 rfl dX8_isStronger_42 ?_
        refine g_bipush C (nI 8) bp_8 dX8_isStronger_43 ?_
        refine g_irem C (nI (w % 8)) (by decide +kernel) dX8_isStronger_45 (pk_rem (by omega) (by omega) (by omega)) ?_
        refine g_icmp_neN C (a % 8) (w % 8) 53 rfl rfl (by omega) (by omega) dX8_isStronger_46 rfl (fun c46 => ?_) (fun c46 => ?_)
        · skip
          refine g_iconst C (nI 0) ic_0 dX8_isStronger_53 ?_
          refine g_st [.int (bI (decide (3 < a % 8 ∨ a % 8 = w % 8)))] (congrArg (fun z => [Value.int z]) (by first | (rw [decide_eq_true (by omega)]; rfl) | (rw [decide_eq_false (by omega)]; rfl))) ?_
          refine g_istore C [(5, .int (bI (decide (3 < a % 8 ∨ a % 8 = w % 8)))), (0, .int (nI a)), (1, .int (nI w)), (2, .int (nI ((a / 8) % 8))), (3, .int (nI (a % 8))), (4, .int (bI (decide (a / 8 % 8 = 4 ∨ a / 8 % 8 = w / 8 % 8))))] dX8_isStronger_54 (by decide) rfl ?_
          refine g_lo [1, 2, 3, 4, 5, 0] [(0, .int (nI a)), (1, .int (nI w)), (2, .int (nI ((a / 8) % 8))), (3, .int (nI (a % 8))), (4, .int (bI (decide (a / 8 % 8 = 4 ∨ a / 8 % 8 = w / 8 % 8)))), (5, .int (bI (decide (3 < a % 8 ∨ a % 8 = w % 8))))] rfl ?_
          have L56 : gW pg l en r_X8_isStronger s0 mi ag bl mth cd 7 D AA HH QQ 56 [(0, .int (nI a)), (1, .int (nI w)), (2, .int (nI ((a / 8) % 8))), (3, .int (nI (a % 8))), (4, .int (bI (decide (a / 8 % 8 = 4 ∨ a / 8 % 8 = w / 8 % 8)))), (5, .int (bI (decide (3 < a % 8 ∨ a % 8 = w % 8))))] [] [] 0 0 := by
            skip
            refine g_iload_n C 2 rfl dX8_isStronger_56 ?_
            refine g_iconst C (nI 4) ic_4 dX8_isStronger_57 ?_
            refine g_icmp_neN C ((a / 8) % 8) 4 80 rfl rfl (by omega) (by omega) dX8_isStronger_58 rfl (fun c58 => ?_) (fun c58 => ?_)
            · skip
              refine g_iconst C (nI 1) ic_1 dX8_isStronger_80 ?_
              refine g_goto C 85 dX8_isStronger_81 rfl ?_
              refine g_st [.int (bI (decide (a / 8 % 8 ≠ 4 ∨ a % 8 ≠ 4 ∨ w / 8 % 8 = w % 8)))] (congrArg (fun z => [Value.int z]) (by first | (rw [decide_eq_true (by omega)]; rfl) | (rw [decide_eq_false (by omega)]; rfl))) ?_
              refine g_istore C [(6, .int (bI (decide (a / 8 % 8 ≠ 4 ∨ a % 8 ≠ 4 ∨ w / 8 % 8 = w % 8)))), (0, .int (nI a)), (1, .int (nI w)), (2, .int (nI ((a / 8) % 8))), (3, .int (nI (a % 8))), (4, .int (bI (decide (a / 8 % 8 = 4 ∨ a / 8 % 8 = w / 8 % 8)))), (5, .int (bI (decide (3 < a % 8 ∨ a % 8 = w % 8))))] dX8_isStronger_85 (by decide) rfl ?_
              refine g_lo [1, 2, 3, 4, 5, 6, 0] [(0, .int (nI a)), (1, .int (nI w)), (2, .int (nI ((a / 8) % 8))), (3, .int (nI (a % 8))), (4, .int (bI (decide (a / 8 % 8 = 4 ∨ a / 8 % 8 = w / 8 % 8)))), (5, .int (bI (decide (3 < a % 8 ∨ a % 8 = w % 8)))), (6, .int (bI (decide (a / 8 % 8 ≠ 4 ∨ a % 8 ≠ 4 ∨ w / 8 % 8 = w % 8))))] rfl ?_
              have L87 : gW pg l en r_X8_isStronger s0 mi ag bl mth cd 7 D AA HH QQ 87 [(0, .int (nI a)), (1, .int (nI w)), (2, .int (nI ((a / 8) % 8))), (3, .int (nI (a % 8))), (4, .int (bI (decide (a / 8 % 8 = 4 ∨ a / 8 % 8 = w / 8 % 8)))), (5, .int (bI (decide (3 < a % 8 ∨ a % 8 = w % 8)))), (6, .int (bI (decide (a / 8 % 8 ≠ 4 ∨ a % 8 ≠ 4 ∨ w / 8 % 8 = w % 8))))] [] [] 0 0 := by
                skip
                refine g_iload_n C 0 rfl dX8_isStronger_87 ?_
                refine g_iload_n C 1 rfl dX8_isStronger_88 ?_
                refine g_icmp_eqN C a w 122 rfl rfl (by omega) (by omega) dX8_isStronger_89 rfl (fun c89 => ?_) (fun c89 => ?_)
                · skip
                  refine g_iconst C (nI 0) ic_0 dX8_isStronger_122 ?_
                  exact g_zret E false rfl dX8_isStronger_123 (by decide) (by decide) ⟨(congrArg (fun z => some (Value.int (bI z))) (by (try simp only [decide_eq_true_eq, decide_eq_false_iff_not] at c105); (try simp only [decide_eq_true_eq, decide_eq_false_iff_not] at c110); (try simp only [decide_eq_true_eq, decide_eq_false_iff_not] at c115); unfold spF; first | exact (decide_eq_true (by omega)).symm | exact (decide_eq_false (by omega)).symm)), rfl⟩
                · skip
                  refine g_iload_n C 0 rfl dX8_isStronger_92 ?_
                  refine g_bipush C (nI 64) bp_64 dX8_isStronger_93 ?_
                  refine g_idiv C (nI (a / 64)) (by decide +kernel) dX8_isStronger_95 (pk_div (by omega) (by omega) (by omega)) ?_
                  refine g_iload_n C 1 rfl dX8_isStronger_96 ?_
                  refine g_bipush C (nI 64) bp_64 dX8_isStronger_97 ?_
                  refine g_idiv C (nI (w / 64)) (by decide +kernel) dX8_isStronger_99 (pk_div (by omega) (by omega) (by omega)) ?_
                  refine g_icmp_neN C (a / 64) (w / 64) 122 rfl rfl (by omega) (by omega) dX8_isStronger_100 rfl (fun c100 => ?_) (fun c100 => ?_)
                  · skip
                    refine g_iconst C (nI 0) ic_0 dX8_isStronger_122 ?_
                    exact g_zret E false rfl dX8_isStronger_123 (by decide) (by decide) ⟨(congrArg (fun z => some (Value.int (bI z))) (by (try simp only [decide_eq_true_eq, decide_eq_false_iff_not] at c105); (try simp only [decide_eq_true_eq, decide_eq_false_iff_not] at c110); (try simp only [decide_eq_true_eq, decide_eq_false_iff_not] at c115); unfold spF; first | exact (decide_eq_true (by omega)).symm | exact (decide_eq_false (by omega)).symm)), rfl⟩
                  · skip
                    refine g_iload C 4 rfl dX8_isStronger_103 ?_
                    refine g_if_eqB C (decide (a / 8 % 8 = 4 ∨ a / 8 % 8 = w / 8 % 8)) 122 rfl dX8_isStronger_105 rfl (fun c105 => ?_) (fun c105 => ?_)
                    · skip
                      refine g_iconst C (nI 0) ic_0 dX8_isStronger_122 ?_
                      exact g_zret E false rfl dX8_isStronger_123 (by decide) (by decide) ⟨(congrArg (fun z => some (Value.int (bI z))) (by (try simp only [decide_eq_true_eq, decide_eq_false_iff_not] at c105); (try simp only [decide_eq_true_eq, decide_eq_false_iff_not] at c110); (try simp only [decide_eq_true_eq, decide_eq_false_iff_not] at c115); unfold spF; first | exact (decide_eq_true (by omega)).symm | exact (decide_eq_false (by omega)).symm)), rfl⟩
                    · skip
                      refine g_iload C 5 rfl dX8_isStronger_108 ?_
                      refine g_if_eqB C (decide (3 < a % 8 ∨ a % 8 = w % 8)) 122 rfl dX8_isStronger_110 rfl (fun c110 => ?_) (fun c110 => ?_)
                      · skip
                        refine g_iconst C (nI 0) ic_0 dX8_isStronger_122 ?_
                        exact g_zret E false rfl dX8_isStronger_123 (by decide) (by decide) ⟨(congrArg (fun z => some (Value.int (bI z))) (by (try simp only [decide_eq_true_eq, decide_eq_false_iff_not] at c105); (try simp only [decide_eq_true_eq, decide_eq_false_iff_not] at c110); (try simp only [decide_eq_true_eq, decide_eq_false_iff_not] at c115); unfold spF; first | exact (decide_eq_true (by omega)).symm | exact (decide_eq_false (by omega)).symm)), rfl⟩
                      · skip
                        refine g_iload C 6 rfl dX8_isStronger_113 ?_
                        refine g_if_eqB C (decide (a / 8 % 8 ≠ 4 ∨ a % 8 ≠ 4 ∨ w / 8 % 8 = w % 8)) 122 rfl dX8_isStronger_115 rfl (fun c115 => ?_) (fun c115 => ?_)
                        · skip
                          refine g_iconst C (nI 0) ic_0 dX8_isStronger_122 ?_
                          exact g_zret E false rfl dX8_isStronger_123 (by decide) (by decide) ⟨(congrArg (fun z => some (Value.int (bI z))) (by (try simp only [decide_eq_true_eq, decide_eq_false_iff_not] at c105); (try simp only [decide_eq_true_eq, decide_eq_false_iff_not] at c110); (try simp only [decide_eq_true_eq, decide_eq_false_iff_not] at c115); unfold spF; first | exact (decide_eq_true (by omega)).symm | exact (decide_eq_false (by omega)).symm)), rfl⟩
                        · skip
                          refine g_iconst C (nI 1) ic_1 dX8_isStronger_118 ?_
                          refine g_goto C 123 dX8_isStronger_119 rfl ?_
                          exact g_zret E true rfl dX8_isStronger_123 (by decide) (by decide) ⟨(congrArg (fun z => some (Value.int (bI z))) (by (try simp only [decide_eq_true_eq, decide_eq_false_iff_not] at c105); (try simp only [decide_eq_true_eq, decide_eq_false_iff_not] at c110); (try simp only [decide_eq_true_eq, decide_eq_false_iff_not] at c115); unfold spF; first | exact (decide_eq_true (by omega)).symm | exact (decide_eq_false (by omega)).symm)), rfl⟩
              exact L87  
            · skip
              refine g_iload_n C 3 rfl dX8_isStronger_61 ?_
              refine g_iconst C (nI 4) ic_4 dX8_isStronger_62 ?_
              refine g_icmp_neN C (a % 8) 4 80 rfl rfl (by omega) (by omega) dX8_isStronger_63 rfl (fun c63 => ?_) (fun c63 => ?_)
              · skip
                refine g_iconst C (nI 1) ic_1 dX8_isStronger_80 ?_
                refine g_goto C 85 dX8_isStronger_81 rfl ?_
                refine g_st [.int (bI (decide (a / 8 % 8 ≠ 4 ∨ a % 8 ≠ 4 ∨ w / 8 % 8 = w % 8)))] (congrArg (fun z => [Value.int z]) (by first | (rw [decide_eq_true (by omega)]; rfl) | (rw [decide_eq_false (by omega)]; rfl))) ?_
                refine g_istore C [(6, .int (bI (decide (a / 8 % 8 ≠ 4 ∨ a % 8 ≠ 4 ∨ w / 8 % 8 = w % 8)))), (0, .int (nI a)), (1, .int (nI w)), (2, .int (nI ((a / 8) % 8))), (3, .int (nI (a % 8))), (4, .int (bI (decide (a / 8 % 8 = 4 ∨ a / 8 % 8 = w / 8 % 8)))), (5, .int (bI (decide (3 < a % 8 ∨ a % 8 = w % 8))))] dX8_isStronger_85 (by decide) rfl ?_
                refine g_lo [1, 2, 3, 4, 5, 6, 0] [(0, .int (nI a)), (1, .int (nI w)), (2, .int (nI ((a / 8) % 8))), (3, .int (nI (a % 8))), (4, .int (bI (decide (a / 8 % 8 = 4 ∨ a / 8 % 8 = w / 8 % 8)))), (5, .int (bI (decide (3 < a % 8 ∨ a % 8 = w % 8)))), (6, .int (bI (decide (a / 8 % 8 ≠ 4 ∨ a % 8 ≠ 4 ∨ w / 8 % 8 = w % 8))))] rfl ?_
                have L87 : gW pg l en r_X8_isStronger s0 mi ag bl mth cd 7 D AA HH QQ 87 [(0, .int (nI a)), (1, .int (nI w)), (2, .int (nI ((a / 8) % 8))), (3, .int (nI (a % 8))), (4, .int (bI (decide (a / 8 % 8 = 4 ∨ a / 8 % 8 = w / 8 % 8)))), (5, .int (bI (decide (3 < a % 8 ∨ a % 8 = w % 8)))), (6, .int (bI (decide (a / 8 % 8 ≠ 4 ∨ a % 8 ≠ 4 ∨ w / 8 % 8 = w % 8))))] [] [] 0 0 := by
                  skip
                  refine g_iload_n C 0 rfl dX8_isStronger_87 ?_
                  refine g_iload_n C 1 rfl dX8_isStronger_88 ?_
                  refine g_icmp_eqN C a w 122 rfl rfl (by omega) (by omega) dX8_isStronger_89 rfl (fun c89 => ?_) (fun c89 => ?_)
                  · skip
                    refine g_iconst C (nI 0) ic_0 dX8_isStronger_122 ?_
                    exact g_zret E false rfl dX8_isStronger_123 (by decide) (by decide) ⟨(congrArg (fun z => some (Value.int (bI z))) (by (try simp only [decide_eq_true_eq, decide_eq_false_iff_not] at c105); (try simp only [decide_eq_true_eq, decide_eq_false_iff_not] at c110); (try simp only [decide_eq_true_eq, decide_eq_false_iff_not] at c115); unfold spF; first | exact (decide_eq_true (by omega)).symm | exact (decide_eq_false (by omega)).symm)), rfl⟩
                  · skip
                    refine g_iload_n C 0 rfl dX8_isStronger_92 ?_
                    refine g_bipush C (nI 64) bp_64 dX8_isStronger_93 ?_
                    refine g_idiv C (nI (a / 64)) (by decide +kernel) dX8_isStronger_95 (pk_div (by omega) (by omega) (by omega)) ?_
                    refine g_iload_n C 1 rfl dX8_isStronger_96 ?_
                    refine g_bipush C (nI 64) bp_64 dX8_isStronger_97 ?_
                    refine g_idiv C (nI (w / 64)) (by decide +kernel) dX8_isStronger_99 (pk_div (by omega) (by omega) (by omega)) ?_
                    refine g_icmp_neN C (a / 64) (w / 64) 122 rfl rfl (by omega) (by omega) dX8_isStronger_100 rfl (fun c100 => ?_) (fun c100 => ?_)
                    · skip
                      refine g_iconst C (nI 0) ic_0 dX8_isStronger_122 ?_
                      exact g_zret E false rfl dX8_isStronger_123 (by decide) (by decide) ⟨(congrArg (fun z => some (Value.int (bI z))) (by (try simp only [decide_eq_true_eq, decide_eq_false_iff_not] at c105); (try simp only [decide_eq_true_eq, decide_eq_false_iff_not] at c110); (try simp only [decide_eq_true_eq, decide_eq_false_iff_not] at c115); unfold spF; first | exact (decide_eq_true (by omega)).symm | exact (decide_eq_false (by omega)).symm)), rfl⟩
                    · skip
                      refine g_iload C 4 rfl dX8_isStronger_103 ?_
                      refine g_if_eqB C (decide (a / 8 % 8 = 4 ∨ a / 8 % 8 = w / 8 % 8)) 122 rfl dX8_isStronger_105 rfl (fun c105 => ?_) (fun c105 => ?_)
                      · skip
                        refine g_iconst C (nI 0) ic_0 dX8_isStronger_122 ?_
                        exact g_zret E false rfl dX8_isStronger_123 (by decide) (by decide) ⟨(congrArg (fun z => some (Value.int (bI z))) (by (try simp only [decide_eq_true_eq, decide_eq_false_iff_not] at c105); (try simp only [decide_eq_true_eq, decide_eq_false_iff_not] at c110); (try simp only [decide_eq_true_eq, decide_eq_false_iff_not] at c115); unfold spF; first | exact (decide_eq_true (by omega)).symm | exact (decide_eq_false (by omega)).symm)), rfl⟩
                      · skip
                        refine g_iload C 5 rfl dX8_isStronger_108 ?_
                        refine g_if_eqB C (decide (3 < a % 8 ∨ a % 8 = w % 8)) 122 rfl dX8_isStronger_110 rfl (fun c110 => ?_) (fun c110 => ?_)
                        · skip
                          refine g_iconst C (nI 0) ic_0 dX8_isStronger_122 ?_
                          exact g_zret E false rfl dX8_isStronger_123 (by decide) (by decide) ⟨(congrArg (fun z => some (Value.int (bI z))) (by (try simp only [decide_eq_true_eq, decide_eq_false_iff_not] at c105); (try simp only [decide_eq_true_eq, decide_eq_false_iff_not] at c110); (try simp only [decide_eq_true_eq, decide_eq_false_iff_not] at c115); unfold spF; first | exact (decide_eq_true (by omega)).symm | exact (decide_eq_false (by omega)).symm)), rfl⟩
                        · skip
                          refine g_iload C 6 rfl dX8_isStronger_113 ?_
                          refine g_if_eqB C (decide (a / 8 % 8 ≠ 4 ∨ a % 8 ≠ 4 ∨ w / 8 % 8 = w % 8)) 122 rfl dX8_isStronger_115 rfl (fun c115 => ?_) (fun c115 => ?_)
                          · skip
                            refine g_iconst C (nI 0) ic_0 dX8_isStronger_122 ?_
                            exact g_zret E false rfl dX8_isStronger_123 (by decide) (by decide) ⟨(congrArg (fun z => some (Value.int (bI z))) (by (try simp only [decide_eq_true_eq, decide_eq_false_iff_not] at c105); (try simp only [decide_eq_true_eq, decide_eq_false_iff_not] at c110); (try simp only [decide_eq_true_eq, decide_eq_false_iff_not] at c115); unfold spF; first | exact (decide_eq_true (by omega)).symm | exact (decide_eq_false (by omega)).symm)), rfl⟩
                          · skip
                            refine g_iconst C (nI 1) ic_1 dX8_isStronger_118 ?_
                            refine g_goto C 123 dX8_isStronger_119 rfl ?_
                            exact g_zret E true rfl dX8_isStronger_123 (by decide) (by decide) ⟨(congrArg (fun z => some (Value.int (bI z))) (by (try simp only [decide_eq_true_eq, decide_eq_false_iff_not] at c105); (try simp only [decide_eq_true_eq, decide_eq_false_iff_not] at c110); (try simp only [decide_eq_true_eq, decide_eq_false_iff_not] at c115); unfold spF; first | exact (decide_eq_true (by omega)).symm | exact (decide_eq_false (by omega)).symm)), rfl⟩
                exact L87  
              · skip
                refine g_iload_n C 1 rfl dX8_isStronger_66 ?_
                refine g_bipush C (nI 8) bp_8 dX8_isStronger_67 ?_
                refine g_idiv C (nI (w / 8)) (by decide +kernel) dX8_isStronger_69 (pk_div (by omega) (by omega) (by omega)) ?_
                refine g_bipush C (nI 8) bp_8 dX8_isStronger_70 ?_
                refine g_irem C (nI ((w / 8) % 8)) (by decide +kernel) dX8_isStronger_72 (pk_rem (by omega) (by omega) (by omega)) ?_
                refine g_iload_n C 1 rfl dX8_isStronger_73 ?_
                refine g_bipush C (nI 8) bp_8 dX8_isStronger_74 ?_
                refine g_irem C (nI (w % 8)) (by decide +kernel) dX8_isStronger_76 (pk_rem (by omega) (by omega) (by omega)) ?_
                refine g_icmp_neN C ((w / 8) % 8) (w % 8) 84 rfl rfl (by omega) (by omega) dX8_isStronger_77 rfl (fun c77 => ?_) (fun c77 => ?_)
                · skip
                  refine g_iconst C (nI 0) ic_0 dX8_isStronger_84 ?_
                  refine g_st [.int (bI (decide (a / 8 % 8 ≠ 4 ∨ a % 8 ≠ 4 ∨ w / 8 % 8 = w % 8)))] (congrArg (fun z => [Value.int z]) (by first | (rw [decide_eq_true (by omega)]; rfl) | (rw [decide_eq_false (by omega)]; rfl))) ?_
                  refine g_istore C [(6, .int (bI (decide (a / 8 % 8 ≠ 4 ∨ a % 8 ≠ 4 ∨ w / 8 % 8 = w % 8)))), (0, .int (nI a)), (1, .int (nI w)), (2, .int (nI ((a / 8) % 8))), (3, .int (nI (a % 8))), (4, .int (bI (decide (a / 8 % 8 = 4 ∨ a / 8 % 8 = w / 8 % 8)))), (5, .int (bI (decide (3 < a % 8 ∨ a % 8 = w % 8))))] dX8_isStronger_85 (by decide) rfl ?_
                  refine g_lo [1, 2, 3, 4, 5, 6, 0] [(0, .int (nI a)), (1, .int (nI w)), (2, .int (nI ((a / 8) % 8))), (3, .int (nI (a % 8))), (4, .int (bI (decide (a / 8 % 8 = 4 ∨ a / 8 % 8 = w / 8 % 8)))), (5, .int (bI (decide (3 < a % 8 ∨ a % 8 = w % 8)))), (6, .int (bI (decide (a / 8 % 8 ≠ 4 ∨ a % 8 ≠ 4 ∨ w / 8 % 8 = w % 8))))] rfl ?_
                  have L87 : gW pg l en r_X8_isStronger s0 mi ag bl mth cd 7 D AA HH QQ 87 [(0, .int (nI a)), (1, .int (nI w)), (2, .int (nI ((a / 8) % 8))), (3, .int (nI (a % 8))), (4, .int (bI (decide (a / 8 % 8 = 4 ∨ a / 8 % 8 = w / 8 % 8)))), (5, .int (bI (decide (3 < a % 8 ∨ a % 8 = w % 8)))), (6, .int (bI (decide (a / 8 % 8 ≠ 4 ∨ a % 8 ≠ 4 ∨ w / 8 % 8 = w % 8))))] [] [] 0 0 := by
                    skip
                    refine g_iload_n C 0 rfl dX8_isStronger_87 ?_
                    refine g_iload_n C 1 rfl dX8_isStronger_88 ?_
                    refine g_icmp_eqN C a w 122 rfl rfl (by omega) (by omega) dX8_isStronger_89 rfl (fun c89 => ?_) (fun c89 => ?_)
                    · skip
                      refine g_iconst C (nI 0) ic_0 dX8_isStronger_122 ?_
                      exact g_zret E false rfl dX8_isStronger_123 (by decide) (by decide) ⟨(congrArg (fun z => some (Value.int (bI z))) (by (try simp only [decide_eq_true_eq, decide_eq_false_iff_not] at c105); (try simp only [decide_eq_true_eq, decide_eq_false_iff_not] at c110); (try simp only [decide_eq_true_eq, decide_eq_false_iff_not] at c115); unfold spF; first | exact (decide_eq_true (by omega)).symm | exact (decide_eq_false (by omega)).symm)), rfl⟩
                    · skip
                      refine g_iload_n C 0 rfl dX8_isStronger_92 ?_
                      refine g_bipush C (nI 64) bp_64 dX8_isStronger_93 ?_
                      refine g_idiv C (nI (a / 64)) (by decide +kernel) dX8_isStronger_95 (pk_div (by omega) (by omega) (by omega)) ?_
                      refine g_iload_n C 1 rfl dX8_isStronger_96 ?_
                      refine g_bipush C (nI 64) bp_64 dX8_isStronger_97 ?_
                      refine g_idiv C (nI (w / 64)) (by decide +kernel) dX8_isStronger_99 (pk_div (by omega) (by omega) (by omega)) ?_
                      refine g_icmp_neN C (a / 64) (w / 64) 122 rfl rfl (by omega) (by omega) dX8_isStronger_100 rfl (fun c100 => ?_) (fun c100 => ?_)
                      · skip
                        refine g_iconst C (nI 0) ic_0 dX8_isStronger_122 ?_
                        exact g_zret E false rfl dX8_isStronger_123 (by decide) (by decide) ⟨(congrArg (fun z => some (Value.int (bI z))) (by (try simp only [decide_eq_true_eq, decide_eq_false_iff_not] at c105); (try simp only [decide_eq_true_eq, decide_eq_false_iff_not] at c110); (try simp only [decide_eq_true_eq, decide_eq_false_iff_not] at c115); unfold spF; first | exact (decide_eq_true (by omega)).symm | exact (decide_eq_false (by omega)).symm)), rfl⟩
                      · skip
                        refine g_iload C 4 rfl dX8_isStronger_103 ?_
                        refine g_if_eqB C (decide (a / 8 % 8 = 4 ∨ a / 8 % 8 = w / 8 % 8)) 122 rfl dX8_isStronger_105 rfl (fun c105 => ?_) (fun c105 => ?_)
                        · skip
                          refine g_iconst C (nI 0) ic_0 dX8_isStronger_122 ?_
                          exact g_zret E false rfl dX8_isStronger_123 (by decide) (by decide) ⟨(congrArg (fun z => some (Value.int (bI z))) (by (try simp only [decide_eq_true_eq, decide_eq_false_iff_not] at c105); (try simp only [decide_eq_true_eq, decide_eq_false_iff_not] at c110); (try simp only [decide_eq_true_eq, decide_eq_false_iff_not] at c115); unfold spF; first | exact (decide_eq_true (by omega)).symm | exact (decide_eq_false (by omega)).symm)), rfl⟩
                        · skip
                          refine g_iload C 5 rfl dX8_isStronger_108 ?_
                          refine g_if_eqB C (decide (3 < a % 8 ∨ a % 8 = w % 8)) 122 rfl dX8_isStronger_110 rfl (fun c110 => ?_) (fun c110 => ?_)
                          · skip
                            refine g_iconst C (nI 0) ic_0 dX8_isStronger_122 ?_
                            exact g_zret E false rfl dX8_isStronger_123 (by decide) (by decide) ⟨(congrArg (fun z => some (Value.int (bI z))) (by (try simp only [decide_eq_true_eq, decide_eq_false_iff_not] at c105); (try simp only [decide_eq_true_eq, decide_eq_false_iff_not] at c110); (try simp only [decide_eq_true_eq, decide_eq_false_iff_not] at c115); unfold spF; first | exact (decide_eq_true (by omega)).symm | exact (decide_eq_false (by omega)).symm)), rfl⟩
                          · skip
                            refine g_iload C 6 rfl dX8_isStronger_113 ?_
                            refine g_if_eqB C (decide (a / 8 % 8 ≠ 4 ∨ a % 8 ≠ 4 ∨ w / 8 % 8 = w % 8)) 122 rfl dX8_isStronger_115 rfl (fun c115 => ?_) (fun c115 => ?_)
                            · skip
                              refine g_iconst C (nI 0) ic_0 dX8_isStronger_122 ?_
                              exact g_zret E false rfl dX8_isStronger_123 (by decide) (by decide) ⟨(congrArg (fun z => some (Value.int (bI z))) (by (try simp only [decide_eq_true_eq, decide_eq_false_iff_not] at c105); (try simp only [decide_eq_true_eq, decide_eq_false_iff_not] at c110); (try simp only [decide_eq_true_eq, decide_eq_false_iff_not] at c115); unfold spF; first | exact (decide_eq_true (by omega)).symm | exact (decide_eq_false (by omega)).symm)), rfl⟩
                            · skip
                              refine g_iconst C (nI 1) ic_1 dX8_isStronger_118 ?_
                              refine g_goto C 123 dX8_isStronger_119 rfl ?_
                              exact g_zret E true rfl dX8_isStronger_123 (by decide) (by decide) ⟨(congrArg (fun z => some (Value.int (bI z))) (by (try simp only [decide_eq_true_eq, decide_eq_false_iff_not] at c105); (try simp only [decide_eq_true_eq, decide_eq_false_iff_not] at c110); (try simp only [decide_eq_true_eq, decide_eq_false_iff_not] at c115); unfold spF; first | exact (decide_eq_true (by omega)).symm | exact (decide_eq_false (by omega)).symm)), rfl⟩
                  exact L87  
                · skip
                  refine g_iconst C (nI 1) ic_1 dX8_isStronger_80 ?_
                  refine g_goto C 85 dX8_isStronger_81 rfl ?_
                  refine g_st [.int (bI (decide (a / 8 % 8 ≠ 4 ∨ a % 8 ≠ 4 ∨ w / 8 % 8 = w % 8)))] (congrArg (fun z => [Value.int z]) (by first | (rw [decide_eq_true (by omega)]; rfl) | (rw [decide_eq_false (by omega)]; rfl))) ?_
                  refine g_istore C [(6, .int (bI (decide (a / 8 % 8 ≠ 4 ∨ a % 8 ≠ 4 ∨ w / 8 % 8 = w % 8)))), (0, .int (nI a)), (1, .int (nI w)), (2, .int (nI ((a / 8) % 8))), (3, .int (nI (a % 8))), (4, .int (bI (decide (a / 8 % 8 = 4 ∨ a / 8 % 8 = w / 8 % 8)))), (5, .int (bI (decide (3 < a % 8 ∨ a % 8 = w % 8))))] dX8_isStronger_85 (by decide) rfl ?_
                  refine g_lo [1, 2, 3, 4, 5, 6, 0] [(0, .int (nI a)), (1, .int (nI w)), (2, .int (nI ((a / 8) % 8))), (3, .int (nI (a % 8))), (4, .int (bI (decide (a / 8 % 8 = 4 ∨ a / 8 % 8 = w / 8 % 8)))), (5, .int (bI (decide (3 < a % 8 ∨ a % 8 = w % 8)))), (6, .int (bI (decide (a / 8 % 8 ≠ 4 ∨ a % 8 ≠ 4 ∨ w / 8 % 8 = w % 8))))] rfl ?_
                  have L87 : gW pg l en r_X8_isStronger s0 mi ag bl mth cd 7 D AA HH QQ 87 [(0, .int (nI a)), (1, .int (nI w)), (2, .int (nI ((a / 8) % 8))), (3, .int (nI (a % 8))), (4, .int (bI (decide (a / 8 % 8 = 4 ∨ a / 8 % 8 = w / 8 % 8)))), (5, .int (bI (decide (3 < a % 8 ∨ a % 8 = w % 8)))), (6, .int (bI (decide (a / 8 % 8 ≠ 4 ∨ a % 8 ≠ 4 ∨ w / 8 % 8 = w % 8))))] [] [] 0 0 := by
                    skip
                    refine g_iload_n C 0 rfl dX8_isStronger_87 ?_
                    refine g_iload_n C 1 rfl dX8_isStronger_88 ?_
                    refine g_icmp_eqN C a w 122 rfl rfl (by omega) (by omega) dX8_isStronger_89 rfl (fun c89 => ?_) (fun c89 => ?_)
                    · skip
                      refine g_iconst C (nI 0) ic_0 dX8_isStronger_122 ?_
                      exact g_zret E false rfl dX8_isStronger_123 (by decide) (by decide) ⟨(congrArg (fun z => some (Value.int (bI z))) (by (try simp only [decide_eq_true_eq, decide_eq_false_iff_not] at c105); (try simp only [decide_eq_true_eq, decide_eq_false_iff_not] at c110); (try simp only [decide_eq_true_eq, decide_eq_false_iff_not] at c115); unfold spF; first | exact (decide_eq_true (by omega)).symm | exact (decide_eq_false (by omega)).symm)), rfl⟩
                    · skip
                      refine g_iload_n C 0 rfl dX8_isStronger_92 ?_
                      refine g_bipush C (nI 64) bp_64 dX8_isStronger_93 ?_
                      refine g_idiv C (nI (a / 64)) (by decide +kernel) dX8_isStronger_95 (pk_div (by omega) (by omega) (by omega)) ?_
                      refine g_iload_n C 1 rfl dX8_isStronger_96 ?_
                      refine g_bipush C (nI 64) bp_64 dX8_isStronger_97 ?_
                      refine g_idiv C (nI (w / 64)) (by decide +kernel) dX8_isStronger_99 (pk_div (by omega) (by omega) (by omega)) ?_
                      refine g_icmp_neN C (a / 64) (w / 64) 122 rfl rfl (by omega) (by omega) dX8_isStronger_100 rfl (fun c100 => ?_) (fun c100 => ?_)
                      · skip
                        refine g_iconst C (nI 0) ic_0 dX8_isStronger_122 ?_
                        exact g_zret E false rfl dX8_isStronger_123 (by decide) (by decide) ⟨(congrArg (fun z => some (Value.int (bI z))) (by (try simp only [decide_eq_true_eq, decide_eq_false_iff_not] at c105); (try simp only [decide_eq_true_eq, decide_eq_false_iff_not] at c110); (try simp only [decide_eq_true_eq, decide_eq_false_iff_not] at c115); unfold spF; first | exact (decide_eq_true (by omega)).symm | exact (decide_eq_false (by omega)).symm)), rfl⟩
                      · skip
                        refine g_iload C 4 rfl dX8_isStronger_103 ?_
                        refine g_if_eqB C (decide (a / 8 % 8 = 4 ∨ a / 8 % 8 = w / 8 % 8)) 122 rfl dX8_isStronger_105 rfl (fun c105 => ?_) (fun c105 => ?_)
                        · skip
                          refine g_iconst C (nI 0) ic_0 dX8_isStronger_122 ?_
                          exact g_zret E false rfl dX8_isStronger_123 (by decide) (by decide) ⟨(congrArg (fun z => some (Value.int (bI z))) (by (try simp only [decide_eq_true_eq, decide_eq_false_iff_not] at c105); (try simp only [decide_eq_true_eq, decide_eq_false_iff_not] at c110); (try simp only [decide_eq_true_eq, decide_eq_false_iff_not] at c115); unfold spF; first | exact (decide_eq_true (by omega)).symm | exact (decide_eq_false (by omega)).symm)), rfl⟩
                        · skip
                          refine g_iload C 5 rfl dX8_isStronger_108 ?_
                          refine g_if_eqB C (decide (3 < a % 8 ∨ a % 8 = w % 8)) 122 rfl dX8_isStronger_110 rfl (fun c110 => ?_) (fun c110 => ?_)
                          · skip
                            refine g_iconst C (nI 0) ic_0 dX8_isStronger_122 ?_
                            exact g_zret E false rfl dX8_isStronger_123 (by decide) (by decide) ⟨(congrArg (fun z => some (Value.int (bI z))) (by (try simp only [decide_eq_true_eq, decide_eq_false_iff_not] at c105); (try simp only [decide_eq_true_eq, decide_eq_false_iff_not] at c110); (try simp only [decide_eq_true_eq, decide_eq_false_iff_not] at c115); unfold spF; first | exact (decide_eq_true (by omega)).symm | exact (decide_eq_false (by omega)).symm)), rfl⟩
                          · skip
                            refine g_iload C 6 rfl dX8_isStronger_113 ?_
                            refine g_if_eqB C (decide (a / 8 % 8 ≠ 4 ∨ a % 8 ≠ 4 ∨ w / 8 % 8 = w % 8)) 122 rfl dX8_isStronger_115 rfl (fun c115 => ?_) (fun c115 => ?_)
                            · skip
                              refine g_iconst C (nI 0) ic_0 dX8_isStronger_122 ?_
                              exact g_zret E false rfl dX8_isStronger_123 (by decide) (by decide) ⟨(congrArg (fun z => some (Value.int (bI z))) (by (try simp only [decide_eq_true_eq, decide_eq_false_iff_not] at c105); (try simp only [decide_eq_true_eq, decide_eq_false_iff_not] at c110); (try simp only [decide_eq_true_eq, decide_eq_false_iff_not] at c115); unfold spF; first | exact (decide_eq_true (by omega)).symm | exact (decide_eq_false (by omega)).symm)), rfl⟩
                            · skip
                              refine g_iconst C (nI 1) ic_1 dX8_isStronger_118 ?_
                              refine g_goto C 123 dX8_isStronger_119 rfl ?_
                              exact g_zret E true rfl dX8_isStronger_123 (by decide) (by decide) ⟨(congrArg (fun z => some (Value.int (bI z))) (by (try simp only [decide_eq_true_eq, decide_eq_false_iff_not] at c105); (try simp only [decide_eq_true_eq, decide_eq_false_iff_not] at c110); (try simp only [decide_eq_true_eq, decide_eq_false_iff_not] at c115); unfold spF; first | exact (decide_eq_true (by omega)).symm | exact (decide_eq_false (by omega)).symm)), rfl⟩
                  exact L87  
          exact L56  
        · skip
          refine g_iconst C (nI 1) ic_1 dX8_isStronger_49 ?_
          refine g_goto C 54 dX8_isStronger_50 rfl ?_
          refine g_st [.int (bI (decide (3 < a % 8 ∨ a % 8 = w % 8)))] (congrArg (fun z => [Value.int z]) (by first | (rw [decide_eq_true (by omega)]; rfl) | (rw [decide_eq_false (by omega)]; rfl))) ?_
          refine g_istore C [(5, .int (bI (decide (3 < a % 8 ∨ a % 8 = w % 8)))), (0, .int (nI a)), (1, .int (nI w)), (2, .int (nI ((a / 8) % 8))), (3, .int (nI (a % 8))), (4, .int (bI (decide (a / 8 % 8 = 4 ∨ a / 8 % 8 = w / 8 % 8))))] dX8_isStronger_54 (by decide) rfl ?_
          refine g_lo [1, 2, 3, 4, 5, 0] [(0, .int (nI a)), (1, .int (nI w)), (2, .int (nI ((a / 8) % 8))), (3, .int (nI (a % 8))), (4, .int (bI (decide (a / 8 % 8 = 4 ∨ a / 8 % 8 = w / 8 % 8)))), (5, .int (bI (decide (3 < a % 8 ∨ a % 8 = w % 8))))] rfl ?_
          have L56 : gW pg l en r_X8_isStronger s0 mi ag bl mth cd 7 D AA HH QQ 56 [(0, .int (nI a)), (1, .int (nI w)), (2, .int (nI ((a / 8) % 8))), (3, .int (nI (a % 8))), (4, .int (bI (decide (a / 8 % 8 = 4 ∨ a / 8 % 8 = w / 8 % 8)))), (5, .int (bI (decide (3 < a % 8 ∨ a % 8 = w % 8))))] [] [] 0 0 := by
            skip
            refine g_iload_n C 2 rfl dX8_isStronger_56 ?_
            refine g_iconst C (nI 4) ic_4 dX8_isStronger_57 ?_
            refine g_icmp_neN C ((a / 8) % 8) 4 80 rfl rfl (by omega) (by omega) dX8_isStronger_58 rfl (fun c58 => ?_) (fun c58 => ?_)
            · skip
              refine g_iconst C (nI 1) ic_1 dX8_isStronger_80 ?_
              refine g_goto C 85 dX8_isStronger_81 rfl ?_
              refine g_st [.int (bI (decide (a / 8 % 8 ≠ 4 ∨ a % 8 ≠ 4 ∨ w / 8 % 8 = w % 8)))] (congrArg (fun z => [Value.int z]) (by first | (rw [decide_eq_true (by omega)]; rfl) | (rw [decide_eq_false (by omega)]; rfl))) ?_
              refine g_istore C [(6, .int (bI (decide (a / 8 % 8 ≠ 4 ∨ a % 8 ≠ 4 ∨ w / 8 % 8 = w % 8)))), (0, .int (nI a)), (1, .int (nI w)), (2, .int (nI ((a / 8) % 8))), (3, .int (nI (a % 8))), (4, .int (bI (decide (a / 8 % 8 = 4 ∨ a / 8 % 8 = w / 8 % 8)))), (5, .int (bI (decide (3 < a % 8 ∨ a % 8 = w % 8))))] dX8_isStronger_85 (by decide) rfl ?_
              refine g_lo [1, 2, 3, 4, 5, 6, 0] [(0, .int (nI a)), (1, .int (nI w)), (2, .int (nI ((a / 8) % 8))), (3, .int (nI (a % 8))), (4, .int (bI (decide (a / 8 % 8 = 4 ∨ a / 8 % 8 = w / 8 % 8)))), (5, .int (bI (decide (3 < a % 8 ∨ a % 8 = w % 8)))), (6, .int (bI (decide (a / 8 % 8 ≠ 4 ∨ a % 8 ≠ 4 ∨ w / 8 % 8 = w % 8))))] rfl ?_
              have L87 : gW pg l en r_X8_isStronger s0 mi ag bl mth cd 7 D AA HH QQ 87 [(0, .int (nI a)), (1, .int (nI w)), (2, .int (nI ((a / 8) % 8))), (3, .int (nI (a % 8))), (4, .int (bI (decide (a / 8 % 8 = 4 ∨ a / 8 % 8 = w / 8 % 8)))), (5, .int (bI (decide (3 < a % 8 ∨ a % 8 = w % 8)))), (6, .int (bI (decide (a / 8 % 8 ≠ 4 ∨ a % 8 ≠ 4 ∨ w / 8 % 8 = w % 8))))] [] [] 0 0 := by
                skip
                refine g_iload_n C 0 rfl dX8_isStronger_87 ?_
                refine g_iload_n C 1 rfl dX8_isStronger_88 ?_
                refine g_icmp_eqN C a w 122 rfl rfl (by omega) (by omega) dX8_isStronger_89 rfl (fun c89 => ?_) (fun c89 => ?_)
                · skip
                  refine g_iconst C (nI 0) ic_0 dX8_isStronger_122 ?_
                  exact g_zret E false rfl dX8_isStronger_123 (by decide) (by decide) ⟨(congrArg (fun z => some (Value.int (bI z))) (by (try simp only [decide_eq_true_eq, decide_eq_false_iff_not] at c105); (try simp only [decide_eq_true_eq, decide_eq_false_iff_not] at c110); (try simp only [decide_eq_true_eq, decide_eq_false_iff_not] at c115); unfold spF; first | exact (decide_eq_true (by omega)).symm | exact (decide_eq_false (by omega)).symm)), rfl⟩
                · skip
                  refine g_iload_n C 0 rfl dX8_isStronger_92 ?_
                  refine g_bipush C (nI 64) bp_64 dX8_isStronger_93 ?_
                  refine g_idiv C (nI (a / 64)) (by decide +kernel) dX8_isStronger_95 (pk_div (by omega) (by omega) (by omega)) ?_
                  refine g_iload_n C 1 rfl dX8_isStronger_96 ?_
                  refine g_bipush C (nI 64) bp_64 dX8_isStronger_97 ?_
                  refine g_idiv C (nI (w / 64)) (by decide +kernel) dX8_isStronger_99 (pk_div (by omega) (by omega) (by omega)) ?_
                  refine g_icmp_neN C (a / 64) (w / 64) 122 rfl rfl (by omega) (by omega) dX8_isStronger_100 rfl (fun c100 => ?_) (fun c100 => ?_)
                  · skip
                    refine g_iconst C (nI 0) ic_0 dX8_isStronger_122 ?_
                    exact g_zret E false rfl dX8_isStronger_123 (by decide) (by decide) ⟨(congrArg (fun z => some (Value.int (bI z))) (by (try simp only [decide_eq_true_eq, decide_eq_false_iff_not] at c105); (try simp only [decide_eq_true_eq, decide_eq_false_iff_not] at c110); (try simp only [decide_eq_true_eq, decide_eq_false_iff_not] at c115); unfold spF; first | exact (decide_eq_true (by omega)).symm | exact (decide_eq_false (by omega)).symm)), rfl⟩
                  · skip
                    refine g_iload C 4 rfl dX8_isStronger_103 ?_
                    refine g_if_eqB C (decide (a / 8 % 8 = 4 ∨ a / 8 % 8 = w / 8 % 8)) 122 rfl dX8_isStronger_105 rfl (fun c105 => ?_) (fun c105 => ?_)
                    · skip
                      refine g_iconst C (nI 0) ic_0 dX8_isStronger_122 ?_
                      exact g_zret E false rfl dX8_isStronger_123 (by decide) (by decide) ⟨(congrArg (fun z => some (Value.int (bI z))) (by (try simp only [decide_eq_true_eq, decide_eq_false_iff_not] at c105); (try simp only [decide_eq_true_eq, decide_eq_false_iff_not] at c110); (try simp only [decide_eq_true_eq, decide_eq_false_iff_not] at c115); unfold spF; first | exact (decide_eq_true (by omega)).symm | exact (decide_eq_false (by omega)).symm)), rfl⟩
                    · skip
                      refine g_iload C 5 rfl dX8_isStronger_108 ?_
                      refine g_if_eqB C (decide (3 < a % 8 ∨ a % 8 = w % 8)) 122 rfl dX8_isStronger_110 rfl (fun c110 => ?_) (fun c110 => ?_)
                      · skip
                        refine g_iconst C (nI 0) ic_0 dX8_isStronger_122 ?_
                        exact g_zret E false rfl dX8_isStronger_123 (by decide) (by decide) ⟨(congrArg (fun z => some (Value.int (bI z))) (by (try simp only [decide_eq_true_eq, decide_eq_false_iff_not] at c105); (try simp only [decide_eq_true_eq, decide_eq_false_iff_not] at c110); (try simp only [decide_eq_true_eq, decide_eq_false_iff_not] at c115); unfold spF; first | exact (decide_eq_true (by omega)).symm | exact (decide_eq_false (by omega)).symm)), rfl⟩
                      · skip
                        refine g_iload C 6 rfl dX8_isStronger_113 ?_
                        refine g_if_eqB C (decide (a / 8 % 8 ≠ 4 ∨ a % 8 ≠ 4 ∨ w / 8 % 8 = w % 8)) 122 rfl dX8_isStronger_115 rfl (fun c115 => ?_) (fun c115 => ?_)
                        · skip
                          refine g_iconst C (nI 0) ic_0 dX8_isStronger_122 ?_
                          exact g_zret E false rfl dX8_isStronger_123 (by decide) (by decide) ⟨(congrArg (fun z => some (Value.int (bI z))) (by (try simp only [decide_eq_true_eq, decide_eq_false_iff_not] at c105); (try simp only [decide_eq_true_eq, decide_eq_false_iff_not] at c110); (try simp only [decide_eq_true_eq, decide_eq_false_iff_not] at c115); unfold spF; first | exact (decide_eq_true (by omega)).symm | exact (decide_eq_false (by omega)).symm)), rfl⟩
                        · skip
                          refine g_iconst C (nI 1) ic_1 dX8_isStronger_118 ?_
                          refine g_goto C 123 dX8_isStronger_119 rfl ?_
                          exact g_zret E true rfl dX8_isStronger_123 (by decide) (by decide) ⟨(congrArg (fun z => some (Value.int (bI z))) (by (try simp only [decide_eq_true_eq, decide_eq_false_iff_not] at c105); (try simp only [decide_eq_true_eq, decide_eq_false_iff_not] at c110); (try simp only [decide_eq_true_eq, decide_eq_false_iff_not] at c115); unfold spF; first | exact (decide_eq_true (by omega)).symm | exact (decide_eq_false (by omega)).symm)), rfl⟩
              exact L87  
            · skip
              refine g_iload_n C 3 rfl dX8_isStronger_61 ?_
              refine g_iconst C (nI 4) ic_4 dX8_isStronger_62 ?_
              refine g_icmp_neN C (a % 8) 4 80 rfl rfl (by omega) (by omega) dX8_isStronger_63 rfl (fun c63 => ?_) (fun c63 => ?_)
              · skip
                refine g_iconst C (nI 1) ic_1 dX8_isStronger_80 ?_
                refine g_goto C 85 dX8_isStronger_81 rfl ?_
                refine g_st [.int (bI (decide (a / 8 % 8 ≠ 4 ∨ a % 8 ≠ 4 ∨ w / 8 % 8 = w % 8)))] (congrArg (fun z => [Value.int z]) (by first | (rw [decide_eq_true (by omega)]; rfl) | (rw [decide_eq_false (by omega)]; rfl))) ?_
                refine g_istore C [(6, .int (bI (decide (a / 8 % 8 ≠ 4 ∨ a % 8 ≠ 4 ∨ w / 8 % 8 = w % 8)))), (0, .int (nI a)), (1, .int (nI w)), (2, .int (nI ((a / 8) % 8))), (3, .int (nI (a % 8))), (4, .int (bI (decide (a / 8 % 8 = 4 ∨ a / 8 % 8 = w / 8 % 8)))), (5, .int (bI (decide (3 < a % 8 ∨ a % 8 = w % 8))))] dX8_isStronger_85 (by decide) rfl ?_
                refine g_lo [1, 2, 3, 4, 5, 6, 0] [(0, .int (nI a)), (1, .int (nI w)), (2, .int (nI ((a / 8) % 8))), (3, .int (nI (a % 8))), (4, .int (bI (decide (a / 8 % 8 = 4 ∨ a / 8 % 8 = w / 8 % 8)))), (5, .int (bI (decide (3 < a % 8 ∨ a % 8 = w % 8)))), (6, .int (bI (decide (a / 8 % 8 ≠ 4 ∨ a % 8 ≠ 4 ∨ w / 8 % 8 = w % 8))))] rfl ?_
                have L87 : gW pg l en r_X8_isStronger s0 mi ag bl mth cd 7 D AA HH QQ 87 [(0, .int (nI a)), (1, .int (nI w)), (2, .int (nI ((a / 8) % 8))), (3, .int (nI (a % 8))), (4, .int (bI (decide (a / 8 % 8 = 4 ∨ a / 8 % 8 = w / 8 % 8)))), (5, .int (bI (decide (3 < a % 8 ∨ a % 8 = w % 8)))), (6, .int (bI (decide (a / 8 % 8 ≠ 4 ∨ a % 8 ≠ 4 ∨ w / 8 % 8 = w % 8))))] [] [] 0 0 := by
                  skip
                  refine g_iload_n C 0 rfl dX8_isStronger_87 ?_
                  refine g_iload_n C 1 rfl dX8_isStronger_88 ?_
                  refine g_icmp_eqN C a w 122 rfl rfl (by omega) (by omega) dX8_isStronger_89 rfl (fun c89 => ?_) (fun c89 => ?_)
                  · skip
                    refine g_iconst C (nI 0) ic_0 dX8_isStronger_122 ?_
                    exact g_zret E false rfl dX8_isStronger_123 (by decide) (by decide) ⟨(congrArg (fun z => some (Value.int (bI z))) (by (try simp only [decide_eq_true_eq, decide_eq_false_iff_not] at c105); (try simp only [decide_eq_true_eq, decide_eq_false_iff_not] at c110); (try simp only [decide_eq_true_eq, decide_eq_false_iff_not] at c115); unfold spF; first | exact (decide_eq_true (by omega)).symm | exact (decide_eq_false (by omega)).symm)), rfl⟩
                  · skip
                    refine g_iload_n C 0 rfl dX8_isStronger_92 ?_
                    refine g_bipush C (nI 64) bp_64 dX8_isStronger_93 ?_
                    refine g_idiv C (nI (a / 64)) (by decide +kernel) dX8_isStronger_95 (pk_div (by omega) (by omega) (by omega)) ?_
                    refine g_iload_n C 1 rfl dX8_isStronger_96 ?_
                    refine g_bipush C (nI 64) bp_64 dX8_isStronger_97 ?_
                    refine g_idiv C (nI (w / 64)) (by decide +kernel) dX8_isStronger_99 (pk_div (by omega) (by omega) (by omega)) ?_
                    refine g_icmp_neN C (a / 64) (w / 64) 122 rfl rfl (by omega) (by omega) dX8_isStronger_100 rfl (fun c100 => ?_) (fun c100 => ?_)
                    · skip
                      refine g_iconst C (nI 0) ic_0 dX8_isStronger_122 ?_
                      exact g_zret E false rfl dX8_isStronger_123 (by decide) (by decide) ⟨(congrArg (fun z => some (Value.int (bI z))) (by (try simp only [decide_eq_true_eq, decide_eq_false_iff_not] at c105); (try simp only [decide_eq_true_eq, decide_eq_false_iff_not] at c110); (try simp only [decide_eq_true_eq, decide_eq_false_iff_not] at c115); unfold spF; first | exact (decide_eq_true (by omega)).symm | exact (decide_eq_false (by omega)).symm)), rfl⟩
                    · skip
                      refine g_iload C 4 rfl dX8_isStronger_103 ?_
                      refine g_if_eqB C (decide (a / 8 % 8 = 4 ∨ a / 8 % 8 = w / 8 % 8)) 122 rfl dX8_isStronger_105 rfl (fun c105 => ?_) (fun c105 => ?_)
                      · skip
                        refine g_iconst C (nI 0) ic_0 dX8_isStronger_122 ?_
                        exact g_zret E false rfl dX8_isStronger_123 (by decide) (by decide) ⟨(congrArg (fun z => some (Value.int (bI z))) (by (try simp only [decide_eq_true_eq, decide_eq_false_iff_not] at c105); (try simp only [decide_eq_true_eq, decide_eq_false_iff_not] at c110); (try simp only [decide_eq_true_eq, decide_eq_false_iff_not] at c115); unfold spF; first | exact (decide_eq_true (by omega)).symm | exact (decide_eq_false (by omega)).symm)), rfl⟩
                      · skip
                        refine g_iload C 5 rfl dX8_isStronger_108 ?_
                        refine g_if_eqB C (decide (3 < a % 8 ∨ a % 8 = w % 8)) 122 rfl dX8_isStronger_110 rfl (fun c110 => ?_) (fun c110 => ?_)
                        · skip
                          refine g_iconst C (nI 0) ic_0 dX8_isStronger_122 ?_
                          exact g_zret E false rfl dX8_isStronger_123 (by decide) (by decide) ⟨(congrArg (fun z => some (Value.int (bI z))) (by (try simp only [decide_eq_true_eq, decide_eq_false_iff_not] at c105); (try simp only [decide_eq_true_eq, decide_eq_false_iff_not] at c110); (try simp only [decide_eq_true_eq, decide_eq_false_iff_not] at c115); unfold spF; first | exact (decide_eq_true (by omega)).symm | exact (decide_eq_false (by omega)).symm)), rfl⟩
                        · skip
                          refine g_iload C 6 rfl dX8_isStronger_113 ?_
                          refine g_if_eqB C (decide (a / 8 % 8 ≠ 4 ∨ a % 8 ≠ 4 ∨ w / 8 % 8 = w % 8)) 122 rfl dX8_isStronger_115 rfl (fun c115 => ?_) (fun c115 => ?_)
                          · skip
                            refine g_iconst C (nI 0) ic_0 dX8_isStronger_122 ?_
                            exact g_zret E false rfl dX8_isStronger_123 (by decide) (by decide) ⟨(congrArg (fun z => some (Value.int (bI z))) (by (try simp only [decide_eq_true_eq, decide_eq_false_iff_not] at c105); (try simp only [decide_eq_true_eq, decide_eq_false_iff_not] at c110); (try simp only [decide_eq_true_eq, decide_eq_false_iff_not] at c115); unfold spF; first | exact (decide_eq_true (by omega)).symm | exact (decide_eq_false (by omega)).symm)), rfl⟩
                          · skip
                            refine g_iconst C (nI 1) ic_1 dX8_isStronger_118 ?_
                            refine g_goto C 123 dX8_isStronger_119 rfl ?_
                            exact g_zret E true rfl dX8_isStronger_123 (by decide) (by decide) ⟨(congrArg (fun z => some (Value.int (bI z))) (by (try simp only [decide_eq_true_eq, decide_eq_false_iff_not] at c105); (try simp only [decide_eq_true_eq, decide_eq_false_iff_not] at c110); (try simp only [decide_eq_true_eq, decide_eq_false_iff_not] at c115); unfold spF; first | exact (decide_eq_true (by omega)).symm | exact (decide_eq_false (by omega)).symm)), rfl⟩
                exact L87  
              · skip
                refine g_iload_n C 1 rfl dX8_isStronger_66 ?_
                refine g_bipush C (nI 8) bp_8 dX8_isStronger_67 ?_
                refine g_idiv C (nI (w / 8)) (by decide +kernel) dX8_isStronger_69 (pk_div (by omega) (by omega) (by omega)) ?_
                refine g_bipush C (nI 8) bp_8 dX8_isStronger_70 ?_
                refine g_irem C (nI ((w / 8) % 8)) (by decide +kernel) dX8_isStronger_72 (pk_rem (by omega) (by omega) (by omega)) ?_
                refine g_iload_n C 1 rfl dX8_isStronger_73 ?_
                refine g_bipush C (nI 8) bp_8 dX8_isStronger_74 ?_
                refine g_irem C (nI (w % 8)) (by decide +kernel) dX8_isStronger_76 (pk_rem (by omega) (by omega) (by omega)) ?_
                refine g_icmp_neN C ((w / 8) % 8) (w % 8) 84 rfl rfl (by omega) (by omega) dX8_isStronger_77 rfl (fun c77 => ?_) (fun c77 => ?_)
                · skip
                  refine g_iconst C (nI 0) ic_0 dX8_isStronger_84 ?_
                  refine g_st [.int (bI (decide (a / 8 % 8 ≠ 4 ∨ a % 8 ≠ 4 ∨ w / 8 % 8 = w % 8)))] (congrArg (fun z => [Value.int z]) (by first | (rw [decide_eq_true (by omega)]; rfl) | (rw [decide_eq_false (by omega)]; rfl))) ?_
                  refine g_istore C [(6, .int (bI (decide (a / 8 % 8 ≠ 4 ∨ a % 8 ≠ 4 ∨ w / 8 % 8 = w % 8)))), (0, .int (nI a)), (1, .int (nI w)), (2, .int (nI ((a / 8) % 8))), (3, .int (nI (a % 8))), (4, .int (bI (decide (a / 8 % 8 = 4 ∨ a / 8 % 8 = w / 8 % 8)))), (5, .int (bI (decide (3 < a % 8 ∨ a % 8 = w % 8))))] dX8_isStronger_85 (by decide) rfl ?_
                  refine g_lo [1, 2, 3, 4, 5, 6, 0] [(0, .int (nI a)), (1, .int (nI w)), (2, .int (nI ((a / 8) % 8))), (3, .int (nI (a % 8))), (4, .int (bI (decide (a / 8 % 8 = 4 ∨ a / 8 % 8 = w / 8 % 8)))), (5, .int (bI (decide (3 < a % 8 ∨ a % 8 = w % 8)))), (6, .int (bI (decide (a / 8 % 8 ≠ 4 ∨ a % 8 ≠ 4 ∨ w / 8 % 8 = w % 8))))] rfl ?_
                  have L87 : gW pg l en r_X8_isStronger s0 mi ag bl mth cd 7 D AA HH QQ 87 [(0, .int (nI a)), (1, .int (nI w)), (2, .int (nI ((a / 8) % 8))), (3, .int (nI (a % 8))), (4, .int (bI (decide (a / 8 % 8 = 4 ∨ a / 8 % 8 = w / 8 % 8)))), (5, .int (bI (decide (3 < a % 8 ∨ a % 8 = w % 8)))), (6, .int (bI (decide (a / 8 % 8 ≠ 4 ∨ a % 8 ≠ 4 ∨ w / 8 % 8 = w % 8))))] [] [] 0 0 := by
                    skip
                    refine g_iload_n C 0 rfl dX8_isStronger_87 ?_
                    refine g_iload_n C 1 rfl dX8_isStronger_88 ?_
                    refine g_icmp_eqN C a w 122 rfl rfl (by omega) (by omega) dX8_isStronger_89 rfl (fun c89 => ?_) (fun c89 => ?_)
                    · skip
                      refine g_iconst C (nI 0) ic_0 dX8_isStronger_122 ?_
                      exact g_zret E false rfl dX8_isStronger_123 (by decide) (by decide) ⟨(congrArg (fun z => some (Value.int (bI z))) (by (try simp only [decide_eq_true_eq, decide_eq_false_iff_not] at c105); (try simp only [decide_eq_true_eq, decide_eq_false_iff_not] at c110); (try simp only [decide_eq_true_eq, decide_eq_false_iff_not] at c115); unfold spF; first | exact (decide_eq_true (by omega)).symm | exact (decide_eq_false (by omega)).symm)), rfl⟩
                    · skip
                      refine g_iload_n C 0 rfl dX8_isStronger_92 ?_
                      refine g_bipush C (nI 64) bp_64 dX8_isStronger_93 ?_
                      refine g_idiv C (nI (a / 64)) (by decide +kernel) dX8_isStronger_95 (pk_div (by omega) (by omega) (by omega)) ?_
                      refine g_iload_n C 1 rfl dX8_isStronger_96 ?_
                      refine g_bipush C (nI 64) bp_64 dX8_isStronger_97 ?_
                      refine g_idiv C (nI (w / 64)) (by decide +kernel) dX8_isStronger_99 (pk_div (by omega) (by omega) (by omega)) ?_
                      refine g_icmp_neN C (a / 64) (w / 64) 122 rfl rfl (by omega) (by omega) dX8_isStronger_100 rfl (fun c100 => ?_) (fun c100 => ?_)
                      · skip
                        refine g_iconst C (nI 0) ic_0 dX8_isStronger_122 ?_
                        exact g_zret E false rfl dX8_isStronger_123 (by decide) (by decide) ⟨(congrArg (fun z => some (Value.int (bI z))) (by (try simp only [decide_eq_true_eq, decide_eq_false_iff_not] at c105); (try simp only [decide_eq_true_eq, decide_eq_false_iff_not] at c110); (try simp only [decide_eq_true_eq, decide_eq_false_iff_not] at c115); unfold spF; first | exact (decide_eq_true (by omega)).symm | exact (decide_eq_false (by omega)).symm)), rfl⟩
                      · skip
                        refine g_iload C 4 rfl dX8_isStronger_103 ?_
                        refine g_if_eqB C (decide (a / 8 % 8 = 4 ∨ a / 8 % 8 = w / 8 % 8)) 122 rfl dX8_isStronger_105 rfl (fun c105 => ?_) (fun c105 => ?_)
                        · skip
                          refine g_iconst C (nI 0) ic_0 dX8_isStronger_122 ?_
                          exact g_zret E false rfl dX8_isStronger_123 (by decide) (by decide) ⟨(congrArg (fun z => some (Value.int (bI z))) (by (try simp only [decide_eq_true_eq, decide_eq_false_iff_not] at c105); (try simp only [decide_eq_true_eq, decide_eq_false_iff_not] at c110); (try simp only [decide_eq_true_eq, decide_eq_false_iff_not] at c115); unfold spF; first | exact (decide_eq_true (by omega)).symm | exact (decide_eq_false (by omega)).symm)), rfl⟩
                        · skip
                          refine g_iload C 5 rfl dX8_isStronger_108 ?_
                          refine g_if_eqB C (decide (3 < a % 8 ∨ a % 8 = w % 8)) 122 rfl dX8_isStronger_110 rfl (fun c110 => ?_) (fun c110 => ?_)
                          · skip
                            refine g_iconst C (nI 0) ic_0 dX8_isStronger_122 ?_
                            exact g_zret E false rfl dX8_isStronger_123 (by decide) (by decide) ⟨(congrArg (fun z => some (Value.int (bI z))) (by (try simp only [decide_eq_true_eq, decide_eq_false_iff_not] at c105); (try simp only [decide_eq_true_eq, decide_eq_false_iff_not] at c110); (try simp only [decide_eq_true_eq, decide_eq_false_iff_not] at c115); unfold spF; first | exact (decide_eq_true (by omega)).symm | exact (decide_eq_false (by omega)).symm)), rfl⟩
                          · skip
                            refine g_iload C 6 rfl dX8_isStronger_113 ?_
                            refine g_if_eqB C (decide (a / 8 % 8 ≠ 4 ∨ a % 8 ≠ 4 ∨ w / 8 % 8 = w % 8)) 122 rfl dX8_isStronger_115 rfl (fun c115 => ?_) (fun c115 => ?_)
                            · skip
                              refine g_iconst C (nI 0) ic_0 dX8_isStronger_122 ?_
                              exact g_zret E false rfl dX8_isStronger_123 (by decide) (by decide) ⟨(congrArg (fun z => some (Value.int (bI z))) (by (try simp only [decide_eq_true_eq, decide_eq_false_iff_not] at c105); (try simp only [decide_eq_true_eq, decide_eq_false_iff_not] at c110); (try simp only [decide_eq_true_eq, decide_eq_false_iff_not] at c115); unfold spF; first | exact (decide_eq_true (by omega)).symm | exact (decide_eq_false (by omega)).symm)), rfl⟩
                            · skip
                              refine g_iconst C (nI 1) ic_1 dX8_isStronger_118 ?_
                              refine g_goto C 123 dX8_isStronger_119 rfl ?_
                              exact g_zret E true rfl dX8_isStronger_123 (by decide) (by decide) ⟨(congrArg (fun z => some (Value.int (bI z))) (by (try simp only [decide_eq_true_eq, decide_eq_false_iff_not] at c105); (try simp only [decide_eq_true_eq, decide_eq_false_iff_not] at c110); (try simp only [decide_eq_true_eq, decide_eq_false_iff_not] at c115); unfold spF; first | exact (decide_eq_true (by omega)).symm | exact (decide_eq_false (by omega)).symm)), rfl⟩
                  exact L87  
                · skip
                  refine g_iconst C (nI 1) ic_1 dX8_isStronger_80 ?_
                  refine g_goto C 85 dX8_isStronger_81 rfl ?_
                  refine g_st [.int (bI (decide (a / 8 % 8 ≠ 4 ∨ a % 8 ≠ 4 ∨ w / 8 % 8 = w % 8)))] (congrArg (fun z => [Value.int z]) (by first | (rw [decide_eq_true (by omega)]; rfl) | (rw [decide_eq_false (by omega)]; rfl))) ?_
                  refine g_istore C [(6, .int (bI (decide (a / 8 % 8 ≠ 4 ∨ a % 8 ≠ 4 ∨ w / 8 % 8 = w % 8)))), (0, .int (nI a)), (1, .int (nI w)), (2, .int (nI ((a / 8) % 8))), (3, .int (nI (a % 8))), (4, .int (bI (decide (a / 8 % 8 = 4 ∨ a / 8 % 8 = w / 8 % 8)))), (5, .int (bI (decide (3 < a % 8 ∨ a % 8 = w % 8))))] dX8_isStronger_85 (by decide) rfl ?_
                  refine g_lo [1, 2, 3, 4, 5, 6, 0] [(0, .int (nI a)), (1, .int (nI w)), (2, .int (nI ((a / 8) % 8))), (3, .int (nI (a % 8))), (4, .int (bI (decide (a / 8 % 8 = 4 ∨ a / 8 % 8 = w / 8 % 8)))), (5, .int (bI (decide (3 < a % 8 ∨ a % 8 = w % 8)))), (6, .int (bI (decide (a / 8 % 8 ≠ 4 ∨ a % 8 ≠ 4 ∨ w / 8 % 8 = w % 8))))] rfl ?_
                  have L87 : gW pg l en r_X8_isStronger s0 mi ag bl mth cd 7 D AA HH QQ 87 [(0, .int (nI a)), (1, .int (nI w)), (2, .int (nI ((a / 8) % 8))), (3, .int (nI (a % 8))), (4, .int (bI (decide (a / 8 % 8 = 4 ∨ a / 8 % 8 = w / 8 % 8)))), (5, .int (bI (decide (3 < a % 8 ∨ a % 8 = w % 8)))), (6, .int (bI (decide (a / 8 % 8 ≠ 4 ∨ a % 8 ≠ 4 ∨ w / 8 % 8 = w % 8))))] [] [] 0 0 := by
                    skip
                    refine g_iload_n C 0 rfl dX8_isStronger_87 ?_
                    refine g_iload_n C 1 rfl dX8_isStronger_88 ?_
                    refine g_icmp_eqN C a w 122 rfl rfl (by omega) (by omega) dX8_isStronger_89 rfl (fun c89 => ?_) (fun c89 => ?_)
                    · skip
                      refine g_iconst C (nI 0) ic_0 dX8_isStronger_122 ?_
                      exact g_zret E false rfl dX8_isStronger_123 (by decide) (by decide) ⟨(congrArg (fun z => some (Value.int (bI z))) (by (try simp only [decide_eq_true_eq, decide_eq_false_iff_not] at c105); (try simp only [decide_eq_true_eq, decide_eq_false_iff_not] at c110); (try simp only [decide_eq_true_eq, decide_eq_false_iff_not] at c115); unfold spF; first | exact (decide_eq_true (by omega)).symm | exact (decide_eq_false (by omega)).symm)), rfl⟩
                    · skip
                      refine g_iload_n C 0 rfl dX8_isStronger_92 ?_
                      refine g_bipush C (nI 64) bp_64 dX8_isStronger_93 ?_
                      refine g_idiv C (nI (a / 64)) (by decide +kernel) dX8_isStronger_95 (pk_div (by omega) (by omega) (by omega)) ?_
                      refine g_iload_n C 1 rfl dX8_isStronger_96 ?_
                      refine g_bipush C (nI 64) bp_64 dX8_isStronger_97 ?_
                      refine g_idiv C (nI (w / 64)) (by decide +kernel) dX8_isStronger_99 (pk_div (by omega) (by omega) (by omega)) ?_
                      refine g_icmp_neN C (a / 64) (w / 64) 122 rfl rfl (by omega) (by omega) dX8_isStronger_100 rfl (fun c100 => ?_) (fun c100 => ?_)
                      · skip
                        refine g_iconst C (nI 0) ic_0 dX8_isStronger_122 ?_
                        exact g_zret E false rfl dX8_isStronger_123 (by decide) (by decide) ⟨(congrArg (fun z => some (Value.int (bI z))) (by (try simp only [decide_eq_true_eq, decide_eq_false_iff_not] at c105); (try simp only [decide_eq_true_eq, decide_eq_false_iff_not] at c110); (try simp only [decide_eq_true_eq, decide_eq_false_iff_not] at c115); unfold spF; first | exact (decide_eq_true (by omega)).symm | exact (decide_eq_false (by omega)).symm)), rfl⟩
                      · skip
                        refine g_iload C 4 rfl dX8_isStronger_103 ?_
                        refine g_if_eqB C (decide (a / 8 % 8 = 4 ∨ a / 8 % 8 = w / 8 % 8)) 122 rfl dX8_isStronger_105 rfl (fun c105 => ?_) (fun c105 => ?_)
                        · skip
                          refine g_iconst C (nI 0) ic_0 dX8_isStronger_122 ?_
                          exact g_zret E false rfl dX8_isStronger_123 (by decide) (by decide) ⟨(congrArg (fun z => some (Value.int (bI z))) (by (try simp only [decide_eq_true_eq, decide_eq_false_iff_not] at c105); (try simp only [decide_eq_true_eq, decide_eq_false_iff_not] at c110); (try simp only [decide_eq_true_eq, decide_eq_false_iff_not] at c115); unfold spF; first | exact (decide_eq_true (by omega)).symm | exact (decide_eq_false (by omega)).symm)), rfl⟩
                        · skip
                          refine g_iload C 5 rfl dX8_isStronger_108 ?_
                          refine g_if_eqB C (decide (3 < a % 8 ∨ a % 8 = w % 8)) 122 rfl dX8_isStronger_110 rfl (fun c110 => ?_) (fun c110 => ?_)
                          · skip
                            refine g_iconst C (nI 0) ic_0 dX8_isStronger_122 ?_
                            exact g_zret E false rfl dX8_isStronger_123 (by decide) (by decide) ⟨(congrArg (fun z => some (Value.int (bI z))) (by (try simp only [decide_eq_true_eq, decide_eq_false_iff_not] at c105); (try simp only [decide_eq_true_eq, decide_eq_false_iff_not] at c110); (try simp only [decide_eq_true_eq, decide_eq_false_iff_not] at c115); unfold spF; first | exact (decide_eq_true (by omega)).symm | exact (decide_eq_false (by omega)).symm)), rfl⟩
                          · skip
                            refine g_iload C 6 rfl dX8_isStronger_113 ?_
                            refine g_if_eqB C (decide (a / 8 % 8 ≠ 4 ∨ a % 8 ≠ 4 ∨ w / 8 % 8 = w % 8)) 122 rfl dX8_isStronger_115 rfl (fun c115 => ?_) (fun c115 => ?_)
                            · skip
                              refine g_iconst C (nI 0) ic_0 dX8_isStronger_122 ?_
                              exact g_zret E false rfl dX8_isStronger_123 (by decide) (by decide) ⟨(congrArg (fun z => some (Value.int (bI z))) (by (try simp only [decide_eq_true_eq, decide_eq_false_iff_not] at c105); (try simp only [decide_eq_true_eq, decide_eq_false_iff_not] at c110); (try simp only [decide_eq_true_eq, decide_eq_false_iff_not] at c115); unfold spF; first | exact (decide_eq_true (by omega)).symm | exact (decide_eq_false (by omega)).symm)), rfl⟩
                            · skip
                              refine g_iconst C (nI 1) ic_1 dX8_isStronger_118 ?_
                              refine g_goto C 123 dX8_isStronger_119 rfl ?_
                              exact g_zret E true rfl dX8_isStronger_123 (by decide) (by decide) ⟨(congrArg (fun z => some (Value.int (bI z))) (by (try simp only [decide_eq_true_eq, decide_eq_false_iff_not] at c105); (try simp only [decide_eq_true_eq, decide_eq_false_iff_not] at c110); (try simp only [decide_eq_true_eq, decide_eq_false_iff_not] at c115); unfold spF; first | exact (decide_eq_true (by omega)).symm | exact (decide_eq_false (by omega)).symm)), rfl⟩
                  exact L87  
          exact L56  
    exact L36  
  · skip
    refine g_iload_n C 1 rfl dX8_isStronger_18 ?_
    refine g_iload_n C 3 rfl dX8_isStronger_19 ?_
    refine g_bipush C (nI 8) bp_8 dX8_isStronger_20 ?_
    refine g_idiv C (nI (w / 8)) (by decide +kernel) dX8_isStronger_22 (pk_div (by omega) (by omega) (by omega)) ?_
    refine g_bipush C (nI 8) bp_8 dX8_isStronger_23 ?_
    refine g_irem C (nI ((w / 8) % 8)) (by decide +kernel) dX8_isStronger_25 (pk_rem (by omega) (by omega) (by omega)) ?_
    refine g_icmp_neN C ((a / 8) % 8) ((w / 8) % 8) 33 rfl rfl (by omega) (by omega) dX8_isStronger_26 rfl (fun c26 => ?_) (fun c26 => ?_)
    · skip
      refine g_iconst C (nI 0) ic_0 dX8_isStronger_33 ?_
      refine g_st [.int (bI (decide (a / 8 % 8 = 4 ∨ a / 8 % 8 = w / 8 % 8)))] (congrArg (fun z => [Value.int z]) (by first | (rw [decide_eq_true (by omega)]; rfl) | (rw [decide_eq_false (by omega)]; rfl))) ?_
      refine g_istore C [(4, .int (bI (decide (a / 8 % 8 = 4 ∨ a / 8 % 8 = w / 8 % 8)))), (3, .int (nI (a % 8))), (2, .int (nI ((a / 8) % 8))), (0, .int (nI a)), (1, .int (nI w))] dX8_isStronger_34 (by decide) rfl ?_
      refine g_lo [3, 4, 2, 1, 0] [(0, .int (nI a)), (1, .int (nI w)), (2, .int (nI ((a / 8) % 8))), (3, .int (nI (a % 8))), (4, .int (bI (decide (a / 8 % 8 = 4 ∨ a / 8 % 8 = w / 8 % 8))))] rfl ?_
      have L36 : gW pg l en r_X8_isStronger s0 mi ag bl mth cd 7 D AA HH QQ 36 [(0, .int (nI a)), (1, .int (nI w)), (2, .int (nI ((a / 8) % 8))), (3, .int (nI (a % 8))), (4, .int (bI (decide (a / 8 % 8 = 4 ∨ a / 8 % 8 = w / 8 % 8))))] [] [] 0 0 := by
        skip
        refine g_iload_n C 3 rfl dX8_isStronger_36 ?_
        refine g_iconst C (nI 3) ic_3 dX8_isStronger_37 ?_
        refine g_icmp_gtN C (a % 8) 3 49 rfl rfl (by omega) (by omega) dX8_isStronger_38 rfl (fun c38 => ?_) (fun c38 => ?_)
        · skip
          refine g_iconst C (nI 1) ic_1 dX8_isStronger_49 ?_
          refine g_goto C 54 dX8_isStronger_50 rfl ?_
          refine g_st [.int (bI (decide (3 < a % 8 ∨ a % 8 = w % 8)))] (congrArg (fun z => [Value.int z]) (by first | (rw [decide_eq_true (by omega)]; rfl) | (rw [decide_eq_false (by omega)]; rfl))) ?_
          refine g_istore C [(5, .int (bI (decide (3 < a % 8 ∨ a % 8 = w % 8)))), (0, .int (nI a)), (1, .int (nI w)), (2, .int (nI ((a / 8) % 8))), (3, .int (nI (a % 8))), (4, .int (bI (decide (a / 8 % 8 = 4 ∨ a / 8 % 8 = w / 8 % 8))))] dX8_isStronger_54 (by decide) rfl ?_
          refine g_lo [1, 2, 3, 4, 5, 0] [(0, .int (nI a)), (1, .int (nI w)), (2, .int (nI ((a / 8) % 8))), (3, .int (nI (a % 8))), (4, .int (bI (decide (a / 8 % 8 = 4 ∨ a / 8 % 8 = w / 8 % 8)))), (5, .int (bI (decide (3 < a % 8 ∨ a % 8 = w % 8))))] rfl ?_
          have L56 : gW pg l en r_X8_isStronger s0 mi ag bl mth cd 7 D AA HH QQ 56 [(0, .int (nI a)), (1, .int (nI w)), (2, .int (nI ((a / 8) % 8))), (3, .int (nI (a % 8))), (4, .int (bI (decide (a / 8 % 8 = 4 ∨ a / 8 % 8 = w / 8 % 8)))), (5, .int (bI (decide (3 < a % 8 ∨ a % 8 = w % 8))))] [] [] 0 0 := by
            skip
            refine g_iload_n C 2 rfl dX8_isStronger_56 ?_
            refine g_iconst C (nI 4) ic_4 dX8_isStronger_57 ?_
            refine g_icmp_neN C ((a / 8) % 8) 4 80 rfl rfl (by omega) (by omega) dX8_isStronger_58 rfl (fun c58 => ?_) (fun c58 => ?_)
            · skip
              refine g_iconst C (nI 1) ic_1 dX8_isStronger_80 ?_
              refine g_goto C 85 dX8_isStronger_81 rfl ?_
              refine g_st [.int (bI (decide (a / 8 % 8 ≠ 4 ∨ a % 8 ≠ 4 ∨ w / 8 % 8 = w % 8)))] (congrArg (fun z => [Value.int z]) (by first | (rw [decide_eq_true (by omega)]; rfl) | (rw [decide_eq_false (by omega)]; rfl))) ?_
              refine g_istore C [(6, .int (bI (decide (a / 8 % 8 ≠ 4 ∨ a % 8 ≠ 4 ∨ w / 8 % 8 = w % 8)))), (0, .int (nI a)), (1, .int (nI w)), (2, .int (nI ((a / 8) % 8))), (3, .int (nI (a % 8))), (4, .int (bI (decide (a / 8 % 8 = 4 ∨ a / 8 % 8 = w / 8 % 8)))), (5, .int (bI (decide (3 < a % 8 ∨ a % 8 = w % 8))))] dX8_isStronger_85 (by decide) rfl ?_
              refine g_lo [1, 2, 3, 4, 5, 6, 0] [(0, .int (nI a)), (1, .int (nI w)), (2, .int (nI ((a / 8) % 8))), (3, .int (nI (a % 8))), (4, .int (bI (decide (a / 8 % 8 = 4 ∨ a / 8 % 8 = w / 8 % 8)))), (5, .int (bI (decide (3 < a % 8 ∨ a % 8 = w % 8)))), (6, .int (bI (decide (a / 8 % 8 ≠ 4 ∨ a % 8 ≠ 4 ∨ w / 8 % 8 = w % 8))))] rfl ?_
              have L87 : gW pg l en r_X8_isStronger s0 mi ag bl mth cd 7 D AA HH QQ 87 [(0, .int (nI a)), (1, .int (nI w)), (2, .int (nI ((a / 8) % 8))), (3, .int (nI (a % 8))), (4, .int (bI (decide (a / 8 % 8 = 4 ∨ a / 8 % 8 = w / 8 % 8)))), (5, .int (bI (decide (3 < a % 8 ∨ a % 8 = w % 8)))), (6, .int (bI (decide (a / 8 % 8 ≠ 4 ∨ a % 8 ≠ 4 ∨ w / 8 % 8 = w % 8))))] [] [] 0 0 := by
                skip
                refine g_iload_n C 0 rfl dX8_isStronger_87 ?_
                refine g_iload_n C 1 rfl dX8_isStronger_88 ?_
                refine g_icmp_eqN C a w 122 rfl rfl (by omega) (by omega) dX8_isStronger_89 rfl (fun c89 => ?_) (fun c89 => ?_)
                · skip
                  refine g_iconst C (nI 0) ic_0 dX8_isStronger_122 ?_
                  exact g_zret E false rfl dX8_isStronger_123 (by decide) (by decide) ⟨(congrArg (fun z => some (Value.int (bI z))) (by (try simp only [decide_eq_true_eq, decide_eq_false_iff_not] at c105); (try simp only [decide_eq_true_eq, decide_eq_false_iff_not] at c110); (try simp only [decide_eq_true_eq, decide_eq_false_iff_not] at c115); unfold spF; first | exact (decide_eq_true (by omega)).symm | exact (decide_eq_false (by omega)).symm)), rfl⟩
                · skip
                  refine g_iload_n C 0 rfl dX8_isStronger_92 ?_
                  refine g_bipush C (nI 64) bp_64 dX8_isStronger_93 ?_
                  refine g_idiv C (nI (a / 64)) (by decide +kernel) dX8_isStronger_95 (pk_div (by omega) (by omega) (by omega)) ?_
                  refine g_iload_n C 1 rfl dX8_isStronger_96 ?_
                  refine g_bipush C (nI 64) bp_64 dX8_isStronger_97 ?_
                  refine g_idiv C (nI (w / 64)) (by decide +kernel) dX8_isStronger_99 (pk_div (by omega) (by omega) (by omega)) ?_
                  refine g_icmp_neN C (a / 64) (w / 64) 122 rfl rfl (by omega) (by omega) dX8_isStronger_100 rfl (fun c100 => ?_) (fun c100 => ?_)
                  · skip
                    refine g_iconst C (nI 0) ic_0 dX8_isStronger_122 ?_
                    exact g_zret E false rfl dX8_isStronger_123 (by decide) (by decide) ⟨(congrArg (fun z => some (Value.int (bI z))) (by (try simp only [decide_eq_true_eq, decide_eq_false_iff_not] at c105); (try simp only [decide_eq_true_eq, decide_eq_false_iff_not] at c110); (try simp only [decide_eq_true_eq, decide_eq_false_iff_not] at c115); unfold spF; first | exact (decide_eq_true (by omega)).symm | exact (decide_eq_false (by omega)).symm)), rfl⟩
                  · skip
                    refine g_iload C 4 rfl dX8_isStronger_103 ?_
                    refine g_if_eqB C (decide (a / 8 % 8 = 4 ∨ a / 8 % 8 = w / 8 % 8)) 122 rfl dX8_isStronger_105 rfl (fun c105 => ?_) (fun c105 => ?_)
                    · skip
                      refine g_iconst C (nI 0) ic_0 dX8_isStronger_122 ?_
                      exact g_zret E false rfl dX8_isStronger_123 (by decide) (by decide) ⟨(congrArg (fun z => some (Value.int (bI z))) (by (try simp only [decide_eq_true_eq, decide_eq_false_iff_not] at c105); (try simp only [decide_eq_true_eq, decide_eq_false_iff_not] at c110); (try simp only [decide_eq_true_eq, decide_eq_false_iff_not] at c115); unfold spF; first | exact (decide_eq_true (by omega)).symm | exact (decide_eq_false (by omega)).symm)), rfl⟩
                    · skip
                      refine g_iload C 5 rfl dX8_isStronger_108 ?_
                      refine g_if_eqB C (decide (3 < a % 8 ∨ a % 8 = w % 8)) 122 rfl dX8_isStronger_110 rfl (fun c110 => ?_) (fun c110 => ?_)
                      · skip
                        refine g_iconst C (nI 0) ic_0 dX8_isStronger_122 ?_
                        exact g_zret E false rfl dX8_isStronger_123 (by decide) (by decide) ⟨(congrArg (fun z => some (Value.int (bI z))) (by (try simp only [decide_eq_true_eq, decide_eq_false_iff_not] at c105); (try simp only [decide_eq_true_eq, decide_eq_false_iff_not] at c110); (try simp only [decide_eq_true_eq, decide_eq_false_iff_not] at c115); unfold spF; first | exact (decide_eq_true (by omega)).symm | exact (decide_eq_false (by omega)).symm)), rfl⟩
                      · skip
                        refine g_iload C 6 rfl dX8_isStronger_113 ?_
                        refine g_if_eqB C (decide (a / 8 % 8 ≠ 4 ∨ a % 8 ≠ 4 ∨ w / 8 % 8 = w % 8)) 122 rfl dX8_isStronger_115 rfl (fun c115 => ?_) (fun c115 => ?_)
                        · skip
                          refine g_iconst C (nI 0) ic_0 dX8_isStronger_122 ?_
                          exact g_zret E false rfl dX8_isStronger_123 (by decide) (by decide) ⟨(congrArg (fun z => some (Value.int (bI z))) (by (try simp only [decide_eq_true_eq, decide_eq_false_iff_not] at c105); (try simp only [decide_eq_true_eq, decide_eq_false_iff_not] at c110); (try simp only [decide_eq_true_eq, decide_eq_false_iff_not] at c115); unfold spF; first | exact (decide_eq_true (by omega)).symm | exact (decide_eq_false (by omega)).symm)), rfl⟩
                        · skip
                          refine g_iconst C (nI 1) ic_1 dX8_isStronger_118 ?_
                          refine g_goto C 123 dX8_isStronger_119 rfl ?_
                          exact g_zret E true rfl dX8_isStronger_123 (by decide) (by decide) ⟨(congrArg (fun z => some (Value.int (bI z))) (by (try simp only [decide_eq_true_eq, decide_eq_false_iff_not] at c105); (try simp only [decide_eq_true_eq, decide_eq_false_iff_not] at c110); (try simp only [decide_eq_true_eq, decide_eq_false_iff_not] at c115); unfold spF; first | exact (decide_eq_true (by omega)).symm | exact (decide_eq_false (by omega)).symm)), rfl⟩
              exact L87  
            · skip
              refine g_iload_n C 3 rfl dX8_isStronger_61 ?_
              refine g_iconst C (nI 4) ic_4 dX8_isStronger_62 ?_
              refine g_icmp_neN C (a % 8) 4 80 rfl rfl (by omega) (by omega) dX8_isStronger_63 rfl (fun c63 => ?_) (fun c63 => ?_)
              · skip
                refine g_iconst C (nI 1) ic_1 dX8_isStronger_80 ?_
                refine g_goto C 85 dX8_isStronger_81 rfl ?_
                refine g_st [.int (bI (decide (a / 8 % 8 ≠ 4 ∨ a % 8 ≠ 4 ∨ w / 8 % 8 = w % 8)))] (congrArg (fun z => [Value.int z]) (by first | (rw [decide_eq_true (by omega)]; rfl) | (rw [decide_eq_false (by omega)]; rfl))) ?_
                refine g_istore C [(6, .int (bI (decide (a / 8 % 8 ≠ 4 ∨ a % 8 ≠ 4 ∨ w / 8 % 8 = w % 8)))), (0, .int (nI a)), (1, .int (nI w)), (2, .int (nI ((a / 8) % 8))), (3, .int (nI (a % 8))), (4, .int (bI (decide (a / 8 % 8 = 4 ∨ a / 8 % 8 = w / 8 % 8)))), (5, .int (bI (decide (3 < a % 8 ∨ a % 8 = w % 8))))] dX8_isStronger_85 (by decide) rfl ?_
                refine g_lo [1, 2, 3, 4, 5, 6, 0] [(0, .int (nI a)), (1, .int (nI w)), (2, .int (nI ((a / 8) % 8))), (3, .int (nI (a % 8))), (4, .int (bI (decide (a / 8 % 8 = 4 ∨ a / 8 % 8 = w / 8 % 8)))), (5, .int (bI (decide (3 < a % 8 ∨ a % 8 = w % 8)))), (6, .int (bI (decide (a / 8 % 8 ≠ 4 ∨ a % 8 ≠ 4 ∨ w / 8 % 8 = w % 8))))] rfl ?_
                have L87 : gW pg l en r_X8_isStronger s0 mi ag bl mth cd 7 D AA HH QQ 87 [(0, .int (nI a)), (1, .int (nI w)), (2, .int (nI ((a / 8) % 8))), (3, .int (nI (a % 8))), (4, .int (bI (decide (a / 8 % 8 = 4 ∨ a / 8 % 8 = w / 8 % 8)))), (5, .int (bI (decide (3 < a % 8 ∨ a % 8 = w % 8)))), (6, .int (bI (decide (a / 8 % 8 ≠ 4 ∨ a % 8 ≠ 4 ∨ w / 8 % 8 = w % 8))))] [] [] 0 0 := by
                  skip
                  refine g_iload_n C 0 rfl dX8_isStronger_87 ?_
                  refine g_iload_n C 1 rfl dX8_isStronger_88 ?_
                  refine g_icmp_eqN C a w 122 rfl rfl (by omega) (by omega) dX8_isStronger_89 rfl (fun c89 => ?_) (fun c89 => ?_)
                  · skip
                    refine g_iconst C (nI 0) ic_0 dX8_isStronger_122 ?_
                    exact g_zret E false rfl dX8_isStronger_123 (by decide) (by decide) ⟨(congrArg (fun z => some (Value.int (bI z))) (by (try simp only [decide_eq_true_eq, decide_eq_false_iff_not] at c105); (try simp only [decide_eq_true_eq, decide_eq_false_iff_not] at c110); (try simp only [decide_eq_true_eq, decide_eq_false_iff_not] at c115); unfold spF; first | exact (decide_eq_true (by omega)).symm | exact (decide_eq_false (by omega)).symm)), rfl⟩
                  · skip
                    refine g_iload_n C 0 rfl dX8_isStronger_92 ?_
                    refine g_bipush C (nI 64) bp_64 dX8_isStronger_93 ?_
                    refine g_idiv C (nI (a / 64)) (by decide +kernel) dX8_isStronger_95 (pk_div (by omega) (by omega) (by omega)) ?_
                    refine g_iload_n C 1 rfl dX8_isStronger_96 ?_
                    refine g_bipush C (nI 64) bp_64 dX8_isStronger_97 ?_
                    refine g_idiv C (nI (w / 64)) (by decide +kernel) dX8_isStronger_99 (pk_div (by omega) (by omega) (by omega)) ?_
                    refine g_icmp_neN C (a / 64) (w / 64) 122 rfl rfl (by omega) (by omega) dX8_isStronger_100 rfl (fun c100 => ?_) (fun c100 => ?_)
                    · skip
                      refine g_iconst C (nI 0) ic_0 dX8_isStronger_122 ?_
                      exact g_zret E false rfl dX8_isStronger_123 (by decide) (by decide) ⟨(congrArg (fun z => some (Value.int (bI z))) (by (try simp only [decide_eq_true_eq, decide_eq_false_iff_not] at c105); (try simp only [decide_eq_true_eq, decide_eq_false_iff_not] at c110); (try simp only [decide_eq_true_eq, decide_eq_false_iff_not] at c115); unfold spF; first | exact (decide_eq_true (by omega)).symm | exact (decide_eq_false (by omega)).symm)), rfl⟩
                    · skip
                      refine g_iload C 4 rfl dX8_isStronger_103 ?_
                      refine g_if_eqB C (decide (a / 8 % 8 = 4 ∨ a / 8 % 8 = w / 8 % 8)) 122 rfl dX8_isStronger_105 rfl (fun c105 => ?_) (fun c105 => ?_)
                      · skip
                        refine g_iconst C (nI 0) ic_0 dX8_isStronger_122 ?_
                        exact g_zret E false rfl dX8_isStronger_123 (by decide) (by decide) ⟨(congrArg (fun z => some (Value.int (bI z))) (by (try simp only [decide_eq_true_eq, decide_eq_false_iff_not] at c105); (try simp only [decide_eq_true_eq, decide_eq_false_iff_not] at c110); (try simp only [decide_eq_true_eq, decide_eq_false_iff_not] at c115); unfold spF; first | exact (decide_eq_true (by omega)).symm | exact (decide_eq_false (by omega)).symm)), rfl⟩
                      · skip
                        refine g_iload C 5 rfl dX8_isStronger_108 ?_
                        refine g_if_eqB C (decide (3 < a % 8 ∨ a % 8 = w % 8)) 122 rfl dX8_isStronger_110 rfl (fun c110 => ?_) (fun c110 => ?_)
                        · skip
                          refine g_iconst C (nI 0) ic_0 dX8_isStronger_122 ?_
                          exact g_zret E false rfl dX8_isStronger_123 (by decide) (by decide) ⟨(congrArg (fun z => some (Value.int (bI z))) (by (try simp only [decide_eq_true_eq, decide_eq_false_iff_not] at c105); (try simp only [decide_eq_true_eq, decide_eq_false_iff_not] at c110); (try simp only [decide_eq_true_eq, decide_eq_false_iff_not] at c115); unfold spF; first | exact (decide_eq_true (by omega)).symm | exact (decide_eq_false (by omega)).symm)), rfl⟩
                        · skip
                          refine g_iload C 6 rfl dX8_isStronger_113 ?_
                          refine g_if_eqB C (decide (a / 8 % 8 ≠ 4 ∨ a % 8 ≠ 4 ∨ w / 8 % 8 = w % 8)) 122 rfl dX8_isStronger_115 rfl (fun c115 => ?_) (fun c115 => ?_)
                          · skip
                            refine g_iconst C (nI 0) ic_0 dX8_isStronger_122 ?_
                            exact g_zret E false rfl dX8_isStronger_123 (by decide) (by decide) ⟨(congrArg (fun z => some (Value.int (bI z))) (by (try simp only [decide_eq_true_eq, decide_eq_false_iff_not] at c105); (try simp only [decide_eq_true_eq, decide_eq_false_iff_not] at c110); (try simp only [decide_eq_true_eq, decide_eq_false_iff_not] at c115); unfold spF; first | exact (decide_eq_true (by omega)).symm | exact (decide_eq_false (by omega)).symm)), rfl⟩
                          · skip
                            refine g_iconst C (nI 1) ic_1 dX8_isStronger_118 ?_
                            refine g_goto C 123 dX8_isStronger_119 rfl ?_
                            exact g_zret E true rfl dX8_isStronger_123 (by decide) (by decide) ⟨(congrArg (fun z => some (Value.int (bI z))) (by (try simp only [decide_eq_true_eq, decide_eq_false_iff_not] at c105); (try simp only [decide_eq_true_eq, decide_eq_false_iff_not] at c110); (try simp only [decide_eq_true_eq, decide_eq_false_iff_not] at c115); unfold spF; first | exact (decide_eq_true (by omega)).symm | exact (decide_eq_false (by omega)).symm)), rfl⟩
                exact L87  
              · skip
                refine g_iload_n C 1 rfl dX8_isStronger_66 ?_
                refine g_bipush C (nI 8) bp_8 dX8_isStronger_67 ?_
                refine g_idiv C (nI (w / 8)) (by decide +kernel) dX8_isStronger_69 (pk_div (by omega) (by omega) (by omega)) ?_
                refine g_bipush C (nI 8) bp_8 dX8_isStronger_70 ?_
                refine g_irem C (nI ((w / 8) % 8)) (by decide +kernel) dX8_isStronger_72 (pk_rem (by omega) (by omega) (by omega)) ?_
                refine g_iload_n C 1 rfl dX8_isStronger_73 ?_
                refine g_bipush C (nI 8) bp_8 dX8_isStronger_74 ?_
                refine g_irem C (nI (w % 8)) (by decide +kernel) dX8_isStronger_76 (pk_rem (by omega) (by omega) (by omega)) ?_
                refine g_icmp_neN C ((w / 8) % 8) (w % 8) 84 rfl rfl (by omega) (by omega) dX8_isStronger_77 rfl (fun c77 => ?_) (fun c77 => ?_)
                · skip
                  refine g_iconst C (nI 0) ic_0 dX8_isStronger_84 ?_
                  refine g_st [.int (bI (decide (a / 8 % 8 ≠ 4 ∨ a % 8 ≠ 4 ∨ w / 8 % 8 = w % 8)))] (congrArg (fun z => [Value.int z]) (by first | (rw [decide_eq_true (by omega)]; rfl) | (rw [decide_eq_false (by omega)]; rfl))) ?_
                  refine g_istore C [(6, .int (bI (decide (a / 8 % 8 ≠ 4 ∨ a % 8 ≠ 4 ∨ w / 8 % 8 = w % 8)))), (0, .int (nI a)), (1, .int (nI w)), (2, .int (nI ((a / 8) % 8))), (3, .int (nI (a % 8))), (4, .int (bI (decide (a / 8 % 8 = 4 ∨ a / 8 % 8 = w / 8 % 8)))), (5, .int (bI (decide (3 < a % 8 ∨ a % 8 = w % 8))))] dX8_isStronger_85 (by decide) rfl ?_
                  refine g_lo [1, 2, 3, 4, 5, 6, 0] [(0, .int (nI a)), (1, .int (nI w)), (2, .int (nI ((a / 8) % 8))), (3, .int (nI (a % 8))), (4, .int (bI (decide (a / 8 % 8 = 4 ∨ a / 8 % 8 = w / 8 % 8)))), (5, .int (bI (decide (3 < a % 8 ∨ a % 8 = w % 8)))), (6, .int (bI (decide (a / 8 % 8 ≠ 4 ∨ a % 8 ≠ 4 ∨ w / 8 % 8 = w % 8))))] rfl ?_
                  have L87 : gW pg l en r_X8_isStronger s0 mi ag bl mth cd 7 D AA HH QQ 87 [(0, .int (nI a)), (1, .int (nI w)), (2, .int (nI ((a / 8) % 8))), (3, .int (nI (a % 8))), (4, .int (bI (decide (a / 8 % 8 = 4 ∨ a / 8 % 8 = w / 8 % 8)))), (5, .int (bI (decide (3 < a % 8 ∨ a % 8 = w % 8)))), (6, .int (bI (decide (a / 8 % 8 ≠ 4 ∨ a % 8 ≠ 4 ∨ w / 8 % 8 = w % 8))))] [] [] 0 0 := by
                    skip
                    refine g_iload_n C 0 rfl dX8_isStronger_87 ?_
                    refine g_iload_n C 1 rfl dX8_isStronger_88 ?_
                    refine g_icmp_eqN C a w 122 rfl rfl (by omega) (by omega) dX8_isStronger_89 rfl (fun c89 => ?_) (fun c89 => ?_)
                    · skip
                      refine g_iconst C (nI 0) ic_0 dX8_isStronger_122 ?_
                      exact g_zret E false rfl dX8_isStronger_123 (by decide) (by decide) ⟨(congrArg (fun z => some (Value.int (bI z))) (by (try simp only [decide_eq_true_eq, decide_eq_false_iff_not] at c105); (try simp only [decide_eq_true_eq, decide_eq_false_iff_not] at c110); (try simp only [decide_eq_true_eq, decide_eq_false_iff_not] at c115); unfold spF; first | exact (decide_eq_true (by omega)).symm | exact (decide_eq_false (by omega)).symm)), rfl⟩
                    · skip
                      refine g_iload_n C 0 rfl dX8_isStronger_92 ?_
                      refine g_bipush C (nI 64) bp_64 dX8_isStronger_93 ?_
                      refine g_idiv C (nI (a / 64)) (by decide +kernel) dX8_isStronger_95 (pk_div (by omega) (by omega) (by omega)) ?_
                      refine g_iload_n C 1 rfl dX8_isStronger_96 ?_
                      refine g_bipush C (nI 64) bp_64 dX8_isStronger_97 ?_
                      refine g_idiv C (nI (w / 64)) (by decide +kernel) dX8_isStronger_99 (pk_div (by omega) (by omega) (by omega)) ?_
                      refine g_icmp_neN C (a / 64) (w / 64) 122 rfl rfl (by omega) (by omega) dX8_isStronger_100 rfl (fun c100 => ?_) (fun c100 => ?_)
                      · skip
                        refine g_iconst C (nI 0) ic_0 dX8_isStronger_122 ?_
                        exact g_zret E false rfl dX8_isStronger_123 (by decide) (by decide) ⟨(congrArg (fun z => some (Value.int (bI z))) (by (try simp only [decide_eq_true_eq, decide_eq_false_iff_not] at c105); (try simp only [decide_eq_true_eq, decide_eq_false_iff_not] at c110); (try simp only [decide_eq_true_eq, decide_eq_false_iff_not] at c115); unfold spF; first | exact (decide_eq_true (by omega)).symm | exact (decide_eq_false (by omega)).symm)), rfl⟩
                      · skip
                        refine g_iload C 4 rfl dX8_isStronger_103 ?_
                        refine g_if_eqB C (decide (a / 8 % 8 = 4 ∨ a / 8 % 8 = w / 8 % 8)) 122 rfl dX8_isStronger_105 rfl (fun c105 => ?_) (fun c105 => ?_)
                        · skip
                          refine g_iconst C (nI 0) ic_0 dX8_isStronger_122 ?_
                          exact g_zret E false rfl dX8_isStronger_123 (by decide) (by decide) ⟨(congrArg (fun z => some (Value.int (bI z))) (by (try simp only [decide_eq_true_eq, decide_eq_false_iff_not] at c105); (try simp only [decide_eq_true_eq, decide_eq_false_iff_not] at c110); (try simp only [decide_eq_true_eq, decide_eq_false_iff_not] at c115); unfold spF; first | exact (decide_eq_true (by omega)).symm | exact (decide_eq_false (by omega)).symm)), rfl⟩
                        · skip
                          refine g_iload C 5 rfl dX8_isStronger_108 ?_
                          refine g_if_eqB C (decide (3 < a % 8 ∨ a % 8 = w % 8)) 122 rfl dX8_isStronger_110 rfl (fun c110 => ?_) (fun c110 => ?_)
                          · skip
                            refine g_iconst C (nI 0) ic_0 dX8_isStronger_122 ?_
                            exact g_zret E false rfl dX8_isStronger_123 (by decide) (by decide) ⟨(congrArg (fun z => some (Value.int (bI z))) (by (try simp only [decide_eq_true_eq, decide_eq_false_iff_not] at c105); (try simp only [decide_eq_true_eq, decide_eq_false_iff_not] at c110); (try simp only [decide_eq_true_eq, decide_eq_false_iff_not] at c115); unfold spF; first | exact (decide_eq_true (by omega)).symm | exact (decide_eq_false (by omega)).symm)), rfl⟩
                          · skip
                            refine g_iload C 6 rfl dX8_isStronger_113 ?_
                            refine g_if_eqB C (decide (a / 8 % 8 ≠ 4 ∨ a % 8 ≠ 4 ∨ w / 8 % 8 = w % 8)) 122 rfl dX8_isStronger_115 rfl (fun c115 => ?_) (fun c115 => ?_)
                            · skip
                              refine g_iconst C (nI 0) ic_0 dX8_isStronger_122 ?_
                              exact g_zret E false rfl dX8_isStronger_123 (by decide) (by decide) ⟨(congrArg (fun z => some (Value.int (bI z))) (by (try simp only [decide_eq_true_eq, decide_eq_false_iff_not] at c105); (try simp only [decide_eq_true_eq, decide_eq_false_iff_not] at c110); (try simp only [decide_eq_true_eq, decide_eq_false_iff_not] at c115); unfold spF; first | exact (decide_eq_true (by omega)).symm | exact (decide_eq_false (by omega)).symm)), rfl⟩
                            · skip
                              refine g_iconst C (nI 1) ic_1 dX8_isStronger_118 ?_
                              refine g_goto C 123 dX8_isStronger_119 rfl ?_
                              exact g_zret E true rfl dX8_isStronger_123 (by decide) (by decide) ⟨(congrArg (fun z => some (Value.int (bI z))) (by (try simp only [decide_eq_true_eq, decide_eq_false_iff_not] at c105); (try simp only [decide_eq_true_eq, decide_eq_false_iff_not] at c110); (try simp only [decide_eq_true_eq, decide_eq_false_iff_not] at c115); unfold spF; first | exact (decide_eq_true (by omega)).symm | exact (decide_eq_false (by omega)).symm)), rfl⟩
                  exact L87  
                · skip
                  refine g_iconst C (nI 1) ic_1 dX8_isStronger_80 ?_
                  refine g_goto C 85 dX8_isStronger_81 rfl ?_
                  refine g_st [.int (bI (decide (a / 8 % 8 ≠ 4 ∨ a % 8 ≠ 4 ∨ w / 8 % 8 = w % 8)))] (congrArg (fun z => [Value.int z]) (by first | (rw [decide_eq_true (by omega)]; rfl) | (rw [decide_eq_false (by omega)]; rfl))) ?_
                  refine g_istore C [(6, .int (bI (decide (a / 8 % 8 ≠ 4 ∨ a % 8 ≠ 4 ∨ w / 8 % 8 = w % 8)))), (0, .int (nI a)), (1, .int (nI w)), (2, .int (nI ((a / 8) % 8))), (3, .int (nI (a % 8))), (4, .int (bI (decide (a / 8 % 8 = 4 ∨ a / 8 % 8 = w / 8 % 8)))), (5, .int (bI (decide (3 < a % 8 ∨ a % 8 = w % 8))))] dX8_isStronger_85 (by decide) rfl ?_
                  refine g_lo [1, 2, 3, 4, 5, 6, 0] [(0, .int (nI a)), (1, .int (nI w)), (2, .int (nI ((a / 8) % 8))), (3, .int (nI (a % 8))), (4, .int (bI (decide (a / 8 % 8 = 4 ∨ a / 8 % 8 = w / 8 % 8)))), (5, .int (bI (decide (3 < a % 8 ∨ a % 8 = w % 8)))), (6, .int (bI (decide (a / 8 % 8 ≠ 4 ∨ a % 8 ≠ 4 ∨ w / 8 % 8 = w % 8))))] rfl ?_
                  have L87 : gW pg l en r_X8_isStronger s0 mi ag bl mth cd 7 D AA HH QQ 87 [(0, .int (nI a)), (1, .int (nI w)), (2, .int (nI ((a / 8) % 8))), (3, .int (nI (a % 8))), (4, .int (bI (decide (a / 8 % 8 = 4 ∨ a / 8 % 8 = w / 8 % 8)))), (5, .int (bI (decide (3 < a % 8 ∨ a % 8 = w % 8)))), (6, .int (bI (decide (a / 8 % 8 ≠ 4 ∨ a % 8 ≠ 4 ∨ w / 8 % 8 = w % 8))))] [] [] 0 0 := by
                    skip
                    refine g_iload_n C 0 rfl dX8_isStronger_87 ?_
                    refine g_iload_n C 1 rfl dX8_isStronger_88 ?_
                    refine g_icmp_eqN C a w 122 rfl rfl (by omega) (by omega) dX8_isStronger_89 rfl (fun c89 => ?_) (fun c89 => ?_)
                    · skip
                      refine g_iconst C (nI 0) ic_0 dX8_isStronger_122 ?_
                      exact g_zret E false rfl dX8_isStronger_123 (by decide) (by decide) ⟨(congrArg (fun z => some (Value.int (bI z))) (by (try simp only [decide_eq_true_eq, decide_eq_false_iff_not] at c105); (try simp only [decide_eq_true_eq, decide_eq_false_iff_not] at c110); (try simp only [decide_eq_true_eq, decide_eq_false_iff_not] at c115); unfold spF; first | exact (decide_eq_true (by omega)).symm | exact (decide_eq_false (by omega)).symm)), rfl⟩
                    · skip
                      refine g_iload_n C 0 rfl dX8_isStronger_92 ?_
                      refine g_bipush C (nI 64) bp_64 dX8_isStronger_93 ?_
                      refine g_idiv C (nI (a / 64)) (by decide +kernel) dX8_isStronger_95 (pk_div (by omega) (by omega) (by omega)) ?_
                      refine g_iload_n C 1 rfl dX8_isStronger_96 ?_
                      refine g_bipush C (nI 64) bp_64 dX8_isStronger_97 ?_
                      refine g_idiv C (nI (w / 64)) (by decide +kernel) dX8_isStronger_99 (pk_div (by omega) (by omega) (by omega)) ?_
                      refine g_icmp_neN C (a / 64) (w / 64) 122 rfl rfl (by omega) (by omega) dX8_isStronger_100 rfl (fun c100 => ?_) (fun c100 => ?_)
                      · skip
                        refine g_iconst C (nI 0) ic_0 dX8_isStronger_122 ?_
                        exact g_zret E false rfl dX8_isStronger_123 (by decide) (by decide) ⟨(congrArg (fun z => some (Value.int (bI z))) (by (try simp only [decide_eq_true_eq, decide_eq_false_iff_not] at c105); (try simp only [decide_eq_true_eq, decide_eq_false_iff_not] at c110); (try simp only [decide_eq_true_eq, decide_eq_false_iff_not] at c115); unfold spF; first | exact (decide_eq_true (by omega)).symm | exact (decide_eq_false (by omega)).symm)), rfl⟩
                      · skip
                        refine g_iload C 4 rfl dX8_isStronger_103 ?_
                        refine g_if_eqB C (decide (a / 8 % 8 = 4 ∨ a / 8 % 8 = w / 8 % 8)) 122 rfl dX8_isStronger_105 rfl (fun c105 => ?_) (fun c105 => ?_)
                        · skip
                          refine g_iconst C (nI 0) ic_0 dX8_isStronger_122 ?_
                          exact g_zret E false rfl dX8_isStronger_123 (by decide) (by decide) ⟨(congrArg (fun z => some (Value.int (bI z))) (by (try simp only [decide_eq_true_eq, decide_eq_false_iff_not] at c105); (try simp only [decide_eq_true_eq, decide_eq_false_iff_not] at c110); (try simp only [decide_eq_true_eq, decide_eq_false_iff_not] at c115); unfold spF; first | exact (decide_eq_true (by omega)).symm | exact (decide_eq_false (by omega)).symm)), rfl⟩
                        · skip
                          refine g_iload C 5 rfl dX8_isStronger_108 ?_
                          refine g_if_eqB C (decide (3 < a % 8 ∨ a % 8 = w % 8)) 122 rfl dX8_isStronger_110 rfl (fun c110 => ?_) (fun c110 => ?_)
                          · skip
                            refine g_iconst C (nI 0) ic_0 dX8_isStronger_122 ?_
                            exact g_zret E false rfl dX8_isStronger_123 (by decide) (by decide) ⟨(congrArg (fun z => some (Value.int (bI z))) (by (try simp only [decide_eq_true_eq, decide_eq_false_iff_not] at c105); (try simp only [decide_eq_true_eq, decide_eq_false_iff_not] at c110); (try simp only [decide_eq_true_eq, decide_eq_false_iff_not] at c115); unfold spF; first | exact (decide_eq_true (by omega)).symm | exact (decide_eq_false (by omega)).symm)), rfl⟩
                          · skip
                            refine g_iload C 6 rfl dX8_isStronger_113 ?_
                            refine g_if_eqB C (decide (a / 8 % 8 ≠ 4 ∨ a % 8 ≠ 4 ∨ w / 8 % 8 = w % 8)) 122 rfl dX8_isStronger_115 rfl (fun c115 => ?_) (fun c115 => ?_)
                            · skip
                              refine g_iconst C (nI 0) ic_0 dX8_isStronger_122 ?_
                              exact g_zret E false rfl dX8_isStronger_123 (by decide) (by decide) ⟨(congrArg (fun z => some (Value.int (bI z))) (by (try simp only [decide_eq_true_eq, decide_eq_false_iff_not] at c105); (try simp only [decide_eq_true_eq, decide_eq_false_iff_not] at c110); (try simp only [decide_eq_true_eq, decide_eq_false_iff_not] at c115); unfold spF; first | exact (decide_eq_true (by omega)).symm | exact (decide_eq_false (by omega)).symm)), rfl⟩
                            · skip
                              refine g_iconst C (nI 1) ic_1 dX8_isStronger_118 ?_
                              refine g_goto C 123 dX8_isStronger_119 rfl ?_
                              exact g_zret E true rfl dX8_isStronger_123 (by decide) (by decide) ⟨(congrArg (fun z => some (Value.int (bI z))) (by (try simp only [decide_eq_true_eq, decide_eq_false_iff_not] at c105); (try simp only [decide_eq_true_eq, decide_eq_false_iff_not] at c110); (try simp only [decide_eq_true_eq, decide_eq_false_iff_not] at c115); unfold spF; first | exact (decide_eq_true (by omega)).symm | exact (decide_eq_false (by omega)).symm)), rfl⟩
                  exact L87  
          exact L56  
        · skip
          refine g_iload_n C 3 rfl dX8_isStronger_41 ?_
          refine g_iload_n C 1 rfl dX8_isStronger_42 ?_
          refine g_bipush C (nI 8) bp_8 dX8_isStronger_43 ?_
          refine g_irem C (nI (w % 8)) (by decide +kernel) dX8_isStronger_45 (pk_rem (by omega) (by omega) (by omega)) ?_
          refine g_icmp_neN C (a % 8) (w % 8) 53 rfl rfl (by omega) (by omega) dX8_isStronger_46 rfl (fun c46 => ?_) (fun c46 => ?_)
          · skip
            refine g_iconst C (nI 0) ic_0 dX8_isStronger_53 ?_
            refine g_st [.int (bI (decide (3 < a % 8 ∨ a % 8 = w % 8)))] (congrArg (fun z => [Value.int z]) (by first | (rw [decide_eq_true (by omega)]; rfl) | (rw [decide_eq_false (by omega)]; rfl))) ?_
            refine g_istore C [(5, .int (bI (decide (3 < a % 8 ∨ a % 8 = w % 8)))), (0, .int (nI a)), (1, .int (nI w)), (2, .int (nI ((a / 8) % 8))), (3, .int (nI (a % 8))), (4, .int (bI (decide (a / 8 % 8 = 4 ∨ a / 8 % 8 = w / 8 % 8))))] dX8_isStronger_54 (by decide) rfl ?_
            refine g_lo [1, 2, 3, 4, 5, 0] [(0, .int (nI a)), (1, .int (nI w)), (2, .int (nI ((a / 8) % 8))), (3, .int (nI (a % 8))), (4, .int (bI (decide (a / 8 % 8 = 4 ∨ a / 8 % 8 = w / 8 % 8)))), (5, .int (bI (decide (3 < a % 8 ∨ a % 8 = w % 8))))] rfl ?_
            have L56 : gW pg l en r_X8_isStronger s0 mi ag bl mth cd 7 D AA HH QQ 56 [(0, .int (nI a)), (1, .int (nI w)), (2, .int (nI ((a / 8) % 8))), (3, .int (nI (a % 8))), (4, .int (bI (decide (a / 8 % 8 = 4 ∨ a / 8 % 8 = w / 8 % 8)))), (5, .int (bI (decide (3 < a % 8 ∨ a % 8 = w % 8))))] [] [] 0 0 := by
              skip
              refine g_iload_n C 2 rfl dX8_isStronger_56 ?_
              refine g_iconst C (nI 4) ic_4 dX8_isStronger_57 ?_
              refine g_icmp_neN C ((a / 8) % 8) 4 80 rfl rfl (by omega) (by omega) dX8_isStronger_58 rfl (fun c58 => ?_) (fun c58 => ?_)
              · skip
                refine g_iconst C (nI 1) ic_1 dX8_isStronger_80 ?_
                refine g_goto C 85 dX8_isStronger_81 rfl ?_
                refine g_st [.int (bI (decide (a / 8 % 8 ≠ 4 ∨ a % 8 ≠ 4 ∨ w / 8 % 8 = w % 8)))] (congrArg (fun z => [Value.int z]) (by first | (rw [decide_eq_true (by omega)]; rfl) | (rw [decide_eq_false (by omega)]; rfl))) ?_
                refine g_istore C [(6, .int (bI (decide (a / 8 % 8 ≠ 4 ∨ a % 8 ≠ 4 ∨ w / 8 % 8 = w % 8)))), (0, .int (nI a)), (1, .int (nI w)), (2, .int (nI ((a / 8) % 8))), (3, .int (nI (a % 8))), (4, .int (bI (decide (a / 8 % 8 = 4 ∨ a / 8 % 8 = w / 8 % 8)))), (5, .int (bI (decide (3 < a % 8 ∨ a % 8 = w % 8))))] dX8_isStronger_85 (by decide) rfl ?_
                refine g_lo [1, 2, 3, 4, 5, 6, 0] [(0, .int (nI a)), (1, .int (nI w)), (2, .int (nI ((a / 8) % 8))), (3, .int (nI (a % 8))), (4, .int (bI (decide (a / 8 % 8 = 4 ∨ a / 8 % 8 = w / 8 % 8)))), (5, .int (bI (decide (3 < a % 8 ∨ a % 8 = w % 8)))), (6, .int (bI (decide (a / 8 % 8 ≠ 4 ∨ a % 8 ≠ 4 ∨ w / 8 % 8 = w % 8))))] rfl ?_
                have L87 : gW pg l en r_X8_isStronger s0 mi ag bl mth cd 7 D AA HH QQ 87 [(0, .int (nI a)), (1, .int (nI w)), (2, .int (nI ((a / 8) % 8))), (3, .int (nI (a % 8))), (4, .int (bI (decide (a / 8 % 8 = 4 ∨ a / 8 % 8 = w / 8 % 8)))), (5, .int (bI (decide (3 < a % 8 ∨ a % 8 = w % 8)))), (6, .int (bI (decide (a / 8 % 8 ≠ 4 ∨ a % 8 ≠ 4 ∨ w / 8 % 8 = w % 8))))] [] [] 0 0 := by
                  skip
                  refine g_iload_n C 0 rfl dX8_isStronger_87 ?_
                  refine g_iload_n C 1 rfl dX8_isStronger_88 ?_
                  refine g_icmp_eqN C a w 122 rfl rfl (by omega) (by omega) dX8_isStronger_89 rfl (fun c89 => ?_) (fun c89 => ?_)
                  · skip
                    refine g_iconst C (nI 0) ic_0 dX8_isStronger_122 ?_
                    exact g_zret E false rfl dX8_isStronger_123 (by decide) (by decide) ⟨(congrArg (fun z => some (Value.int (bI z))) (by (try simp only [decide_eq_true_eq, decide_eq_false_iff_not] at c105); (try simp only [decide_eq_true_eq, decide_eq_false_iff_not] at c110); (try simp only [decide_eq_true_eq, decide_eq_false_iff_not] at c115); unfold spF; first | exact (decide_eq_true (by omega)).symm | exact (decide_eq_false (by omega)).symm)), rfl⟩
                  · skip
                    refine g_iload_n C 0 rfl dX8_isStronger_92 ?_
                    refine g_bipush C (nI 64) bp_64 dX8_isStronger_93 ?_
                    refine g_idiv C (nI (a / 64)) (by decide +kernel) dX8_isStronger_95 (pk_div (by omega) (by omega) (by omega)) ?_
                    refine g_iload_n C 1 rfl dX8_isStronger_96 ?_
                    refine g_bipush C (nI 64) bp_64 dX8_isStronger_97 ?_
                    refine g_idiv C (nI (w / 64)) (by decide +kernel) dX8_isStronger_99 (pk_div (by omega) (by omega) (by omega)) ?_
                    refine g_icmp_neN C (a / 64) (w / 64) 122 rfl rfl (by omega) (by omega) dX8_isStronger_100 rfl (fun c100 => ?_) (fun c100 => ?_)
                    · skip
                      refine g_iconst C (nI 0) ic_0 dX8_isStronger_122 ?_
                      exact g_zret E false rfl dX8_isStronger_123 (by decide) (by decide) ⟨(congrArg (fun z => some (Value.int (bI z))) (by (try simp only [decide_eq_true_eq, decide_eq_false_iff_not] at c105); (try simp only [decide_eq_true_eq, decide_eq_false_iff_not] at c110); (try simp only [decide_eq_true_eq, decide_eq_false_iff_not] at c115); unfold spF; first | exact (decide_eq_true (by omega)).symm | exact (decide_eq_false (by omega)).symm)), rfl⟩
                    · skip
                      refine g_iload C 4 rfl dX8_isStronger_103 ?_
                      refine g_if_eqB C (decide (a / 8 % 8 = 4 ∨ a / 8 % 8 = w / 8 % 8)) 122 rfl dX8_isStronger_105 rfl (fun c105 => ?_) (fun c105 => ?_)
                      · skip
                        refine g_iconst C (nI 0) ic_0 dX8_isStronger_122 ?_
                        exact g_zret E false rfl dX8_isStronger_123 (by decide) (by decide) ⟨(congrArg (fun z => some (Value.int (bI z))) (by (try simp only [decide_eq_true_eq, decide_eq_false_iff_not] at c105); (try simp only [decide_eq_true_eq, decide_eq_false_iff_not] at c110); (try simp only [decide_eq_true_eq, decide_eq_false_iff_not] at c115); unfold spF; first | exact (decide_eq_true (by omega)).symm | exact (decide_eq_false (by omega)).symm)), rfl⟩
                      · skip
                        refine g_iload C 5 rfl dX8_isStronger_108 ?_
                        refine g_if_eqB C (decide (3 < a % 8 ∨ a % 8 = w % 8)) 122 rfl dX8_isStronger_110 rfl (fun c110 => ?_) (fun c110 => ?_)
                        · skip
                          refine g_iconst C (nI 0) ic_0 dX8_isStronger_122 ?_
                          exact g_zret E false rfl dX8_isStronger_123 (by decide) (by decide) ⟨(congrArg (fun z => some (Value.int (bI z))) (by (try simp only [decide_eq_true_eq, decide_eq_false_iff_not] at c105); (try simp only [decide_eq_true_eq, decide_eq_false_iff_not] at c110); (try simp only [decide_eq_true_eq, decide_eq_false_iff_not] at c115); unfold spF; first | exact (decide_eq_true (by omega)).symm | exact (decide_eq_false (by omega)).symm)), rfl⟩
                        · skip
                          refine g_iload C 6 rfl dX8_isStronger_113 ?_
                          refine g_if_eqB C (decide (a / 8 % 8 ≠ 4 ∨ a % 8 ≠ 4 ∨ w / 8 % 8 = w % 8)) 122 rfl dX8_isStronger_115 rfl (fun c115 => ?_) (fun c115 => ?_)
                          · skip
                            refine g_iconst C (nI 0) ic_0 dX8_isStronger_122 ?_
                            exact g_zret E false rfl dX8_isStronger_123 (by decide) (by decide) ⟨(congrArg (fun z => some (Value.int (bI z))) (by (try simp only [decide_eq_true_eq, decide_eq_false_iff_not] at c105); (try simp only [decide_eq_true_eq, decide_eq_false_iff_not] at c110); (try simp only [decide_eq_true_eq, decide_eq_false_iff_not] at c115); unfold spF; first | exact (decide_eq_true (by omega)).symm | exact (decide_eq_false (by omega)).symm)), rfl⟩
                          · skip
                            refine g_iconst C (nI 1) ic_1 dX8_isStronger_118 ?_
                            refine g_goto C 123 dX8_isStronger_119 rfl ?_
                            exact g_zret E true rfl dX8_isStronger_123 (by decide) (by decide) ⟨(congrArg (fun z => some (Value.int (bI z))) (by (try simp only [decide_eq_true_eq, decide_eq_false_iff_not] at c105); (try simp only [decide_eq_true_eq, decide_eq_false_iff_not] at c110); (try simp only [decide_eq_true_eq, decide_eq_false_iff_not] at c115); unfold spF; first | exact (decide_eq_true (by omega)).symm | exact (decide_eq_false (by omega)).symm)), rfl⟩
                exact L87  
              · skip
                refine g_iload_n C 3 rfl dX8_isStronger_61 ?_
                refine g_iconst C (nI 4) ic_4 dX8_isStronger_62 ?_
                refine g_icmp_neN C (a % 8) 4 80 rfl rfl (by omega) (by omega) dX8_isStronger_63 rfl (fun c63 => ?_) (fun c63 => ?_)
                · skip
                  refine g_iconst C (nI 1) ic_1 dX8_isStronger_80 ?_
                  refine g_goto C 85 dX8_isStronger_81 rfl ?_
                  refine g_st [.int (bI (decide (a / 8 % 8 ≠ 4 ∨ a % 8 ≠ 4 ∨ w / 8 % 8 = w % 8)))] (congrArg (fun z => [Value.int z]) (by first | (rw [decide_eq_true (by omega)]; rfl) | (rw [decide_eq_false (by omega)]; rfl))) ?_
                  refine g_istore C [(6, .int (bI (decide (a / 8 % 8 ≠ 4 ∨ a % 8 ≠ 4 ∨ w / 8 % 8 = w % 8)))), (0, .int (nI a)), (1, .int (nI w)), (2, .int (nI ((a / 8) % 8))), (3, .int (nI (a % 8))), (4, .int (bI (decide (a / 8 % 8 = 4 ∨ a / 8 % 8 = w / 8 % 8)))), (5, .int (bI (decide (3 < a % 8 ∨ a % 8 = w % 8))))] dX8_isStronger_85 (by decide) rfl ?_
                  refine g_lo [1, 2, 3, 4, 5, 6, 0] [(0, .int (nI a)), (1, .int (nI w)), (2, .int (nI ((a / 8) % 8))), (3, .int (nI (a % 8))), (4, .int (bI (decide (a / 8 % 8 = 4 ∨ a / 8 % 8 = w / 8 % 8)))), (5, .int (bI (decide (3 < a % 8 ∨ a % 8 = w % 8)))), (6, .int (bI (decide (a / 8 % 8 ≠ 4 ∨ a % 8 ≠ 4 ∨ w / 8 % 8 = w % 8))))] rfl ?_
                  have L87 : gW pg l en r_X8_isStronger s0 mi ag bl mth cd 7 D AA HH QQ 87 [(0, .int (nI a)), (1, .int (nI w)), (2, .int (nI ((a / 8) % 8))), (3, .int (nI (a % 8))), (4, .int (bI (decide (a / 8 % 8 = 4 ∨ a / 8 % 8 = w / 8 % 8)))), (5, .int (bI (decide (3 < a % 8 ∨ a % 8 = w % 8)))), (6, .int (bI (decide (a / 8 % 8 ≠ 4 ∨ a % 8 ≠ 4 ∨ w / 8 % 8 = w % 8))))] [] [] 0 0 := by
                    skip
                    refine g_iload_n C 0 rfl dX8_isStronger_87 ?_
                    refine g_iload_n C 1 rfl dX8_isStronger_88 ?_
                    refine g_icmp_eqN C a w 122 rfl rfl (by omega) (by omega) dX8_isStronger_89 rfl (fun c89 => ?_) (fun c89 => ?_)
                    · skip
                      refine g_iconst C (nI 0) ic_0 dX8_isStronger_122 ?_
                      exact g_zret E false rfl dX8_isStronger_123 (by decide) (by decide) ⟨(congrArg (fun z => some (Value.int (bI z))) (by (try simp only [decide_eq_true_eq, decide_eq_false_iff_not] at c105); (try simp only [decide_eq_true_eq, decide_eq_false_iff_not] at c110); (try simp only [decide_eq_true_eq, decide_eq_false_iff_not] at c115); unfold spF; first | exact (decide_eq_true (by omega)).symm | exact (decide_eq_false (by omega)).symm)), rfl⟩
                    · skip
                      refine g_iload_n C 0 rfl dX8_isStronger_92 ?_
                      refine g_bipush C (nI 64) bp_64 dX8_isStronger_93 ?_
                      refine g_idiv C (nI (a / 64)) (by decide +kernel) dX8_isStronger_95 (pk_div (by omega) (by omega) (by omega)) ?_
                      refine g_iload_n C 1 rfl dX8_isStronger_96 ?_
                      refine g_bipush C (nI 64) bp_64 dX8_isStronger_97 ?_
                      refine g_idiv C (nI (w / 64)) (by decide +kernel) dX8_isStronger_99 (pk_div (by omega) (by omega) (by omega)) ?_
                      refine g_icmp_neN C (a / 64) (w / 64) 122 rfl rfl (by omega) (by omega) dX8_isStronger_100 rfl (fun c100 => ?_) (fun c100 => ?_)
                      · skip
                        refine g_iconst C (nI 0) ic_0 dX8_isStronger_122 ?_
                        exact g_zret E false rfl dX8_isStronger_123 (by decide) (by decide) ⟨(congrArg (fun z => some (Value.int (bI z))) (by (try simp only [decide_eq_true_eq, decide_eq_false_iff_not] at c105); (try simp only [decide_eq_true_eq, decide_eq_false_iff_not] at c110); (try simp only [decide_eq_true_eq, decide_eq_false_iff_not] at c115); unfold spF; first | exact (decide_eq_true (by omega)).symm | exact (decide_eq_false (by omega)).symm)), rfl⟩
                      · skip
                        refine g_iload C 4 rfl dX8_isStronger_103 ?_
                        refine g_if_eqB C (decide (a / 8 % 8 = 4 ∨ a / 8 % 8 = w / 8 % 8)) 122 rfl dX8_isStronger_105 rfl (fun c105 => ?_) (fun c105 => ?_)
                        · skip
                          refine g_iconst C (nI 0) ic_0 dX8_isStronger_122 ?_
                          exact g_zret E false rfl dX8_isStronger_123 (by decide) (by decide) ⟨(congrArg (fun z => some (Value.int (bI z))) (by (try simp only [decide_eq_true_eq, decide_eq_false_iff_not] at c105); (try simp only [decide_eq_true_eq, decide_eq_false_iff_not] at c110); (try simp only [decide_eq_true_eq, decide_eq_false_iff_not] at c115); unfold spF; first | exact (decide_eq_true (by omega)).symm | exact (decide_eq_false (by omega)).symm)), rfl⟩
                        · skip
                          refine g_iload C 5 rfl dX8_isStronger_108 ?_
                          refine g_if_eqB C (decide (3 < a % 8 ∨ a % 8 = w % 8)) 122 rfl dX8_isStronger_110 rfl (fun c110 => ?_) (fun c110 => ?_)
                          · skip
                            refine g_iconst C (nI 0) ic_0 dX8_isStronger_122 ?_
                            exact g_zret E false rfl dX8_isStronger_123 (by decide) (by decide) ⟨(congrArg (fun z => some (Value.int (bI z))) (by (try simp only [decide_eq_true_eq, decide_eq_false_iff_not] at c105); (try simp only [decide_eq_true_eq, decide_eq_false_iff_not] at c110); (try simp only [decide_eq_true_eq, decide_eq_false_iff_not] at c115); unfold spF; first | exact (decide_eq_true (by omega)).symm | exact (decide_eq_false (by omega)).symm)), rfl⟩
                          · skip
                            refine g_iload C 6 rfl dX8_isStronger_113 ?_
                            refine g_if_eqB C (decide (a / 8 % 8 ≠ 4 ∨ a % 8 ≠ 4 ∨ w / 8 % 8 = w % 8)) 122 rfl dX8_isStronger_115 rfl (fun c115 => ?_) (fun c115 => ?_)
                            · skip
                              refine g_iconst C (nI 0) ic_0 dX8_isStronger_122 ?_
                              exact g_zret E false rfl dX8_isStronger_123 (by decide) (by decide) ⟨(congrArg (fun z => some (Value.int (bI z))) (by (try simp only [decide_eq_true_eq, decide_eq_false_iff_not] at c105); (try simp only [decide_eq_true_eq, decide_eq_false_iff_not] at c110); (try simp only [decide_eq_true_eq, decide_eq_false_iff_not] at c115); unfold spF; first | exact (decide_eq_true (by omega)).symm | exact (decide_eq_false (by omega)).symm)), rfl⟩
                            · skip
                              refine g_iconst C (nI 1) ic_1 dX8_isStronger_118 ?_
                              refine g_goto C 123 dX8_isStronger_119 rfl ?_
                              exact g_zret E true rfl dX8_isStronger_123 (by decide) (by decide) ⟨(congrArg (fun z => some (Value.int (bI z))) (by (try simp only [decide_eq_true_eq, decide_eq_false_iff_not] at c105); (try simp only [decide_eq_true_eq, decide_eq_false_iff_not] at c110); (try simp only [decide_eq_true_eq, decide_eq_false_iff_not] at c115); unfold spF; first | exact (decide_eq_true (by omega)).symm | exact (decide_eq_false (by omega)).symm)), rfl⟩
                  exact L87  
                · skip
                  refine g_iload_n C 1 rfl dX8_isStronger_66 ?_
                  refine g_bipush C (nI 8) bp_8 dX8_isStronger_67 ?_
                  refine g_idiv C (nI (w / 8)) (by decide +kernel) dX8_isStronger_69 (pk_div (by omega) (by omega) (by omega)) ?_
                  refine g_bipush C (nI 8) bp_8 dX8_isStronger_70 ?_
                  refine g_irem C (nI ((w / 8) % 8)) (by decide +kernel) dX8_isStronger_72 (pk_rem (by omega) (by omega) (by omega)) ?_
                  refine g_iload_n C 1 rfl dX8_isStronger_73 ?_
                  refine g_bipush C (nI 8) bp_8 dX8_isStronger_74 ?_
                  refine g_irem C (nI (w % 8)) (by decide +kernel) dX8_isStronger_76 (pk_rem (by omega) (by omega) (by omega)) ?_
                  refine g_icmp_neN C ((w / 8) % 8) (w % 8) 84 rfl rfl (by omega) (by omega) dX8_isStronger_77 rfl (fun c77 => ?_) (fun c77 => ?_)
                  · skip
                    refine g_iconst C (nI 0) ic_0 dX8_isStronger_84 ?_
                    refine g_st [.int (bI (decide (a / 8 % 8 ≠ 4 ∨ a % 8 ≠ 4 ∨ w / 8 % 8 = w % 8)))] (congrArg (fun z => [Value.int z]) (by first | (rw [decide_eq_true (by omega)]; rfl) | (rw [decide_eq_false (by omega)]; rfl))) ?_
                    refine g_istore C [(6, .int (bI (decide (a / 8 % 8 ≠ 4 ∨ a % 8 ≠ 4 ∨ w / 8 % 8 = w % 8)))), (0, .int (nI a)), (1, .int (nI w)), (2, .int (nI ((a / 8) % 8))), (3, .int (nI (a % 8))), (4, .int (bI (decide (a / 8 % 8 = 4 ∨ a / 8 % 8 = w / 8 % 8)))), (5, .int (bI (decide (3 < a % 8 ∨ a % 8 = w % 8))))] dX8_isStronger_85 (by decide) rfl ?_
                    refine g_lo [1, 2, 3, 4, 5, 6, 0] [(0, .int (nI a)), (1, .int (nI w)), (2, .int (nI ((a / 8) % 8))), (3, .int (nI (a % 8))), (4, .int (bI (decide (a / 8 % 8 = 4 ∨ a / 8 % 8 = w / 8 % 8)))), (5, .int (bI (decide (3 < a % 8 ∨ a % 8 = w % 8)))), (6, .int (bI (decide (a / 8 % 8 ≠ 4 ∨ a % 8 ≠ 4 ∨ w / 8 % 8 = w % 8))))] rfl ?_
                    have L87 : gW pg l en r_X8_isStronger s0 mi ag bl mth cd 7 D AA HH QQ 87 [(0, .int (nI a)), (1, .int (nI w)), (2, .int (nI ((a / 8) % 8))), (3, .int (nI (a % 8))), (4, .int (bI (decide (a / 8 % 8 = 4 ∨ a / 8 % 8 = w / 8 % 8)))), (5, .int (bI (decide (3 < a % 8 ∨ a % 8 = w % 8)))), (6, .int (bI (decide (a / 8 % 8 ≠ 4 ∨ a % 8 ≠ 4 ∨ w / 8 % 8 = w % 8))))] [] [] 0 0 := by
                      skip
                      refine g_iload_n C 0 rfl dX8_isStronger_87 ?_
                      refine g_iload_n C 1 rfl dX8_isStronger_88 ?_
                      refine g_icmp_eqN C a w 122 rfl rfl (by omega) (by omega) dX8_isStronger_89 rfl (fun c89 => ?_) (fun c89 => ?_)
                      · skip
                        refine g_iconst C (nI 0) ic_0 dX8_isStronger_122 ?_
                        exact g_zret E false rfl dX8_isStronger_123 (by decide) (by decide) ⟨(congrArg (fun z => some (Value.int (bI z))) (by (try simp only [decide_eq_true_eq, decide_eq_false_iff_not] at c105); (try simp only [decide_eq_true_eq, decide_eq_false_iff_not] at c110); (try simp only [decide_eq_true_eq, decide_eq_false_iff_not] at c115); unfold spF; first | exact (decide_eq_true (by omega)).symm | exact (decide_eq_false (by omega)).symm)), rfl⟩
                      · skip
                        refine g_iload_n C 0 rfl dX8_isStronger_92 ?_
                        refine g_bipush C (nI 64) bp_64 dX8_isStronger_93 ?_
                        refine g_idiv C (nI (a / 64)) (by decide +kernel) dX8_isStronger_95 (pk_div (by omega) (by omega) (by omega)) ?_
                        refine g_iload_n C 1 rfl dX8_isStronger_96 ?_
                        refine g_bipush C (nI 64) bp_64 dX8_isStronger_97 ?_
                        refine g_idiv C (nI (w / 64)) (by decide +kernel) dX8_isStronger_99 (pk_div (by omega) (by omega) (by omega)) ?_
                        refine g_icmp_neN C (a / 64) (w / 64) 122 rfl rfl (by omega) (by omega) dX8_isStronger_100 rfl (fun c100 => ?_) (fun c100 => ?_)
                        · skip
                          refine g_iconst C (nI 0) ic_0 dX8_isStronger_122 ?_
                          exact g_zret E false rfl dX8_isStronger_123 (by decide) (by decide) ⟨(congrArg (fun z => some (Value.int (bI z))) (by (try simp only [decide_eq_true_eq, decide_eq_false_iff_not] at c105); (try simp only [decide_eq_true_eq, decide_eq_false_iff_not] at c110); (try simp only [decide_eq_true_eq, decide_eq_false_iff_not] at c115); unfold spF; first | exact (decide_eq_true (by omega)).symm | exact (decide_eq_false (by omega)).symm)), rfl⟩
                        · skip
                          refine g_iload C 4 rfl dX8_isStronger_103 ?_
                          refine g_if_eqB C (decide (a / 8 % 8 = 4 ∨ a / 8 % 8 = w / 8 % 8)) 122 rfl dX8_isStronger_105 rfl (fun c105 => ?_) (fun c105 => ?_)
                          · skip
                            refine g_iconst C (nI 0) ic_0 dX8_isStronger_122 ?_
                            exact g_zret E false rfl dX8_isStronger_123 (by decide) (by decide) ⟨(congrArg (fun z => some (Value.int (bI z))) (by (try simp only [decide_eq_true_eq, decide_eq_false_iff_not] at c105); (try simp only [decide_eq_true_eq, decide_eq_false_iff_not] at c110); (try simp only [decide_eq_true_eq, decide_eq_false_iff_not] at c115); unfold spF; first | exact (decide_eq_true (by omega)).symm | exact (decide_eq_false (by omega)).symm)), rfl⟩
                          · skip
                            refine g_iload C 5 rfl dX8_isStronger_108 ?_
                            refine g_if_eqB C (decide (3 < a % 8 ∨ a % 8 = w % 8)) 122 rfl dX8_isStronger_110 rfl (fun c110 => ?_) (fun c110 => ?_)
                            · skip
                              refine g_iconst C (nI 0) ic_0 dX8_isStronger_122 ?_
                              exact g_zret E false rfl dX8_isStronger_123 (by decide) (by decide) ⟨(congrArg (fun z => some (Value.int (bI z))) (by (try simp only [decide_eq_true_eq, decide_eq_false_iff_not] at c105); (try simp only [decide_eq_true_eq, decide_eq_false_iff_not] at c110); (try simp only [decide_eq_true_eq, decide_eq_false_iff_not] at c115); unfold spF; first | exact (decide_eq_true (by omega)).symm | exact (decide_eq_false (by omega)).symm)), rfl⟩
                            · skip
                              refine g_iload C 6 rfl dX8_isStronger_113 ?_
                              refine g_if_eqB C (decide (a / 8 % 8 ≠ 4 ∨ a % 8 ≠ 4 ∨ w / 8 % 8 = w % 8)) 122 rfl dX8_isStronger_115 rfl (fun c115 => ?_) (fun c115 => ?_)
                              · skip
                                refine g_iconst C (nI 0) ic_0 dX8_isStronger_122 ?_
                                exact g_zret E false rfl dX8_isStronger_123 (by decide) (by decide) ⟨(congrArg (fun z => some (Value.int (bI z))) (by (try simp only [decide_eq_true_eq, decide_eq_false_iff_not] at c105); (try simp only [decide_eq_true_eq, decide_eq_false_iff_not] at c110); (try simp only [decide_eq_true_eq, decide_eq_false_iff_not] at c115); unfold spF; first | exact (decide_eq_true (by omega)).symm | exact (decide_eq_false (by omega)).symm)), rfl⟩
                              · skip
                                refine g_iconst C (nI 1) ic_1 dX8_isStronger_118 ?_
                                refine g_goto C 123 dX8_isStronger_119 rfl ?_
                                exact g_zret E true rfl dX8_isStronger_123 (by decide) (by decide) ⟨(congrArg (fun z => some (Value.int (bI z))) (by (try simp only [decide_eq_true_eq, decide_eq_false_iff_not] at c105); (try simp only [decide_eq_true_eq, decide_eq_false_iff_not] at c110); (try simp only [decide_eq_true_eq, decide_eq_false_iff_not] at c115); unfold spF; first | exact (decide_eq_true (by omega)).symm | exact (decide_eq_false (by omega)).symm)), rfl⟩
                    exact L87  
                  · skip
                    refine g_iconst C (nI 1) ic_1 dX8_isStronger_80 ?_
                    refine g_goto C 85 dX8_isStronger_81 rfl ?_
                    refine g_st [.int (bI (decide (a / 8 % 8 ≠ 4 ∨ a % 8 ≠ 4 ∨ w / 8 % 8 = w % 8)))] (congrArg (fun z => [Value.int z]) (by first | (rw [decide_eq_true (by omega)]; rfl) | (rw [decide_eq_false (by omega)]; rfl))) ?_
                    refine g_istore C [(6, .int (bI (decide (a / 8 % 8 ≠ 4 ∨ a % 8 ≠ 4 ∨ w / 8 % 8 = w % 8)))), (0, .int (nI a)), (1, .int (nI w)), (2, .int (nI ((a / 8) % 8))), (3, .int (nI (a % 8))), (4, .int (bI (decide (a / 8 % 8 = 4 ∨ a / 8 % 8 = w / 8 % 8)))), (5, .int (bI (decide (3 < a % 8 ∨ a % 8 = w % 8))))] dX8_isStronger_85 (by decide) rfl ?_
                    refine g_lo [1, 2, 3, 4, 5, 6, 0] [(0, .int (nI a)), (1, .int (nI w)), (2, .int (nI ((a / 8) % 8))), (3, .int (nI (a % 8))), (4, .int (bI (decide (a / 8 % 8 = 4 ∨ a / 8 % 8 = w / 8 % 8)))), (5, .int (bI (decide (3 < a % 8 ∨ a % 8 = w % 8)))), (6, .int (bI (decide (a / 8 % 8 ≠ 4 ∨ a % 8 ≠ 4 ∨ w / 8 % 8 = w % 8))))] rfl ?_
                    have L87 : gW pg l en r_X8_isStronger s0 mi ag bl mth cd 7 D AA HH QQ 87 [(0, .int (nI a)), (1, .int (nI w)), (2, .int (nI ((a / 8) % 8))), (3, .int (nI (a % 8))), (4, .int (bI (decide (a / 8 % 8 = 4 ∨ a / 8 % 8 = w / 8 % 8)))), (5, .int (bI (decide (3 < a % 8 ∨ a % 8 = w % 8)))), (6, .int (bI (decide (a / 8 % 8 ≠ 4 ∨ a % 8 ≠ 4 ∨ w / 8 % 8 = w % 8))))] [] [] 0 0 := by
                      skip
                      refine g_iload_n C 0 rfl dX8_isStronger_87 ?_
                      refine g_iload_n C 1 rfl dX8_isStronger_88 ?_
                      refine g_icmp_eqN C a w 122 rfl rfl (by omega) (by omega) dX8_isStronger_89 rfl (fun c89 => ?_) (fun c89 => ?_)
                      · skip
                        refine g_iconst C (nI 0) ic_0 dX8_isStronger_122 ?_
                        exact g_zret E false rfl dX8_isStronger_123 (by decide) (by decide) ⟨(congrArg (fun z => some (Value.int (bI z))) (by (try simp only [decide_eq_true_eq, decide_eq_false_iff_not] at c105); (try simp only [decide_eq_true_eq, decide_eq_false_iff_not] at c110); (try simp only [decide_eq_true_eq, decide_eq_false_iff_not] at c115); unfold spF; first | exact (decide_eq_true (by omega)).symm | exact (decide_eq_false (by omega)).symm)), rfl⟩
                      · skip
                        refine g_iload_n C 0 rfl dX8_isStronger_92 ?_
                        refine g_bipush C (nI 64) bp_64 dX8_isStronger_93 ?_
                        refine g_idiv C (nI (a / 64)) (by decide +kernel) dX8_isStronger_95 (pk_div (by omega) (by omega) (by omega)) ?_
                        refine g_iload_n C 1 rfl dX8_isStronger_96 ?_
                        refine g_bipush C (nI 64) bp_64 dX8_isStronger_97 ?_
                        refine g_idiv C (nI (w / 64)) (by decide +kernel) dX8_isStronger_99 (pk_div (by omega) (by omega) (by omega)) ?_
                        refine g_icmp_neN C (a / 64) (w / 64) 122 rfl rfl (by omega) (by omega) dX8_isStronger_100 rfl (fun c100 => ?_) (fun c100 => ?_)
                        · skip
                          refine g_iconst C (nI 0) ic_0 dX8_isStronger_122 ?_
                          exact g_zret E false rfl dX8_isStronger_123 (by decide) (by decide) ⟨(congrArg (fun z => some (Value.int (bI z))) (by (try simp only [decide_eq_true_eq, decide_eq_false_iff_not] at c105); (try simp only [decide_eq_true_eq, decide_eq_false_iff_not] at c110); (try simp only [decide_eq_true_eq, decide_eq_false_iff_not] at c115); unfold spF; first | exact (decide_eq_true (by omega)).symm | exact (decide_eq_false (by omega)).symm)), rfl⟩
                        · skip
                          refine g_iload C 4 rfl dX8_isStronger_103 ?_
                          refine g_if_eqB C (decide (a / 8 % 8 = 4 ∨ a / 8 % 8 = w / 8 % 8)) 122 rfl dX8_isStronger_105 rfl (fun c105 => ?_) (fun c105 => ?_)
                          · skip
                            refine g_iconst C (nI 0) ic_0 dX8_isStronger_122 ?_
                            exact g_zret E false rfl dX8_isStronger_123 (by decide) (by decide) ⟨(congrArg (fun z => some (Value.int (bI z))) (by (try simp only [decide_eq_true_eq, decide_eq_false_iff_not] at c105); (try simp only [decide_eq_true_eq, decide_eq_false_iff_not] at c110); (try simp only [decide_eq_true_eq, decide_eq_false_iff_not] at c115); unfold spF; first | exact (decide_eq_true (by omega)).symm | exact (decide_eq_false (by omega)).symm)), rfl⟩
                          · skip
                            refine g_iload C 5 rfl dX8_isStronger_108 ?_
                            refine g_if_eqB C (decide (3 < a % 8 ∨ a % 8 = w % 8)) 122 rfl dX8_isStronger_110 rfl (fun c110 => ?_) (fun c110 => ?_)
                            · skip
                              refine g_iconst C (nI 0) ic_0 dX8_isStronger_122 ?_
                              exact g_zret E false rfl dX8_isStronger_123 (by decide) (by decide) ⟨(congrArg (fun z => some (Value.int (bI z))) (by (try simp only [decide_eq_true_eq, decide_eq_false_iff_not] at c105); (try simp only [decide_eq_true_eq, decide_eq_false_iff_not] at c110); (try simp only [decide_eq_true_eq, decide_eq_false_iff_not] at c115); unfold spF; first | exact (decide_eq_true (by omega)).symm | exact (decide_eq_false (by omega)).symm)), rfl⟩
                            · skip
                              refine g_iload C 6 rfl dX8_isStronger_113 ?_
                              refine g_if_eqB C (decide (a / 8 % 8 ≠ 4 ∨ a % 8 ≠ 4 ∨ w / 8 % 8 = w % 8)) 122 rfl dX8_isStronger_115 rfl (fun c115 => ?_) (fun c115 => ?_)
                              · skip
                                refine g_iconst C (nI 0) ic_0 dX8_isStronger_122 ?_
                                exact g_zret E false rfl dX8_isStronger_123 (by decide) (by decide) ⟨(congrArg (fun z => some (Value.int (bI z))) (by (try simp only [decide_eq_true_eq, decide_eq_false_iff_not] at c105); (try simp only [decide_eq_true_eq, decide_eq_false_iff_not] at c110); (try simp only [decide_eq_true_eq, decide_eq_false_iff_not] at c115); unfold spF; first | exact (decide_eq_true (by omega)).symm | exact (decide_eq_false (by omega)).symm)), rfl⟩
                              · skip
                                refine g_iconst C (nI 1) ic_1 dX8_isStronger_118 ?_
                                refine g_goto C 123 dX8_isStronger_119 rfl ?_
                                exact g_zret E true rfl dX8_isStronger_123 (by decide) (by decide) ⟨(congrArg (fun z => some (Value.int (bI z))) (by (try simp only [decide_eq_true_eq, decide_eq_false_iff_not] at c105); (try simp only [decide_eq_true_eq, decide_eq_false_iff_not] at c110); (try simp only [decide_eq_true_eq, decide_eq_false_iff_not] at c115); unfold spF; first | exact (decide_eq_true (by omega)).symm | exact (decide_eq_false (by omega)).symm)), rfl⟩
                    exact L87  
            exact L56  
          · skip
            refine g_iconst C (nI 1) ic_1 dX8_isStronger_49 ?_
            refine g_goto C 54 dX8_isStronger_50 rfl ?_
            refine g_st [.int (bI (decide (3 < a % 8 ∨ a % 8 = w % 8)))] (congrArg (fun z => [Value.int z]) (by first | (rw [decide_eq_true (by omega)]; rfl) | (rw [decide_eq_false (by omega)]; rfl))) ?_
            refine g_istore C [(5, .int (bI (decide (3 < a % 8 ∨ a % 8 = w % 8)))), (0, .int (nI a)), (1, .int (nI w)), (2, .int (nI ((a / 8) % 8))), (3, .int (nI (a % 8))), (4, .int (bI (decide (a / 8 % 8 = 4 ∨ a / 8 % 8 = w / 8 % 8))))] dX8_isStronger_54 (by decide) rfl ?_
            refine g_lo [1, 2, 3, 4, 5, 0] [(0, .int (nI a)), (1, .int (nI w)), (2, .int (nI ((a / 8) % 8))), (3, .int (nI (a % 8))), (4, .int (bI (decide (a / 8 % 8 = 4 ∨ a / 8 % 8 = w / 8 % 8)))), (5, .int (bI (decide (3 < a % 8 ∨ a % 8 = w % 8))))] rfl ?_
            have L56 : gW pg l en r_X8_isStronger s0 mi ag bl mth cd 7 D AA HH QQ 56 [(0, .int (nI a)), (1, .int (nI w)), (2, .int (nI ((a / 8) % 8))), (3, .int (nI (a % 8))), (4, .int (bI (decide (a / 8 % 8 = 4 ∨ a / 8 % 8 = w / 8 % 8)))), (5, .int (bI (decide (3 < a % 8 ∨ a % 8 = w % 8))))] [] [] 0 0 := by
              skip
              refine g_iload_n C 2 rfl dX8_isStronger_56 ?_
              refine g_iconst C (nI 4) ic_4 dX8_isStronger_57 ?_
              refine g_icmp_neN C ((a / 8) % 8) 4 80 rfl rfl (by omega) (by omega) dX8_isStronger_58 rfl (fun c58 => ?_) (fun c58 => ?_)
              · skip
                refine g_iconst C (nI 1) ic_1 dX8_isStronger_80 ?_
                refine g_goto C 85 dX8_isStronger_81 rfl ?_
                refine g_st [.int (bI (decide (a / 8 % 8 ≠ 4 ∨ a % 8 ≠ 4 ∨ w / 8 % 8 = w % 8)))] (congrArg (fun z => [Value.int z]) (by first | (rw [decide_eq_true (by omega)]; rfl) | (rw [decide_eq_false (by omega)]; rfl))) ?_
                refine g_istore C [(6, .int (bI (decide (a / 8 % 8 ≠ 4 ∨ a % 8 ≠ 4 ∨ w / 8 % 8 = w % 8)))), (0, .int (nI a)), (1, .int (nI w)), (2, .int (nI ((a / 8) % 8))), (3, .int (nI (a % 8))), (4, .int (bI (decide (a / 8 % 8 = 4 ∨ a / 8 % 8 = w / 8 % 8)))), (5, .int (bI (decide (3 < a % 8 ∨ a % 8 = w % 8))))] dX8_isStronger_85 (by decide) rfl ?_
                refine g_lo [1, 2, 3, 4, 5, 6, 0] [(0, .int (nI a)), (1, .int (nI w)), (2, .int (nI ((a / 8) % 8))), (3, .int (nI (a % 8))), (4, .int (bI (decide (a / 8 % 8 = 4 ∨ a / 8 % 8 = w / 8 % 8)))), (5, .int (bI (decide (3 < a % 8 ∨ a % 8 = w % 8)))), (6, .int (bI (decide (a / 8 % 8 ≠ 4 ∨ a % 8 ≠ 4 ∨ w / 8 % 8 = w % 8))))] rfl ?_
                have L87 : gW pg l en r_X8_isStronger s0 mi ag bl mth cd 7 D AA HH QQ 87 [(0, .int (nI a)), (1, .int (nI w)), (2, .int (nI ((a / 8) % 8))), (3, .int (nI (a % 8))), (4, .int (bI (decide (a / 8 % 8 = 4 ∨ a / 8 % 8 = w / 8 % 8)))), (5, .int (bI (decide (3 < a % 8 ∨ a % 8 = w % 8)))), (6, .int (bI (decide (a / 8 % 8 ≠ 4 ∨ a % 8 ≠ 4 ∨ w / 8 % 8 = w % 8))))] [] [] 0 0 := by
                  skip
                  refine g_iload_n C 0 rfl dX8_isStronger_87 ?_
                  refine g_iload_n C 1 rfl dX8_isStronger_88 ?_
                  refine g_icmp_eqN C a w 122 rfl rfl (by omega) (by omega) dX8_isStronger_89 rfl (fun c89 => ?_) (fun c89 => ?_)
                  · skip
                    refine g_iconst C (nI 0) ic_0 dX8_isStronger_122 ?_
                    exact g_zret E false rfl dX8_isStronger_123 (by decide) (by decide) ⟨(congrArg (fun z => some (Value.int (bI z))) (by (try simp only [decide_eq_true_eq, decide_eq_false_iff_not] at c105); (try simp only [decide_eq_true_eq, decide_eq_false_iff_not] at c110); (try simp only [decide_eq_true_eq, decide_eq_false_iff_not] at c115); unfold spF; first | exact (decide_eq_true (by omega)).symm | exact (decide_eq_false (by omega)).symm)), rfl⟩
                  · skip
                    refine g_iload_n C 0 rfl dX8_isStronger_92 ?_
                    refine g_bipush C (nI 64) bp_64 dX8_isStronger_93 ?_
                    refine g_idiv C (nI (a / 64)) (by decide +kernel) dX8_isStronger_95 (pk_div (by omega) (by omega) (by omega)) ?_
                    refine g_iload_n C 1 rfl dX8_isStronger_96 ?_
                    refine g_bipush C (nI 64) bp_64 dX8_isStronger_97 ?_
                    refine g_idiv C (nI (w / 64)) (by decide +kernel) dX8_isStronger_99 (pk_div (by omega) (by omega) (by omega)) ?_
                    refine g_icmp_neN C (a / 64) (w / 64) 122 rfl rfl (by omega) (by omega) dX8_isStronger_100 rfl (fun c100 => ?_) (fun c100 => ?_)
                    · skip
                      refine g_iconst C (nI 0) ic_0 dX8_isStronger_122 ?_
                      exact g_zret E false rfl dX8_isStronger_123 (by decide) (by decide) ⟨(congrArg (fun z => some (Value.int (bI z))) (by (try simp only [decide_eq_true_eq, decide_eq_false_iff_not] at c105); (try simp only [decide_eq_true_eq, decide_eq_false_iff_not] at c110); (try simp only [decide_eq_true_eq, decide_eq_false_iff_not] at c115); unfold spF; first | exact (decide_eq_true (by omega)).symm | exact (decide_eq_false (by omega)).symm)), rfl⟩
                    · skip
                      refine g_iload C 4 rfl dX8_isStronger_103 ?_
                      refine g_if_eqB C (decide (a / 8 % 8 = 4 ∨ a / 8 % 8 = w / 8 % 8)) 122 rfl dX8_isStronger_105 rfl (fun c105 => ?_) (fun c105 => ?_)
                      · skip
                        refine g_iconst C (nI 0) ic_0 dX8_isStronger_122 ?_
                        exact g_zret E false rfl dX8_isStronger_123 (by decide) (by decide) ⟨(congrArg (fun z => some (Value.int (bI z))) (by (try simp only [decide_eq_true_eq, decide_eq_false_iff_not] at c105); (try simp only [decide_eq_true_eq, decide_eq_false_iff_not] at c110); (try simp only [decide_eq_true_eq, decide_eq_false_iff_not] at c115); unfold spF; first | exact (decide_eq_true (by omega)).symm | exact (decide_eq_false (by omega)).symm)), rfl⟩
                      · skip
                        refine g_iload C 5 rfl dX8_isStronger_108 ?_
                        refine g_if_eqB C (decide (3 < a % 8 ∨ a % 8 = w % 8)) 122 rfl dX8_isStronger_110 rfl (fun c110 => ?_) (fun c110 => ?_)
                        · skip
                          refine g_iconst C (nI 0) ic_0 dX8_isStronger_122 ?_
                          exact g_zret E false rfl dX8_isStronger_123 (by decide) (by decide) ⟨(congrArg (fun z => some (Value.int (bI z))) (by (try simp only [decide_eq_true_eq, decide_eq_false_iff_not] at c105); (try simp only [decide_eq_true_eq, decide_eq_false_iff_not] at c110); (try simp only [decide_eq_true_eq, decide_eq_false_iff_not] at c115); unfold spF; first | exact (decide_eq_true (by omega)).symm | exact (decide_eq_false (by omega)).symm)), rfl⟩
                        · skip
                          refine g_iload C 6 rfl dX8_isStronger_113 ?_
                          refine g_if_eqB C (decide (a / 8 % 8 ≠ 4 ∨ a % 8 ≠ 4 ∨ w / 8 % 8 = w % 8)) 122 rfl dX8_isStronger_115 rfl (fun c115 => ?_) (fun c115 => ?_)
                          · skip
                            refine g_iconst C (nI 0) ic_0 dX8_isStronger_122 ?_
                            exact g_zret E false rfl dX8_isStronger_123 (by decide) (by decide) ⟨(congrArg (fun z => some (Value.int (bI z))) (by (try simp only [decide_eq_true_eq, decide_eq_false_iff_not] at c105); (try simp only [decide_eq_true_eq, decide_eq_false_iff_not] at c110); (try simp only [decide_eq_true_eq, decide_eq_false_iff_not] at c115); unfold spF; first | exact (decide_eq_true (by omega)).symm | exact (decide_eq_false (by omega)).symm)), rfl⟩
                          · skip
                            refine g_iconst C (nI 1) ic_1 dX8_isStronger_118 ?_
                            refine g_goto C 123 dX8_isStronger_119 rfl ?_
                            exact g_zret E true rfl dX8_isStronger_123 (by decide) (by decide) ⟨(congrArg (fun z => some (Value.int (bI z))) (by (try simp only [decide_eq_true_eq, decide_eq_false_iff_not] at c105); (try simp only [decide_eq_true_eq, decide_eq_false_iff_not] at c110); (try simp only [decide_eq_true_eq, decide_eq_false_iff_not] at c115); unfold spF; first | exact (decide_eq_true (by omega)).symm | exact (decide_eq_false (by omega)).symm)), rfl⟩
                exact L87  
              · skip
                refine g_iload_n C 3 rfl dX8_isStronger_61 ?_
                refine g_iconst C (nI 4) ic_4 dX8_isStronger_62 ?_
                refine g_icmp_neN C (a % 8) 4 80 rfl rfl (by omega) (by omega) dX8_isStronger_63 rfl (fun c63 => ?_) (fun c63 => ?_)
                · skip
                  refine g_iconst C (nI 1) ic_1 dX8_isStronger_80 ?_
                  refine g_goto C 85 dX8_isStronger_81 rfl ?_
                  refine g_st [.int (bI (decide (a / 8 % 8 ≠ 4 ∨ a % 8 ≠ 4 ∨ w / 8 % 8 = w % 8)))] (congrArg (fun z => [Value.int z]) (by first | (rw [decide_eq_true (by omega)]; rfl) | (rw [decide_eq_false (by omega)]; rfl))) ?_
                  refine g_istore C [(6, .int (bI (decide (a / 8 % 8 ≠ 4 ∨ a % 8 ≠ 4 ∨ w / 8 % 8 = w % 8)))), (0, .int (nI a)), (1, .int (nI w)), (2, .int (nI ((a / 8) % 8))), (3, .int (nI (a % 8))), (4, .int (bI (decide (a / 8 % 8 = 4 ∨ a / 8 % 8 = w / 8 % 8)))), (5, .int (bI (decide (3 < a % 8 ∨ a % 8 = w % 8))))] dX8_isStronger_85 (by decide) rfl ?_
                  refine g_lo [1, 2, 3, 4, 5, 6, 0] [(0, .int (nI a)), (1, .int (nI w)), (2, .int (nI ((a / 8) % 8))), (3, .int (nI (a % 8))), (4, .int (bI (decide (a / 8 % 8 = 4 ∨ a / 8 % 8 = w / 8 % 8)))), (5, .int (bI (decide (3 < a % 8 ∨ a % 8 = w % 8)))), (6, .int (bI (decide (a / 8 % 8 ≠ 4 ∨ a % 8 ≠ 4 ∨ w / 8 % 8 = w % 8))))] rfl ?_
                  have L87 : gW pg l en r_X8_isStronger s0 mi ag bl mth cd 7 D AA HH QQ 87 [(0, .int (nI a)), (1, .int (nI w)), (2, .int (nI ((a / 8) % 8))), (3, .int (nI (a % 8))), (4, .int (bI (decide (a / 8 % 8 = 4 ∨ a / 8 % 8 = w / 8 % 8)))), (5, .int (bI (decide (3 < a % 8 ∨ a % 8 = w % 8)))), (6, .int (bI (decide (a / 8 % 8 ≠ 4 ∨ a % 8 ≠ 4 ∨ w / 8 % 8 = w % 8))))] [] [] 0 0 := by
                    skip
                    refine g_iload_n C 0 rfl dX8_isStronger_87 ?_
                    refine g_iload_n C 1 rfl dX8_isStronger_88 ?_
                    refine g_icmp_eqN C a w 122 rfl rfl (by omega) (by omega) dX8_isStronger_89 rfl (fun c89 => ?_) (fun c89 => ?_)
                    · skip
                      refine g_iconst C (nI 0) ic_0 dX8_isStronger_122 ?_
                      exact g_zret E false rfl dX8_isStronger_123 (by decide) (by decide) ⟨(congrArg (fun z => some (Value.int (bI z))) (by (try simp only [decide_eq_true_eq, decide_eq_false_iff_not] at c105); (try simp only [decide_eq_true_eq, decide_eq_false_iff_not] at c110); (try simp only [decide_eq_true_eq, decide_eq_false_iff_not] at c115); unfold spF; first | exact (decide_eq_true (by omega)).symm | exact (decide_eq_false (by omega)).symm)), rfl⟩
                    · skip
                      refine g_iload_n C 0 rfl dX8_isStronger_92 ?_
                      refine g_bipush C (nI 64) bp_64 dX8_isStronger_93 ?_
                      refine g_idiv C (nI (a / 64)) (by decide +kernel) dX8_isStronger_95 (pk_div (by omega) (by omega) (by omega)) ?_
                      refine g_iload_n C 1 rfl dX8_isStronger_96 ?_
                      refine g_bipush C (nI 64) bp_64 dX8_isStronger_97 ?_
                      refine g_idiv C (nI (w / 64)) (by decide +kernel) dX8_isStronger_99 (pk_div (by omega) (by omega) (by omega)) ?_
                      refine g_icmp_neN C (a / 64) (w / 64) 122 rfl rfl (by omega) (by omega) dX8_isStronger_100 rfl (fun c100 => ?_) (fun c100 => ?_)
                      · skip
                        refine g_iconst C (nI 0) ic_0 dX8_isStronger_122 ?_
                        exact g_zret E false rfl dX8_isStronger_123 (by decide) (by decide) ⟨(congrArg (fun z => some (Value.int (bI z))) (by (try simp only [decide_eq_true_eq, decide_eq_false_iff_not] at c105); (try simp only [decide_eq_true_eq, decide_eq_false_iff_not] at c110); (try simp only [decide_eq_true_eq, decide_eq_false_iff_not] at c115); unfold spF; first | exact (decide_eq_true (by omega)).symm | exact (decide_eq_false (by omega)).symm)), rfl⟩
                      · skip
                        refine g_iload C 4 rfl dX8_isStronger_103 ?_
                        refine g_if_eqB C (decide (a / 8 % 8 = 4 ∨ a / 8 % 8 = w / 8 % 8)) 122 rfl dX8_isStronger_105 rfl (fun c105 => ?_) (fun c105 => ?_)
                        · skip
                          refine g_iconst C (nI 0) ic_0 dX8_isStronger_122 ?_
                          exact g_zret E false rfl dX8_isStronger_123 (by decide) (by decide) ⟨(congrArg (fun z => some (Value.int (bI z))) (by (try simp only [decide_eq_true_eq, decide_eq_false_iff_not] at c105); (try simp only [decide_eq_true_eq, decide_eq_false_iff_not] at c110); (try simp only [decide_eq_true_eq, decide_eq_false_iff_not] at c115); unfold spF; first | exact (decide_eq_true (by omega)).symm | exact (decide_eq_false (by omega)).symm)), rfl⟩
                        · skip
                          refine g_iload C 5 rfl dX8_isStronger_108 ?_
                          refine g_if_eqB C (decide (3 < a % 8 ∨ a % 8 = w % 8)) 122 rfl dX8_isStronger_110 rfl (fun c110 => ?_) (fun c110 => ?_)
                          · skip
                            refine g_iconst C (nI 0) ic_0 dX8_isStronger_122 ?_
                            exact g_zret E false rfl dX8_isStronger_123 (by decide) (by decide) ⟨(congrArg (fun z => some (Value.int (bI z))) (by (try simp only [decide_eq_true_eq, decide_eq_false_iff_not] at c105); (try simp only [decide_eq_true_eq, decide_eq_false_iff_not] at c110); (try simp only [decide_eq_true_eq, decide_eq_false_iff_not] at c115); unfold spF; first | exact (decide_eq_true (by omega)).symm | exact (decide_eq_false (by omega)).symm)), rfl⟩
                          · skip
                            refine g_iload C 6 rfl dX8_isStronger_113 ?_
                            refine g_if_eqB C (decide (a / 8 % 8 ≠ 4 ∨ a % 8 ≠ 4 ∨ w / 8 % 8 = w % 8)) 122 rfl dX8_isStronger_115 rfl (fun c115 => ?_) (fun c115 => ?_)
                            · skip
                              refine g_iconst C (nI 0) ic_0 dX8_isStronger_122 ?_
                              exact g_zret E false rfl dX8_isStronger_123 (by decide) (by decide) ⟨(congrArg (fun z => some (Value.int (bI z))) (by (try simp only [decide_eq_true_eq, decide_eq_false_iff_not] at c105); (try simp only [decide_eq_true_eq, decide_eq_false_iff_not] at c110); (try simp only [decide_eq_true_eq, decide_eq_false_iff_not] at c115); unfold spF; first | exact (decide_eq_true (by omega)).symm | exact (decide_eq_false (by omega)).symm)), rfl⟩
                            · skip
                              refine g_iconst C (nI 1) ic_1 dX8_isStronger_118 ?_
                              refine g_goto C 123 dX8_isStronger_119 rfl ?_
                              exact g_zret E true rfl dX8_isStronger_123 (by decide) (by decide) ⟨(congrArg (fun z => some (Value.int (bI z))) (by (try simp only [decide_eq_true_eq, decide_eq_false_iff_not] at c105); (try simp only [decide_eq_true_eq, decide_eq_false_iff_not] at c110); (try simp only [decide_eq_true_eq, decide_eq_false_iff_not] at c115); unfold spF; first | exact (decide_eq_true (by omega)).symm | exact (decide_eq_false (by omega)).symm)), rfl⟩
                  exact L87  
                · skip
                  refine g_iload_n C 1 rfl dX8_isStronger_66 ?_
                  refine g_bipush C (nI 8) bp_8 dX8_isStronger_67 ?_
                  refine g_idiv C (nI (w / 8)) (by decide +kernel) dX8_isStronger_69 (pk_div (by omega) (by omega) (by omega)) ?_
                  refine g_bipush C (nI 8) bp_8 dX8_isStronger_70 ?_
                  refine g_irem C (nI ((w / 8) % 8)) (by decide +kernel) dX8_isStronger_72 (pk_rem (by omega) (by omega) (by omega)) ?_
                  refine g_iload_n C 1 rfl dX8_isStronger_73 ?_
                  refine g_bipush C (nI 8) bp_8 dX8_isStronger_74 ?_
                  refine g_irem C (nI (w % 8)) (by decide +kernel) dX8_isStronger_76 (pk_rem (by omega) (by omega) (by omega)) ?_
                  refine g_icmp_neN C ((w / 8) % 8) (w % 8) 84 rfl rfl (by omega) (by omega) dX8_isStronger_77 rfl (fun c77 => ?_) (fun c77 => ?_)
                  · skip
                    refine g_iconst C (nI 0) ic_0 dX8_isStronger_84 ?_
                    refine g_st [.int (bI (decide (a / 8 % 8 ≠ 4 ∨ a % 8 ≠ 4 ∨ w / 8 % 8 = w % 8)))] (congrArg (fun z => [Value.int z]) (by first | (rw [decide_eq_true (by omega)]; rfl) | (rw [decide_eq_false (by omega)]; rfl))) ?_
                    refine g_istore C [(6, .int (bI (decide (a / 8 % 8 ≠ 4 ∨ a % 8 ≠ 4 ∨ w / 8 % 8 = w % 8)))), (0, .int (nI a)), (1, .int (nI w)), (2, .int (nI ((a / 8) % 8))), (3, .int (nI (a % 8))), (4, .int (bI (decide (a / 8 % 8 = 4 ∨ a / 8 % 8 = w / 8 % 8)))), (5, .int (bI (decide (3 < a % 8 ∨ a % 8 = w % 8))))] dX8_isStronger_85 (by decide) rfl ?_
                    refine g_lo [1, 2, 3, 4, 5, 6, 0] [(0, .int (nI a)), (1, .int (nI w)), (2, .int (nI ((a / 8) % 8))), (3, .int (nI (a % 8))), (4, .int (bI (decide (a / 8 % 8 = 4 ∨ a / 8 % 8 = w / 8 % 8)))), (5, .int (bI (decide (3 < a % 8 ∨ a % 8 = w % 8)))), (6, .int (bI (decide (a / 8 % 8 ≠ 4 ∨ a % 8 ≠ 4 ∨ w / 8 % 8 = w % 8))))] rfl ?_
                    have L87 : gW pg l en r_X8_isStronger s0 mi ag bl mth cd 7 D AA HH QQ 87 [(0, .int (nI a)), (1, .int (nI w)), (2, .int (nI ((a / 8) % 8))), (3, .int (nI (a % 8))), (4, .int (bI (decide (a / 8 % 8 = 4 ∨ a / 8 % 8 = w / 8 % 8)))), (5, .int (bI (decide (3 < a % 8 ∨ a % 8 = w % 8)))), (6, .int (bI (decide (a / 8 % 8 ≠ 4 ∨ a % 8 ≠ 4 ∨ w / 8 % 8 = w % 8))))] [] [] 0 0 := by
                      skip
                      refine g_iload_n C 0 rfl dX8_isStronger_87 ?_
                      refine g_iload_n C 1 rfl dX8_isStronger_88 ?_
                      refine g_icmp_eqN C a w 122 rfl rfl (by omega) (by omega) dX8_isStronger_89 rfl (fun c89 => ?_) (fun c89 => ?_)
                      · skip
                        refine g_iconst C (nI 0) ic_0 dX8_isStronger_122 ?_
                        exact g_zret E false rfl dX8_isStronger_123 (by decide) (by decide) ⟨(congrArg (fun z => some (Value.int (bI z))) (by (try simp only [decide_eq_true_eq, decide_eq_false_iff_not] at c105); (try simp only [decide_eq_true_eq, decide_eq_false_iff_not] at c110); (try simp only [decide_eq_true_eq, decide_eq_false_iff_not] at c115); unfold spF; first | exact (decide_eq_true (by omega)).symm | exact (decide_eq_false (by omega)).symm)), rfl⟩
                      · skip
                        refine g_iload_n C 0 rfl dX8_isStronger_92 ?_
                        refine g_bipush C (nI 64) bp_64 dX8_isStronger_93 ?_
                        refine g_idiv C (nI (a / 64)) (by decide +kernel) dX8_isStronger_95 (pk_div (by omega) (by omega) (by omega)) ?_
                        refine g_iload_n C 1 rfl dX8_isStronger_96 ?_
                        refine g_bipush C (nI 64) bp_64 dX8_isStronger_97 ?_
                        refine g_idiv C (nI (w / 64)) (by decide +kernel) dX8_isStronger_99 (pk_div (by omega) (by omega) (by omega)) ?_
                        refine g_icmp_neN C (a / 64) (w / 64) 122 rfl rfl (by omega) (by omega) dX8_isStronger_100 rfl (fun c100 => ?_) (fun c100 => ?_)
                        · skip
                          refine g_iconst C (nI 0) ic_0 dX8_isStronger_122 ?_
                          exact g_zret E false rfl dX8_isStronger_123 (by decide) (by decide) ⟨(congrArg (fun z => some (Value.int (bI z))) (by (try simp only [decide_eq_true_eq, decide_eq_false_iff_not] at c105); (try simp only [decide_eq_true_eq, decide_eq_false_iff_not] at c110); (try simp only [decide_eq_true_eq, decide_eq_false_iff_not] at c115); unfold spF; first | exact (decide_eq_true (by omega)).symm | exact (decide_eq_false (by omega)).symm)), rfl⟩
                        · skip
                          refine g_iload C 4 rfl dX8_isStronger_103 ?_
                          refine g_if_eqB C (decide (a / 8 % 8 = 4 ∨ a / 8 % 8 = w / 8 % 8)) 122 rfl dX8_isStronger_105 rfl (fun c105 => ?_) (fun c105 => ?_)
                          · skip
                            refine g_iconst C (nI 0) ic_0 dX8_isStronger_122 ?_
                            exact g_zret E false rfl dX8_isStronger_123 (by decide) (by decide) ⟨(congrArg (fun z => some (Value.int (bI z))) (by (try simp only [decide_eq_true_eq, decide_eq_false_iff_not] at c105); (try simp only [decide_eq_true_eq, decide_eq_false_iff_not] at c110); (try simp only [decide_eq_true_eq, decide_eq_false_iff_not] at c115); unfold spF; first | exact (decide_eq_true (by omega)).symm | exact (decide_eq_false (by omega)).symm)), rfl⟩
                          · skip
                            refine g_iload C 5 rfl dX8_isStronger_108 ?_
                            refine g_if_eqB C (decide (3 < a % 8 ∨ a % 8 = w % 8)) 122 rfl dX8_isStronger_110 rfl (fun c110 => ?_) (fun c110 => ?_)
                            · skip
                              refine g_iconst C (nI 0) ic_0 dX8_isStronger_122 ?_
                              exact g_zret E false rfl dX8_isStronger_123 (by decide) (by decide) ⟨(congrArg (fun z => some (Value.int (bI z))) (by (try simp only [decide_eq_true_eq, decide_eq_false_iff_not] at c105); (try simp only [decide_eq_true_eq, decide_eq_false_iff_not] at c110); (try simp only [decide_eq_true_eq, decide_eq_false_iff_not] at c115); unfold spF; first | exact (decide_eq_true (by omega)).symm | exact (decide_eq_false (by omega)).symm)), rfl⟩
                            · skip
                              refine g_iload C 6 rfl dX8_isStronger_113 ?_
                              refine g_if_eqB C (decide (a / 8 % 8 ≠ 4 ∨ a % 8 ≠ 4 ∨ w / 8 % 8 = w % 8)) 122 rfl dX8_isStronger_115 rfl (fun c115 => ?_) (fun c115 => ?_)
                              · skip
                                refine g_iconst C (nI 0) ic_0 dX8_isStronger_122 ?_
                                exact g_zret E false rfl dX8_isStronger_123 (by decide) (by decide) ⟨(congrArg (fun z => some (Value.int (bI z))) (by (try simp only [decide_eq_true_eq, decide_eq_false_iff_not] at c105); (try simp only [decide_eq_true_eq, decide_eq_false_iff_not] at c110); (try simp only [decide_eq_true_eq, decide_eq_false_iff_not] at c115); unfold spF; first | exact (decide_eq_true (by omega)).symm | exact (decide_eq_false (by omega)).symm)), rfl⟩
                              · skip
                                refine g_iconst C (nI 1) ic_1 dX8_isStronger_118 ?_
                                refine g_goto C 123 dX8_isStronger_119 rfl ?_
                                exact g_zret E true rfl dX8_isStronger_123 (by decide) (by decide) ⟨(congrArg (fun z => some (Value.int (bI z))) (by (try simp only [decide_eq_true_eq, decide_eq_false_iff_not] at c105); (try simp only [decide_eq_true_eq, decide_eq_false_iff_not] at c110); (try simp only [decide_eq_true_eq, decide_eq_false_iff_not] at c115); unfold spF; first | exact (decide_eq_true (by omega)).symm | exact (decide_eq_false (by omega)).symm)), rfl⟩
                    exact L87  
                  · skip
                    refine g_iconst C (nI 1) ic_1 dX8_isStronger_80 ?_
                    refine g_goto C 85 dX8_isStronger_81 rfl ?_
                    refine g_st [.int (bI (decide (a / 8 % 8 ≠ 4 ∨ a % 8 ≠ 4 ∨ w / 8 % 8 = w % 8)))] (congrArg (fun z => [Value.int z]) (by first | (rw [decide_eq_true (by omega)]; rfl) | (rw [decide_eq_false (by omega)]; rfl))) ?_
                    refine g_istore C [(6, .int (bI (decide (a / 8 % 8 ≠ 4 ∨ a % 8 ≠ 4 ∨ w / 8 % 8 = w % 8)))), (0, .int (nI a)), (1, .int (nI w)), (2, .int (nI ((a / 8) % 8))), (3, .int (nI (a % 8))), (4, .int (bI (decide (a / 8 % 8 = 4 ∨ a / 8 % 8 = w / 8 % 8)))), (5, .int (bI (decide (3 < a % 8 ∨ a % 8 = w % 8))))] dX8_isStronger_85 (by decide) rfl ?_
                    refine g_lo [1, 2, 3, 4, 5, 6, 0] [(0, .int (nI a)), (1, .int (nI w)), (2, .int (nI ((a / 8) % 8))), (3, .int (nI (a % 8))), (4, .int (bI (decide (a / 8 % 8 = 4 ∨ a / 8 % 8 = w / 8 % 8)))), (5, .int (bI (decide (3 < a % 8 ∨ a % 8 = w % 8)))), (6, .int (bI (decide (a / 8 % 8 ≠ 4 ∨ a % 8 ≠ 4 ∨ w / 8 % 8 = w % 8))))] rfl ?_
                    have L87 : gW pg l en r_X8_isStronger s0 mi ag bl mth cd 7 D AA HH QQ 87 [(0, .int (nI a)), (1, .int (nI w)), (2, .int (nI ((a / 8) % 8))), (3, .int (nI (a % 8))), (4, .int (bI (decide (a / 8 % 8 = 4 ∨ a / 8 % 8 = w / 8 % 8)))), (5, .int (bI (decide (3 < a % 8 ∨ a % 8 = w % 8)))), (6, .int (bI (decide (a / 8 % 8 ≠ 4 ∨ a % 8 ≠ 4 ∨ w / 8 % 8 = w % 8))))] [] [] 0 0 := by
                      skip
                      refine g_iload_n C 0 rfl dX8_isStronger_87 ?_
                      refine g_iload_n C 1 rfl dX8_isStronger_88 ?_
                      refine g_icmp_eqN C a w 122 rfl rfl (by omega) (by omega) dX8_isStronger_89 rfl (fun c89 => ?_) (fun c89 => ?_)
                      · skip
                        refine g_iconst C (nI 0) ic_0 dX8_isStronger_122 ?_
                        exact g_zret E false rfl dX8_isStronger_123 (by decide) (by decide) ⟨(congrArg (fun z => some (Value.int (bI z))) (by (try simp only [decide_eq_true_eq, decide_eq_false_iff_not] at c105); (try simp only [decide_eq_true_eq, decide_eq_false_iff_not] at c110); (try simp only [decide_eq_true_eq, decide_eq_false_iff_not] at c115); unfold spF; first | exact (decide_eq_true (by omega)).symm | exact (decide_eq_false (by omega)).symm)), rfl⟩
                      · skip
                        refine g_iload_n C 0 rfl dX8_isStronger_92 ?_
                        refine g_bipush C (nI 64) bp_64 dX8_isStronger_93 ?_
                        refine g_idiv C (nI (a / 64)) (by decide +kernel) dX8_isStronger_95 (pk_div (by omega) (by omega) (by omega)) ?_
                        refine g_iload_n C 1 rfl dX8_isStronger_96 ?_
                        refine g_bipush C (nI 64) bp_64 dX8_isStronger_97 ?_
                        refine g_idiv C (nI (w / 64)) (by decide +kernel) dX8_isStronger_99 (pk_div (by omega) (by omega) (by omega)) ?_
                        refine g_icmp_neN C (a / 64) (w / 64) 122 rfl rfl (by omega) (by omega) dX8_isStronger_100 rfl (fun c100 => ?_) (fun c100 => ?_)
                        · skip
                          refine g_iconst C (nI 0) ic_0 dX8_isStronger_122 ?_
                          exact g_zret E false rfl dX8_isStronger_123 (by decide) (by decide) ⟨(congrArg (fun z => some (Value.int (bI z))) (by (try simp only [decide_eq_true_eq, decide_eq_false_iff_not] at c105); (try simp only [decide_eq_true_eq, decide_eq_false_iff_not] at c110); (try simp only [decide_eq_true_eq, decide_eq_false_iff_not] at c115); unfold spF; first | exact (decide_eq_true (by omega)).symm | exact (decide_eq_false (by omega)).symm)), rfl⟩
                        · skip
                          refine g_iload C 4 rfl dX8_isStronger_103 ?_
                          refine g_if_eqB C (decide (a / 8 % 8 = 4 ∨ a / 8 % 8 = w / 8 % 8)) 122 rfl dX8_isStronger_105 rfl (fun c105 => ?_) (fun c105 => ?_)
                          · skip
                            refine g_iconst C (nI 0) ic_0 dX8_isStronger_122 ?_
                            exact g_zret E false rfl dX8_isStronger_123 (by decide) (by decide) ⟨(congrArg (fun z => some (Value.int (bI z))) (by (try simp only [decide_eq_true_eq, decide_eq_false_iff_not] at c105); (try simp only [decide_eq_true_eq, decide_eq_false_iff_not] at c110); (try simp only [decide_eq_true_eq, decide_eq_false_iff_not] at c115); unfold spF; first | exact (decide_eq_true (by omega)).symm | exact (decide_eq_false (by omega)).symm)), rfl⟩
                          · skip
                            refine g_iload C 5 rfl dX8_isStronger_108 ?_
                            refine g_if_eqB C (decide (3 < a % 8 ∨ a % 8 = w % 8)) 122 rfl dX8_isStronger_110 rfl (fun c110 => ?_) (fun c110 => ?_)
                            · skip
                              refine g_iconst C (nI 0) ic_0 dX8_isStronger_122 ?_
                              exact g_zret E false rfl dX8_isStronger_123 (by decide) (by decide) ⟨(congrArg (fun z => some (Value.int (bI z))) (by (try simp only [decide_eq_true_eq, decide_eq_false_iff_not] at c105); (try simp only [decide_eq_true_eq, decide_eq_false_iff_not] at c110); (try simp only [decide_eq_true_eq, decide_eq_false_iff_not] at c115); unfold spF; first | exact (decide_eq_true (by omega)).symm | exact (decide_eq_false (by omega)).symm)), rfl⟩
                            · skip
                              refine g_iload C 6 rfl dX8_isStronger_113 ?_
                              refine g_if_eqB C (decide (a / 8 % 8 ≠ 4 ∨ a % 8 ≠ 4 ∨ w / 8 % 8 = w % 8)) 122 rfl dX8_isStronger_115 rfl (fun c115 => ?_) (fun c115 => ?_)
                              · skip
                                refine g_iconst C (nI 0) ic_0 dX8_isStronger_122 ?_
                                exact g_zret E false rfl dX8_isStronger_123 (by decide) (by decide) ⟨(congrArg (fun z => some (Value.int (bI z))) (by (try simp only [decide_eq_true_eq, decide_eq_false_iff_not] at c105); (try simp only [decide_eq_true_eq, decide_eq_false_iff_not] at c110); (try simp only [decide_eq_true_eq, decide_eq_false_iff_not] at c115); unfold spF; first | exact (decide_eq_true (by omega)).symm | exact (decide_eq_false (by omega)).symm)), rfl⟩
                              · skip
                                refine g_iconst C (nI 1) ic_1 dX8_isStronger_118 ?_
                                refine g_goto C 123 dX8_isStronger_119 rfl ?_
                                exact g_zret E true rfl dX8_isStronger_123 (by decide) (by decide) ⟨(congrArg (fun z => some (Value.int (bI z))) (by (try simp only [decide_eq_true_eq, decide_eq_false_iff_not] at c105); (try simp only [decide_eq_true_eq, decide_eq_false_iff_not] at c110); (try simp only [decide_eq_true_eq, decide_eq_false_iff_not] at c115); unfold spF; first | exact (decide_eq_true (by omega)).symm | exact (decide_eq_false (by omega)).symm)), rfl⟩
                    exact L87  
            exact L56  
      exact L36  
    · skip
      refine g_iconst C (nI 1) ic_1 dX8_isStronger_29 ?_
      refine g_goto C 34 dX8_isStronger_30 rfl ?_
      refine g_st [.int (bI (decide (a / 8 % 8 = 4 ∨ a / 8 % 8 = w / 8 % 8)))] (congrArg (fun z => [Value.int z]) (by first | (rw [decide_eq_true (by omega)]; rfl) | (rw [decide_eq_false (by omega)]; rfl))) ?_
      refine g_istore C [(4, .int (bI (decide (a / 8 % 8 = 4 ∨ a / 8 % 8 = w / 8 % 8)))), (3, .int (nI (a % 8))), (2, .int (nI ((a / 8) % 8))), (0, .int (nI a)), (1, .int (nI w))] dX8_isStronger_34 (by decide) rfl ?_
      refine g_lo [3, 4, 2, 1, 0] [(0, .int (nI a)), (1, .int (nI w)), (2, .int (nI ((a / 8) % 8))), (3, .int (nI (a % 8))), (4, .int (bI (decide (a / 8 % 8 = 4 ∨ a / 8 % 8 = w / 8 % 8))))] rfl ?_
      have L36 : gW pg l en r_X8_isStronger s0 mi ag bl mth cd 7 D AA HH QQ 36 [(0, .int (nI a)), (1, .int (nI w)), (2, .int (nI ((a / 8) % 8))), (3, .int (nI (a % 8))), (4, .int (bI (decide (a / 8 % 8 = 4 ∨ a / 8 % 8 = w / 8 % 8))))] [] [] 0 0 := by
        skip
        refine g_iload_n C 3 rfl dX8_isStronger_36 ?_
        refine g_iconst C (nI 3) ic_3 dX8_isStronger_37 ?_
        refine g_icmp_gtN C (a % 8) 3 49 rfl rfl (by omega) (by omega) dX8_isStronger_38 rfl (fun c38 => ?_) (fun c38 => ?_)
        · skip
          refine g_iconst C (nI 1) ic_1 dX8_isStronger_49 ?_
          refine g_goto C 54 dX8_isStronger_50 rfl ?_
          refine g_st [.int (bI (decide (3 < a % 8 ∨ a % 8 = w % 8)))] (congrArg (fun z => [Value.int z]) (by first | (rw [decide_eq_true (by omega)]; rfl) | (rw [decide_eq_false (by omega)]; rfl))) ?_
          refine g_istore C [(5, .int (bI (decide (3 < a % 8 ∨ a % 8 = w % 8)))), (0, .int (nI a)), (1, .int (nI w)), (2, .int (nI ((a / 8) % 8))), (3, .int (nI (a % 8))), (4, .int (bI (decide (a / 8 % 8 = 4 ∨ a / 8 % 8 = w / 8 % 8))))] dX8_isStronger_54 (by decide) rfl ?_
          refine g_lo [1, 2, 3, 4, 5, 0] [(0, .int (nI a)), (1, .int (nI w)), (2, .int (nI ((a / 8) % 8))), (3, .int (nI (a % 8))), (4, .int (bI (decide (a / 8 % 8 = 4 ∨ a / 8 % 8 = w / 8 % 8)))), (5, .int (bI (decide (3 < a % 8 ∨ a % 8 = w % 8))))] rfl ?_
          have L56 : gW pg l en r_X8_isStronger s0 mi ag bl mth cd 7 D AA HH QQ 56 [(0, .int (nI a)), (1, .int (nI w)), (2, .int (nI ((a / 8) % 8))), (3, .int (nI (a % 8))), (4, .int (bI (decide (a / 8 % 8 = 4 ∨ a / 8 % 8 = w / 8 % 8)))), (5, .int (bI (decide (3 < a % 8 ∨ a % 8 = w % 8))))] [] [] 0 0 := by
            skip
            refine g_iload_n C 2 rfl dX8_isStronger_56 ?_
            refine g_iconst C (nI 4) ic_4 dX8_isStronger_57 ?_
            refine g_icmp_neN C ((a / 8) % 8) 4 80 rfl rfl (by omega) (by omega) dX8_isStronger_58 rfl (fun c58 => ?_) (fun c58 => ?_)
            · skip
              refine g_iconst C (nI 1) ic_1 dX8_isStronger_80 ?_
              refine g_goto C 85 dX8_isStronger_81 rfl ?_
              refine g_st [.int (bI (decide (a / 8 % 8 ≠ 4 ∨ a % 8 ≠ 4 ∨ w / 8 % 8 = w % 8)))] (congrArg (fun z => [Value.int z]) (by first | (rw [decide_eq_true (by omega)]; rfl) | (rw [decide_eq_false (by omega)]; rfl))) ?_
              refine g_istore C [(6, .int (bI (decide (a / 8 % 8 ≠ 4 ∨ a % 8 ≠ 4 ∨ w / 8 % 8 = w % 8)))), (0, .int (nI a)), (1, .int (nI w)), (2, .int (nI ((a / 8) % 8))), (3, .int (nI (a % 8))), (4, .int (bI (decide (a / 8 % 8 = 4 ∨ a / 8 % 8 = w / 8 % 8)))), (5, .int (bI (decide (3 < a % 8 ∨ a % 8 = w % 8))))] dX8_isStronger_85 (by decide) rfl ?_
              refine g_lo [1, 2, 3, 4, 5, 6, 0] [(0, .int (nI a)), (1, .int (nI w)), (2, .int (nI ((a / 8) % 8))), (3, .int (nI (a % 8))), (4, .int (bI (decide (a / 8 % 8 = 4 ∨ a / 8 % 8 = w / 8 % 8)))), (5, .int (bI (decide (3 < a % 8 ∨ a % 8 = w % 8)))), (6, .int (bI (decide (a / 8 % 8 ≠ 4 ∨ a % 8 ≠ 4 ∨ w / 8 % 8 = w % 8))))] rfl ?_
              have L87 : gW pg l en r_X8_isStronger s0 mi ag bl mth cd 7 D AA HH QQ 87 [(0, .int (nI a)), (1, .int (nI w)), (2, .int (nI ((a / 8) % 8))), (3, .int (nI (a % 8))), (4, .int (bI (decide (a / 8 % 8 = 4 ∨ a / 8 % 8 = w / 8 % 8)))), (5, .int (bI (decide (3 < a % 8 ∨ a % 8 = w % 8)))), (6, .int (bI (decide (a / 8 % 8 ≠ 4 ∨ a % 8 ≠ 4 ∨ w / 8 % 8 = w % 8))))] [] [] 0 0 := by
                skip
                refine g_iload_n C 0 rfl dX8_isStronger_87 ?_
                refine g_iload_n C 1 rfl dX8_isStronger_88 ?_
                refine g_icmp_eqN C a w 122 rfl rfl (by omega) (by omega) dX8_isStronger_89 rfl (fun c89 => ?_) (fun c89 => ?_)
                · skip
                  refine g_iconst C (nI 0) ic_0 dX8_isStronger_122 ?_
                  exact g_zret E false rfl dX8_isStronger_123 (by decide) (by decide) ⟨(congrArg (fun z => some (Value.int (bI z))) (by (try simp only [decide_eq_true_eq, decide_eq_false_iff_not] at c105); (try simp only [decide_eq_true_eq, decide_eq_false_iff_not] at c110); (try simp only [decide_eq_true_eq, decide_eq_false_iff_not] at c115); unfold spF; first | exact (decide_eq_true (by omega)).symm | exact (decide_eq_false (by omega)).symm)), rfl⟩
                · skip
                  refine g_iload_n C 0 rfl dX8_isStronger_92 ?_
                  refine g_bipush C (nI 64) bp_64 dX8_isStronger_93 ?_
                  refine g_idiv C (nI (a / 64)) (by decide +kernel) dX8_isStronger_95 (pk_div (by omega) (by omega) (by omega)) ?_
                  refine g_iload_n C 1 rfl dX8_isStronger_96 ?_
                  refine g_bipush C (nI 64) bp_64 dX8_isStronger_97 ?_
                  refine g_idiv C (nI (w / 64)) (by decide +kernel) dX8_isStronger_99 (pk_div (by omega) (by omega) (by omega)) ?_
                  refine g_icmp_neN C (a / 64) (w / 64) 122 rfl rfl (by omega) (by omega) dX8_isStronger_100 rfl (fun c100 => ?_) (fun c100 => ?_)
                  · skip
                    refine g_iconst C (nI 0) ic_0 dX8_isStronger_122 ?_
                    exact g_zret E false rfl dX8_isStronger_123 (by decide) (by decide) ⟨(congrArg (fun z => some (Value.int (bI z))) (by (try simp only [decide_eq_true_eq, decide_eq_false_iff_not] at c105); (try simp only [decide_eq_true_eq, decide_eq_false_iff_not] at c110); (try simp only [decide_eq_true_eq, decide_eq_false_iff_not] at c115); unfold spF; first | exact (decide_eq_true (by omega)).symm | exact (decide_eq_false (by omega)).symm)), rfl⟩
                  · skip
                    refine g_iload C 4 rfl dX8_isStronger_103 ?_
                    refine g_if_eqB C (decide (a / 8 % 8 = 4 ∨ a / 8 % 8 = w / 8 % 8)) 122 rfl dX8_isStronger_105 rfl (fun c105 => ?_) (fun c105 => ?_)
                    · skip
                      refine g_iconst C (nI 0) ic_0 dX8_isStronger_122 ?_
                      exact g_zret E false rfl dX8_isStronger_123 (by decide) (by decide) ⟨(congrArg (fun z => some (Value.int (bI z))) (by (try simp only [decide_eq_true_eq, decide_eq_false_iff_not] at c105); (try simp only [decide_eq_true_eq, decide_eq_false_iff_not] at c110); (try simp only [decide_eq_true_eq, decide_eq_false_iff_not] at c115); unfold spF; first | exact (decide_eq_true (by omega)).symm | exact (decide_eq_false (by omega)).symm)), rfl⟩
                    · skip
                      refine g_iload C 5 rfl dX8_isStronger_108 ?_
                      refine g_if_eqB C (decide (3 < a % 8 ∨ a % 8 = w % 8)) 122 rfl dX8_isStronger_110 rfl (fun c110 => ?_) (fun c110 => ?_)
                      · skip
                        refine g_iconst C (nI 0) ic_0 dX8_isStronger_122 ?_
                        exact g_zret E false rfl dX8_isStronger_123 (by decide) (by decide) ⟨(congrArg (fun z => some (Value.int (bI z))) (by (try simp only [decide_eq_true_eq, decide_eq_false_iff_not] at c105); (try simp only [decide_eq_true_eq, decide_eq_false_iff_not] at c110); (try simp only [decide_eq_true_eq, decide_eq_false_iff_not] at c115); unfold spF; first | exact (decide_eq_true (by omega)).symm | exact (decide_eq_false (by omega)).symm)), rfl⟩
                      · skip
                        refine g_iload C 6 rfl dX8_isStronger_113 ?_
                        refine g_if_eqB C (decide (a / 8 % 8 ≠ 4 ∨ a % 8 ≠ 4 ∨ w / 8 % 8 = w % 8)) 122 rfl dX8_isStronger_115 rfl (fun c115 => ?_) (fun c115 => ?_)
                        · skip
                          refine g_iconst C (nI 0) ic_0 dX8_isStronger_122 ?_
                          exact g_zret E false rfl dX8_isStronger_123 (by decide) (by decide) ⟨(congrArg (fun z => some (Value.int (bI z))) (by (try simp only [decide_eq_true_eq, decide_eq_false_iff_not] at c105); (try simp only [decide_eq_true_eq, decide_eq_false_iff_not] at c110); (try simp only [decide_eq_true_eq, decide_eq_false_iff_not] at c115); unfold spF; first | exact (decide_eq_true (by omega)).symm | exact (decide_eq_false (by omega)).symm)), rfl⟩
                        · skip
                          refine g_iconst C (nI 1) ic_1 dX8_isStronger_118 ?_
                          refine g_goto C 123 dX8_isStronger_119 rfl ?_
                          exact g_zret E true rfl dX8_isStronger_123 (by decide) (by decide) ⟨(congrArg (fun z => some (Value.int (bI z))) (by (try simp only [decide_eq_true_eq, decide_eq_false_iff_not] at c105); (try simp only [decide_eq_true_eq, decide_eq_false_iff_not] at c110); (try simp only [decide_eq_true_eq, decide_eq_false_iff_not] at c115); unfold spF; first | exact (decide_eq_true (by omega)).symm | exact (decide_eq_false (by omega)).symm)), rfl⟩
              exact L87  
            · skip
              refine g_iload_n C 3 rfl dX8_isStronger_61 ?_
              refine g_iconst C (nI 4) ic_4 dX8_isStronger_62 ?_
              refine g_icmp_neN C (a % 8) 4 80 rfl rfl (by omega) (by omega) dX8_isStronger_63 rfl (fun c63 => ?_) (fun c63 => ?_)
              · skip
                refine g_iconst C (nI 1) ic_1 dX8_isStronger_80 ?_
                refine g_goto C 85 dX8_isStronger_81 rfl ?_
                refine g_st [.int (bI (decide (a / 8 % 8 ≠ 4 ∨ a % 8 ≠ 4 ∨ w / 8 % 8 = w % 8)))] (congrArg (fun z => [Value.int z]) (by first | (rw [decide_eq_true (by omega)]; rfl) | (rw [decide_eq_false (by omega)]; rfl))) ?_
                refine g_istore C [(6, .int (bI (decide (a / 8 % 8 ≠ 4 ∨ a % 8 ≠ 4 ∨ w / 8 % 8 = w % 8)))), (0, .int (nI a)), (1, .int (nI w)), (2, .int (nI ((a / 8) % 8))), (3, .int (nI (a % 8))), (4, .int (bI (decide (a / 8 % 8 = 4 ∨ a / 8 % 8 = w / 8 % 8)))), (5, .int (bI (decide (3 < a % 8 ∨ a % 8 = w % 8))))] dX8_isStronger_85 (by decide) rfl ?_
                refine g_lo [1, 2, 3, 4, 5, 6, 0] [(0, .int (nI a)), (1, .int (nI w)), (2, .int (nI ((a / 8) % 8))), (3, .int (nI (a % 8))), (4, .int (bI (decide (a / 8 % 8 = 4 ∨ a / 8 % 8 = w / 8 % 8)))), (5, .int (bI (decide (3 < a % 8 ∨ a % 8 = w % 8)))), (6, .int (bI (decide (a / 8 % 8 ≠ 4 ∨ a % 8 ≠ 4 ∨ w / 8 % 8 = w % 8))))] rfl ?_
                have L87 : gW pg l en r_X8_isStronger s0 mi ag bl mth cd 7 D AA HH QQ 87 [(0, .int (nI a)), (1, .int (nI w)), (2, .int (nI ((a / 8) % 8))), (3, .int (nI (a % 8))), (4, .int (bI (decide (a / 8 % 8 = 4 ∨ a / 8 % 8 = w / 8 % 8)))), (5, .int (bI (decide (3 < a % 8 ∨ a % 8 = w % 8)))), (6, .int (bI (decide (a / 8 % 8 ≠ 4 ∨ a % 8 ≠ 4 ∨ w / 8 % 8 = w % 8))))] [] [] 0 0 := by
                  skip
                  refine g_iload_n C 0 rfl dX8_isStronger_87 ?_
                  refine g_iload_n C 1 rfl dX8_isStronger_88 ?_
                  refine g_icmp_eqN C a w 122 rfl rfl (by omega) (by omega) dX8_isStronger_89 rfl (fun c89 => ?_) (fun c89 => ?_)
                  · skip
                    refine g_iconst C (nI 0) ic_0 dX8_isStronger_122 ?_
                    exact g_zret E false rfl dX8_isStronger_123 (by decide) (by decide) ⟨(congrArg (fun z => some (Value.int (bI z))) (by (try simp only [decide_eq_true_eq, decide_eq_false_iff_not] at c105); (try simp only [decide_eq_true_eq, decide_eq_false_iff_not] at c110); (try simp only [decide_eq_true_eq, decide_eq_false_iff_not] at c115); unfold spF; first | exact (decide_eq_true (by omega)).symm | exact (decide_eq_false (by omega)).symm)), rfl⟩
                  · skip
                    refine g_iload_n C 0 rfl dX8_isStronger_92 ?_
                    refine g_bipush C (nI 64) bp_64 dX8_isStronger_93 ?_
                    refine g_idiv C (nI (a / 64)) (by decide +kernel) dX8_isStronger_95 (pk_div (by omega) (by omega) (by omega)) ?_
                    refine g_iload_n C 1 rfl dX8_isStronger_96 ?_
                    refine g_bipush C (nI 64) bp_64 dX8_isStronger_97 ?_
                    refine g_idiv C (nI (w / 64)) (by decide +kernel) dX8_isStronger_99 (pk_div (by omega) (by omega) (by omega)) ?_
                    refine g_icmp_neN C (a / 64) (w / 64) 122 rfl rfl (by omega) (by omega) dX8_isStronger_100 rfl (fun c100 => ?_) (fun c100 => ?_)
                    · skip
                      refine g_iconst C (nI 0) ic_0 dX8_isStronger_122 ?_
                      exact g_zret E false rfl dX8_isStronger_123 (by decide) (by decide) ⟨(congrArg (fun z => some (Value.int (bI z))) (by (try simp only [decide_eq_true_eq, decide_eq_false_iff_not] at c105); (try simp only [decide_eq_true_eq, decide_eq_false_iff_not] at c110); (try simp only [decide_eq_true_eq, decide_eq_false_iff_not] at c115); unfold spF; first | exact (decide_eq_true (by omega)).symm | exact (decide_eq_false (by omega)).symm)), rfl⟩
                    · skip
                      refine g_iload C 4 rfl dX8_isStronger_103 ?_
                      refine g_if_eqB C (decide (a / 8 % 8 = 4 ∨ a / 8 % 8 = w / 8 % 8)) 122 rfl dX8_isStronger_105 rfl (fun c105 => ?_) (fun c105 => ?_)
                      · skip
                        refine g_iconst C (nI 0) ic_0 dX8_isStronger_122 ?_
                        exact g_zret E false rfl dX8_isStronger_123 (by decide) (by decide) ⟨(congrArg (fun z => some (Value.int (bI z))) (by (try simp only [decide_eq_true_eq, decide_eq_false_iff_not] at c105); (try simp only [decide_eq_true_eq, decide_eq_false_iff_not] at c110); (try simp only [decide_eq_true_eq, decide_eq_false_iff_not] at c115); unfold spF; first | exact (decide_eq_true (by omega)).symm | exact (decide_eq_false (by omega)).symm)), rfl⟩
                      · skip
                        refine g_iload C 5 rfl dX8_isStronger_108 ?_
                        refine g_if_eqB C (decide (3 < a % 8 ∨ a % 8 = w % 8)) 122 rfl dX8_isStronger_110 rfl (fun c110 => ?_) (fun c110 => ?_)
                        · skip
                          refine g_iconst C (nI 0) ic_0 dX8_isStronger_122 ?_
                          exact g_zret E false rfl dX8_isStronger_123 (by decide) (by decide) ⟨(congrArg (fun z => some (Value.int (bI z))) (by (try simp only [decide_eq_true_eq, decide_eq_false_iff_not] at c105); (try simp only [decide_eq_true_eq, decide_eq_false_iff_not] at c110); (try simp only [decide_eq_true_eq, decide_eq_false_iff_not] at c115); unfold spF; first | exact (decide_eq_true (by omega)).symm | exact (decide_eq_false (by omega)).symm)), rfl⟩
                        · skip
                          refine g_iload C 6 rfl dX8_isStronger_113 ?_
                          refine g_if_eqB C (decide (a / 8 % 8 ≠ 4 ∨ a % 8 ≠ 4 ∨ w / 8 % 8 = w % 8)) 122 rfl dX8_isStronger_115 rfl (fun c115 => ?_) (fun c115 => ?_)
                          · skip
                            refine g_iconst C (nI 0) ic_0 dX8_isStronger_122 ?_
                            exact g_zret E false rfl dX8_isStronger_123 (by decide) (by decide) ⟨(congrArg (fun z => some (Value.int (bI z))) (by (try simp only [decide_eq_true_eq, decide_eq_false_iff_not] at c105); (try simp only [decide_eq_true_eq, decide_eq_false_iff_not] at c110); (try simp only [decide_eq_true_eq, decide_eq_false_iff_not] at c115); unfold spF; first | exact (decide_eq_true (by omega)).symm | exact (decide_eq_false (by omega)).symm)), rfl⟩
                          · skip
                            refine g_iconst C (nI 1) ic_1 dX8_isStronger_118 ?_
                            refine g_goto C 123 dX8_isStronger_119 rfl ?_
                            exact g_zret E true rfl dX8_isStronger_123 (by decide) (by decide) ⟨(congrArg (fun z => some (Value.int (bI z))) (by (try simp only [decide_eq_true_eq, decide_eq_false_iff_not] at c105); (try simp only [decide_eq_true_eq, decide_eq_false_iff_not] at c110); (try simp only [decide_eq_true_eq, decide_eq_false_iff_not] at c115); unfold spF; first | exact (decide_eq_true (by omega)).symm | exact (decide_eq_false (by omega)).symm)), rfl⟩
                exact L87  
              · skip
                refine g_iload_n C 1 rfl dX8_isStronger_66 ?_
                refine g_bipush C (nI 8) bp_8 dX8_isStronger_67 ?_
                refine g_idiv C (nI (w / 8)) (by decide +kernel) dX8_isStronger_69 (pk_div (by omega) (by omega) (by omega)) ?_
                refine g_bipush C (nI 8) bp_8 dX8_isStronger_70 ?_
                refine g_irem C (nI ((w / 8) % 8)) (by decide +kernel) dX8_isStronger_72 (pk_rem (by omega) (by omega) (by omega)) ?_
                refine g_iload_n C 1 rfl dX8_isStronger_73 ?_
                refine g_bipush C (nI 8) bp_8 dX8_isStronger_74 ?_
                refine g_irem C (nI (w % 8)) (by decide +kernel) dX8_isStronger_76 (pk_rem (by omega) (by omega) (by omega)) ?_
                refine g_icmp_neN C ((w / 8) % 8) (w % 8) 84 rfl rfl (by omega) (by omega) dX8_isStronger_77 rfl (fun c77 => ?_) (fun c77 => ?_)
                · skip
                  refine g_iconst C (nI 0) ic_0 dX8_isStronger_84 ?_
                  refine g_st [.int (bI (decide (a / 8 % 8 ≠ 4 ∨ a % 8 ≠ 4 ∨ w / 8 % 8 = w % 8)))] (congrArg (fun z => [Value.int z]) (by first | (rw [decide_eq_true (by omega)]; rfl) | (rw [decide_eq_false (by omega)]; rfl))) ?_
                  refine g_istore C [(6, .int (bI (decide (a / 8 % 8 ≠ 4 ∨ a % 8 ≠ 4 ∨ w / 8 % 8 = w % 8)))), (0, .int (nI a)), (1, .int (nI w)), (2, .int (nI ((a / 8) % 8))), (3, .int (nI (a % 8))), (4, .int (bI (decide (a / 8 % 8 = 4 ∨ a / 8 % 8 = w / 8 % 8)))), (5, .int (bI (decide (3 < a % 8 ∨ a % 8 = w % 8))))] dX8_isStronger_85 (by decide) rfl ?_
                  refine g_lo [1, 2, 3, 4, 5, 6, 0] [(0, .int (nI a)), (1, .int (nI w)), (2, .int (nI ((a / 8) % 8))), (3, .int (nI (a % 8))), (4, .int (bI (decide (a / 8 % 8 = 4 ∨ a / 8 % 8 = w / 8 % 8)))), (5, .int (bI (decide (3 < a % 8 ∨ a % 8 = w % 8)))), (6, .int (bI (decide (a / 8 % 8 ≠ 4 ∨ a % 8 ≠ 4 ∨ w / 8 % 8 = w % 8))))] rfl ?_
                  have L87 : gW pg l en r_X8_isStronger s0 mi ag bl mth cd 7 D AA HH QQ 87 [(0, .int (nI a)), (1, .int (nI w)), (2, .int (nI ((a / 8) % 8))), (3, .int (nI (a % 8))), (4, .int (bI (decide (a / 8 % 8 = 4 ∨ a / 8 % 8 = w / 8 % 8)))), (5, .int (bI (decide (3 < a % 8 ∨ a % 8 = w % 8)))), (6, .int (bI (decide (a / 8 % 8 ≠ 4 ∨ a % 8 ≠ 4 ∨ w / 8 % 8 = w % 8))))] [] [] 0 0 := by
                    skip
                    refine g_iload_n C 0 rfl dX8_isStronger_87 ?_
                    refine g_iload_n C 1 rfl dX8_isStronger_88 ?_
                    refine g_icmp_eqN C a w 122 rfl rfl (by omega) (by omega) dX8_isStronger_89 rfl (fun c89 => ?_) (fun c89 => ?_)
                    · skip
                      refine g_iconst C (nI 0) ic_0 dX8_isStronger_122 ?_
                      exact g_zret E false rfl dX8_isStronger_123 (by decide) (by decide) ⟨(congrArg (fun z => some (Value.int (bI z))) (by (try simp only [decide_eq_true_eq, decide_eq_false_iff_not] at c105); (try simp only [decide_eq_true_eq, decide_eq_false_iff_not] at c110); (try simp only [decide_eq_true_eq, decide_eq_false_iff_not] at c115); unfold spF; first | exact (decide_eq_true (by omega)).symm | exact (decide_eq_false (by omega)).symm)), rfl⟩
                    · skip
                      refine g_iload_n C 0 rfl dX8_isStronger_92 ?_
                      refine g_bipush C (nI 64) bp_64 dX8_isStronger_93 ?_
                      refine g_idiv C (nI (a / 64)) (by decide +kernel) dX8_isStronger_95 (pk_div (by omega) (by omega) (by omega)) ?_
                      refine g_iload_n C 1 rfl dX8_isStronger_96 ?_
                      refine g_bipush C (nI 64) bp_64 dX8_isStronger_97 ?_
                      refine g_idiv C (nI (w / 64)) (by decide +kernel) dX8_isStronger_99 (pk_div (by omega) (by omega) (by omega)) ?_
                      refine g_icmp_neN C (a / 64) (w / 64) 122 rfl rfl (by omega) (by omega) dX8_isStronger_100 rfl (fun c100 => ?_) (fun c100 => ?_)
                      · skip
                        refine g_iconst C (nI 0) ic_0 dX8_isStronger_122 ?_
                        exact g_zret E false rfl dX8_isStronger_123 (by decide) (by decide) ⟨(congrArg (fun z => some (Value.int (bI z))) (by (try simp only [decide_eq_true_eq, decide_eq_false_iff_not] at c105); (try simp only [decide_eq_true_eq, decide_eq_false_iff_not] at c110); (try simp only [decide_eq_true_eq, decide_eq_false_iff_not] at c115); unfold spF; first | exact (decide_eq_true (by omega)).symm | exact (decide_eq_false (by omega)).symm)), rfl⟩
                      · skip
                        refine g_iload C 4 rfl dX8_isStronger_103 ?_
                        refine g_if_eqB C (decide (a / 8 % 8 = 4 ∨ a / 8 % 8 = w / 8 % 8)) 122 rfl dX8_isStronger_105 rfl (fun c105 => ?_) (fun c105 => ?_)
                        · skip
                          refine g_iconst C (nI 0) ic_0 dX8_isStronger_122 ?_
                          exact g_zret E false rfl dX8_isStronger_123 (by decide) (by decide) ⟨(congrArg (fun z => some (Value.int (bI z))) (by (try simp only [decide_eq_true_eq, decide_eq_false_iff_not] at c105); (try simp only [decide_eq_true_eq, decide_eq_false_iff_not] at c110); (try simp only [decide_eq_true_eq, decide_eq_false_iff_not] at c115); unfold spF; first | exact (decide_eq_true (by omega)).symm | exact (decide_eq_false (by omega)).symm)), rfl⟩
                        · skip
                          refine g_iload C 5 rfl dX8_isStronger_108 ?_
                          refine g_if_eqB C (decide (3 < a % 8 ∨ a % 8 = w % 8)) 122 rfl dX8_isStronger_110 rfl (fun c110 => ?_) (fun c110 => ?_)
                          · skip
                            refine g_iconst C (nI 0) ic_0 dX8_isStronger_122 ?_
                            exact g_zret E false rfl dX8_isStronger_123 (by decide) (by decide) ⟨(congrArg (fun z => some (Value.int (bI z))) (by (try simp only [decide_eq_true_eq, decide_eq_false_iff_not] at c105); (try simp only [decide_eq_true_eq, decide_eq_false_iff_not] at c110); (try simp only [decide_eq_true_eq, decide_eq_false_iff_not] at c115); unfold spF; first | exact (decide_eq_true (by omega)).symm | exact (decide_eq_false (by omega)).symm)), rfl⟩
                          · skip
                            refine g_iload C 6 rfl dX8_isStronger_113 ?_
                            refine g_if_eqB C (decide (a / 8 % 8 ≠ 4 ∨ a % 8 ≠ 4 ∨ w / 8 % 8 = w % 8)) 122 rfl dX8_isStronger_115 rfl (fun c115 => ?_) (fun c115 => ?_)
                            · skip
                              refine g_iconst C (nI 0) ic_0 dX8_isStronger_122 ?_
                              exact g_zret E false rfl dX8_isStronger_123 (by decide) (by decide) ⟨(congrArg (fun z => some (Value.int (bI z))) (by (try simp only [decide_eq_true_eq, decide_eq_false_iff_not] at c105); (try simp only [decide_eq_true_eq, decide_eq_false_iff_not] at c110); (try simp only [decide_eq_true_eq, decide_eq_false_iff_not] at c115); unfold spF; first | exact (decide_eq_true (by omega)).symm | exact (decide_eq_false (by omega)).symm)), rfl⟩
                            · skip
                              refine g_iconst C (nI 1) ic_1 dX8_isStronger_118 ?_
                              refine g_goto C 123 dX8_isStronger_119 rfl ?_
                              exact g_zret E true rfl dX8_isStronger_123 (by decide) (by decide) ⟨(congrArg (fun z => some (Value.int (bI z))) (by (try simp only [decide_eq_true_eq, decide_eq_false_iff_not] at c105); (try simp only [decide_eq_true_eq, decide_eq_false_iff_not] at c110); (try simp only [decide_eq_true_eq, decide_eq_false_iff_not] at c115); unfold spF; first | exact (decide_eq_true (by omega)).symm | exact (decide_eq_false (by omega)).symm)), rfl⟩
                  exact L87  
                · skip
                  refine g_iconst C (nI 1) ic_1 dX8_isStronger_80 ?_
                  refine g_goto C 85 dX8_isStronger_81 rfl ?_
                  refine g_st [.int (bI (decide (a / 8 % 8 ≠ 4 ∨ a % 8 ≠ 4 ∨ w / 8 % 8 = w % 8)))] (congrArg (fun z => [Value.int z]) (by first | (rw [decide_eq_true (by omega)]; rfl) | (rw [decide_eq_false (by omega)]; rfl))) ?_
                  refine g_istore C [(6, .int (bI (decide (a / 8 % 8 ≠ 4 ∨ a % 8 ≠ 4 ∨ w / 8 % 8 = w % 8)))), (0, .int (nI a)), (1, .int (nI w)), (2, .int (nI ((a / 8) % 8))), (3, .int (nI (a % 8))), (4, .int (bI (decide (a / 8 % 8 = 4 ∨ a / 8 % 8 = w / 8 % 8)))), (5, .int (bI (decide (3 < a % 8 ∨ a % 8 = w % 8))))] dX8_isStronger_85 (by decide) rfl ?_
                  refine g_lo [1, 2, 3, 4, 5, 6, 0] [(0, .int (nI a)), (1, .int (nI w)), (2, .int (nI ((a / 8) % 8))), (3, .int (nI (a % 8))), (4, .int (bI (decide (a / 8 % 8 = 4 ∨ a / 8 % 8 = w / 8 % 8)))), (5, .int (bI (decide (3 < a % 8 ∨ a % 8 = w % 8)))), (6, .int (bI (decide (a / 8 % 8 ≠ 4 ∨ a % 8 ≠ 4 ∨ w / 8 % 8 = w % 8))))] rfl ?_
                  have L87 : gW pg l en r_X8_isStronger s0 mi ag bl mth cd 7 D AA HH QQ 87 [(0, .int (nI a)), (1, .int (nI w)), (2, .int (nI ((a / 8) % 8))), (3, .int (nI (a % 8))), (4, .int (bI (decide (a / 8 % 8 = 4 ∨ a / 8 % 8 = w / 8 % 8)))), (5, .int (bI (decide (3 < a % 8 ∨ a % 8 = w % 8)))), (6, .int (bI (decide (a / 8 % 8 ≠ 4 ∨ a % 8 ≠ 4 ∨ w / 8 % 8 = w % 8))))] [] [] 0 0 := by
                    skip
                    refine g_iload_n C 0 rfl dX8_isStronger_87 ?_
                    refine g_iload_n C 1 rfl dX8_isStronger_88 ?_
                    refine g_icmp_eqN C a w 122 rfl rfl (by omega) (by omega) dX8_isStronger_89 rfl (fun c89 => ?_) (fun c89 => ?_)
                    · skip
                      refine g_iconst C (nI 0) ic_0 dX8_isStronger_122 ?_
                      exact g_zret E false rfl dX8_isStronger_123 (by decide) (by decide) ⟨(congrArg (fun z => some (Value.int (bI z))) (by (try simp only [decide_eq_true_eq, decide_eq_false_iff_not] at c105); (try simp only [decide_eq_true_eq, decide_eq_false_iff_not] at c110); (try simp only [decide_eq_true_eq, decide_eq_false_iff_not] at c115); unfold spF; first | exact (decide_eq_true (by omega)).symm | exact (decide_eq_false (by omega)).symm)), rfl⟩
                    · skip
                      refine g_iload_n C 0 rfl dX8_isStronger_92 ?_
                      refine g_bipush C (nI 64) bp_64 dX8_isStronger_93 ?_
                      refine g_idiv C (nI (a / 64)) (by decide +kernel) dX8_isStronger_95 (pk_div (by omega) (by omega) (by omega)) ?_
                      refine g_iload_n C 1 rfl dX8_isStronger_96 ?_
                      refine g_bipush C (nI 64) bp_64 dX8_isStronger_97 ?_
                      refine g_idiv C (nI (w / 64)) (by decide +kernel) dX8_isStronger_99 (pk_div (by omega) (by omega) (by omega)) ?_
                      refine g_icmp_neN C (a / 64) (w / 64) 122 rfl rfl (by omega) (by omega) dX8_isStronger_100 rfl (fun c100 => ?_) (fun c100 => ?_)
                      · skip
                        refine g_iconst C (nI 0) ic_0 dX8_isStronger_122 ?_
                        exact g_zret E false rfl dX8_isStronger_123 (by decide) (by decide) ⟨(congrArg (fun z => some (Value.int (bI z))) (by (try simp only [decide_eq_true_eq, decide_eq_false_iff_not] at c105); (try simp only [decide_eq_true_eq, decide_eq_false_iff_not] at c110); (try simp only [decide_eq_true_eq, decide_eq_false_iff_not] at c115); unfold spF; first | exact (decide_eq_true (by omega)).symm | exact (decide_eq_false (by omega)).symm)), rfl⟩
                      · skip
                        refine g_iload C 4 rfl dX8_isStronger_103 ?_
                        refine g_if_eqB C (decide (a / 8 % 8 = 4 ∨ a / 8 % 8 = w / 8 % 8)) 122 rfl dX8_isStronger_105 rfl (fun c105 => ?_) (fun c105 => ?_)
                        · skip
                          refine g_iconst C (nI 0) ic_0 dX8_isStronger_122 ?_
                          exact g_zret E false rfl dX8_isStronger_123 (by decide) (by decide) ⟨(congrArg (fun z => some (Value.int (bI z))) (by (try simp only [decide_eq_true_eq, decide_eq_false_iff_not] at c105); (try simp only [decide_eq_true_eq, decide_eq_false_iff_not] at c110); (try simp only [decide_eq_true_eq, decide_eq_false_iff_not] at c115); unfold spF; first | exact (decide_eq_true (by omega)).symm | exact (decide_eq_false (by omega)).symm)), rfl⟩
                        · skip
                          refine g_iload C 5 rfl dX8_isStronger_108 ?_
                          refine g_if_eqB C (decide (3 < a % 8 ∨ a % 8 = w % 8)) 122 rfl dX8_isStronger_110 rfl (fun c110 => ?_) (fun c110 => ?_)
                          · skip
                            refine g_iconst C (nI 0) ic_0 dX8_isStronger_122 ?_
                            exact g_zret E false rfl dX8_isStronger_123 (by decide) (by decide) ⟨(congrArg (fun z => some (Value.int (bI z))) (by (try simp only [decide_eq_true_eq, decide_eq_false_iff_not] at c105); (try simp only [decide_eq_true_eq, decide_eq_false_iff_not] at c110); (try simp only [decide_eq_true_eq, decide_eq_false_iff_not] at c115); unfold spF; first | exact (decide_eq_true (by omega)).symm | exact (decide_eq_false (by omega)).symm)), rfl⟩
                          · skip
                            refine g_iload C 6 rfl dX8_isStronger_113 ?_
                            refine g_if_eqB C (decide (a / 8 % 8 ≠ 4 ∨ a % 8 ≠ 4 ∨ w / 8 % 8 = w % 8)) 122 rfl dX8_isStronger_115 rfl (fun c115 => ?_) (fun c115 => ?_)
                            · skip
                              refine g_iconst C (nI 0) ic_0 dX8_isStronger_122 ?_
                              exact g_zret E false rfl dX8_isStronger_123 (by decide) (by decide) ⟨(congrArg (fun z => some (Value.int (bI z))) (by (try simp only [decide_eq_true_eq, decide_eq_false_iff_not] at c105); (try simp only [decide_eq_true_eq, decide_eq_false_iff_not] at c110); (try simp only [decide_eq_true_eq, decide_eq_false_iff_not] at c115); unfold spF; first | exact (decide_eq_true (by omega)).symm | exact (decide_eq_false (by omega)).symm)), rfl⟩
                            · skip
                              refine g_iconst C (nI 1) ic_1 dX8_isStronger_118 ?_
                              refine g_goto C 123 dX8_isStronger_119 rfl ?_
                              exact g_zret E true rfl dX8_isStronger_123 (by decide) (by decide) ⟨(congrArg (fun z => some (Value.int (bI z))) (by (try simp only [decide_eq_true_eq, decide_eq_false_iff_not] at c105); (try simp only [decide_eq_true_eq, decide_eq_false_iff_not] at c110); (try simp only [decide_eq_true_eq, decide_eq_false_iff_not] at c115); unfold spF; first | exact (decide_eq_true (by omega)).symm | exact (decide_eq_false (by omega)).symm)), rfl⟩
                  exact L87  
          exact L56  
        · skip
          refine g_iload_n C 3 rfl dX8_isStronger_41 ?_
          refine g_iload_n C 1 rfl dX8_isStronger_42 ?_
          refine g_bipush C (nI 8) bp_8 dX8_isStronger_43 ?_
          refine g_irem C (nI (w % 8)) (by decide +kernel) dX8_isStronger_45 (pk_rem (by omega) (by omega) (by omega)) ?_
          refine g_icmp_neN C (a % 8) (w % 8) 53 rfl rfl (by omega) (by omega) dX8_isStronger_46 rfl (fun c46 => ?_) (fun c46 => ?_)
          · skip
            refine g_iconst C (nI 0) ic_0 dX8_isStronger_53 ?_
            refine g_st [.int (bI (decide (3 < a % 8 ∨ a % 8 = w % 8)))] (congrArg (fun z => [Value.int z]) (by first | (rw [decide_eq_true (by omega)]; rfl) | (rw [decide_eq_false (by omega)]; rfl))) ?_
            refine g_istore C [(5, .int (bI (decide (3 < a % 8 ∨ a % 8 = w % 8)))), (0, .int (nI a)), (1, .int (nI w)), (2, .int (nI ((a / 8) % 8))), (3, .int (nI (a % 8))), (4, .int (bI (decide (a / 8 % 8 = 4 ∨ a / 8 % 8 = w / 8 % 8))))] dX8_isStronger_54 (by decide) rfl ?_
            refine g_lo [1, 2, 3, 4, 5, 0] [(0, .int (nI a)), (1, .int (nI w)), (2, .int (nI ((a / 8) % 8))), (3, .int (nI (a % 8))), (4, .int (bI (decide (a / 8 % 8 = 4 ∨ a / 8 % 8 = w / 8 % 8)))), (5, .int (bI (decide (3 < a % 8 ∨ a % 8 = w % 8))))] rfl ?_
            have L56 : gW pg l en r_X8_isStronger s0 mi ag bl mth cd 7 D AA HH QQ 56 [(0, .int (nI a)), (1, .int (nI w)), (2, .int (nI ((a / 8) % 8))), (3, .int (nI (a % 8))), (4, .int (bI (decide (a / 8 % 8 = 4 ∨ a / 8 % 8 = w / 8 % 8)))), (5, .int (bI (decide (3 < a % 8 ∨ a % 8 = w % 8))))] [] [] 0 0 := by
              skip
              refine g_iload_n C 2 rfl dX8_isStronger_56 ?_
              refine g_iconst C (nI 4) ic_4 dX8_isStronger_57 ?_
              refine g_icmp_neN C ((a / 8) % 8) 4 80 rfl rfl (by omega) (by omega) dX8_isStronger_58 rfl (fun c58 => ?_) (fun c58 => ?_)
              · skip
                refine g_iconst C (nI 1) ic_1 dX8_isStronger_80 ?_
                refine g_goto C 85 dX8_isStronger_81 rfl ?_
                refine g_st [.int (bI (decide (a / 8 % 8 ≠ 4 ∨ a % 8 ≠ 4 ∨ w / 8 % 8 = w % 8)))] (congrArg (fun z => [Value.int z]) (by first | (rw [decide_eq_true (by omega)]; rfl) | (rw [decide_eq_false (by omega)]; rfl))) ?_
                refine g_istore C [(6, .int (bI (decide (a / 8 % 8 ≠ 4 ∨ a % 8 ≠ 4 ∨ w / 8 % 8 = w % 8)))), (0, .int (nI a)), (1, .int (nI w)), (2, .int (nI ((a / 8) % 8))), (3, .int (nI (a % 8))), (4, .int (bI (decide (a / 8 % 8 = 4 ∨ a / 8 % 8 = w / 8 % 8)))), (5, .int (bI (decide (3 < a % 8 ∨ a % 8 = w % 8))))] dX8_isStronger_85 (by decide) rfl ?_
                refine g_lo [1, 2, 3, 4, 5, 6, 0] [(0, .int (nI a)), (1, .int (nI w)), (2, .int (nI ((a / 8) % 8))), (3, .int (nI (a % 8))), (4, .int (bI (decide (a / 8 % 8 = 4 ∨ a / 8 % 8 = w / 8 % 8)))), (5, .int (bI (decide (3 < a % 8 ∨ a % 8 = w % 8)))), (6, .int (bI (decide (a / 8 % 8 ≠ 4 ∨ a % 8 ≠ 4 ∨ w / 8 % 8 = w % 8))))] rfl ?_
                have L87 : gW pg l en r_X8_isStronger s0 mi ag bl mth cd 7 D AA HH QQ 87 [(0, .int (nI a)), (1, .int (nI w)), (2, .int (nI ((a / 8) % 8))), (3, .int (nI (a % 8))), (4, .int (bI (decide (a / 8 % 8 = 4 ∨ a / 8 % 8 = w / 8 % 8)))), (5, .int (bI (decide (3 < a % 8 ∨ a % 8 = w % 8)))), (6, .int (bI (decide (a / 8 % 8 ≠ 4 ∨ a % 8 ≠ 4 ∨ w / 8 % 8 = w % 8))))] [] [] 0 0 := by
                  skip
                  refine g_iload_n C 0 rfl dX8_isStronger_87 ?_
                  refine g_iload_n C 1 rfl dX8_isStronger_88 ?_
                  refine g_icmp_eqN C a w 122 rfl rfl (by omega) (by omega) dX8_isStronger_89 rfl (fun c89 => ?_) (fun c89 => ?_)
                  · skip
                    refine g_iconst C (nI 0) ic_0 dX8_isStronger_122 ?_
                    exact g_zret E false rfl dX8_isStronger_123 (by decide) (by decide) ⟨(congrArg (fun z => some (Value.int (bI z))) (by (try simp only [decide_eq_true_eq, decide_eq_false_iff_not] at c105); (try simp only [decide_eq_true_eq, decide_eq_false_iff_not] at c110); (try simp only [decide_eq_true_eq, decide_eq_false_iff_not] at c115); unfold spF; first | exact (decide_eq_true (by omega)).symm | exact (decide_eq_false (by omega)).symm)), rfl⟩
                  · skip
                    refine g_iload_n C 0 rfl dX8_isStronger_92 ?_
                    refine g_bipush C (nI 64) bp_64 dX8_isStronger_93 ?_
                    refine g_idiv C (nI (a / 64)) (by decide +kernel) dX8_isStronger_95 (pk_div (by omega) (by omega) (by omega)) ?_
                    refine g_iload_n C 1 rfl dX8_isStronger_96 ?_
                    refine g_bipush C (nI 64) bp_64 dX8_isStronger_97 ?_
                    refine g_idiv C (nI (w / 64)) (by decide +kernel) dX8_isStronger_99 (pk_div (by omega) (by omega) (by omega)) ?_
                    refine g_icmp_neN C (a / 64) (w / 64) 122 rfl rfl (by omega) (by omega) dX8_isStronger_100 rfl (fun c100 => ?_) (fun c100 => ?_)
                    · skip
                      refine g_iconst C (nI 0) ic_0 dX8_isStronger_122 ?_
                      exact g_zret E false rfl dX8_isStronger_123 (by decide) (by decide) ⟨(congrArg (fun z => some (Value.int (bI z))) (by (try simp only [decide_eq_true_eq, decide_eq_false_iff_not] at c105); (try simp only [decide_eq_true_eq, decide_eq_false_iff_not] at c110); (try simp only [decide_eq_true_eq, decide_eq_false_iff_not] at c115); unfold spF; first | exact (decide_eq_true (by omega)).symm | exact (decide_eq_false (by omega)).symm)), rfl⟩
                    · skip
                      refine g_iload C 4 rfl dX8_isStronger_103 ?_
                      refine g_if_eqB C (decide (a / 8 % 8 = 4 ∨ a / 8 % 8 = w / 8 % 8)) 122 rfl dX8_isStronger_105 rfl (fun c105 => ?_) (fun c105 => ?_)
                      · skip
                        refine g_iconst C (nI 0) ic_0 dX8_isStronger_122 ?_
                        exact g_zret E false rfl dX8_isStronger_123 (by decide) (by decide) ⟨(congrArg (fun z => some (Value.int (bI z))) (by (try simp only [decide_eq_true_eq, decide_eq_false_iff_not] at c105); (try simp only [decide_eq_true_eq, decide_eq_false_iff_not] at c110); (try simp only [decide_eq_true_eq, decide_eq_false_iff_not] at c115); unfold spF; first | exact (decide_eq_true (by omega)).symm | exact (decide_eq_false (by omega)).symm)), rfl⟩
                      · skip
                        refine g_iload C 5 rfl dX8_isStronger_108 ?_
                        refine g_if_eqB C (decide (3 < a % 8 ∨ a % 8 = w % 8)) 122 rfl dX8_isStronger_110 rfl (fun c110 => ?_) (fun c110 => ?_)
                        · skip
                          refine g_iconst C (nI 0) ic_0 dX8_isStronger_122 ?_
                          exact g_zret E false rfl dX8_isStronger_123 (by decide) (by decide) ⟨(congrArg (fun z => some (Value.int (bI z))) (by (try simp only [decide_eq_true_eq, decide_eq_false_iff_not] at c105); (try simp only [decide_eq_true_eq, decide_eq_false_iff_not] at c110); (try simp only [decide_eq_true_eq, decide_eq_false_iff_not] at c115); unfold spF; first | exact (decide_eq_true (by omega)).symm | exact (decide_eq_false (by omega)).symm)), rfl⟩
                        · skip
                          refine g_iload C 6 rfl dX8_isStronger_113 ?_
                          refine g_if_eqB C (decide (a / 8 % 8 ≠ 4 ∨ a % 8 ≠ 4 ∨ w / 8 % 8 = w % 8)) 122 rfl dX8_isStronger_115 rfl (fun c115 => ?_) (fun c115 => ?_)
                          · skip
                            refine g_iconst C (nI 0) ic_0 dX8_isStronger_122 ?_
                            exact g_zret E false rfl dX8_isStronger_123 (by decide) (by decide) ⟨(congrArg (fun z => some (Value.int (bI z))) (by (try simp only [decide_eq_true_eq, decide_eq_false_iff_not] at c105); (try simp only [decide_eq_true_eq, decide_eq_false_iff_not] at c110); (try simp only [decide_eq_true_eq, decide_eq_false_iff_not] at c115); unfold spF; first | exact (decide_eq_true (by omega)).symm | exact (decide_eq_false (by omega)).symm)), rfl⟩
                          · skip
                            refine g_iconst C (nI 1) ic_1 dX8_isStronger_118 ?_
                            refine g_goto C 123 dX8_isStronger_119 rfl ?_
                            exact g_zret E true rfl dX8_isStronger_123 (by decide) (by decide) ⟨(congrArg (fun z => some (Value.int (bI z))) (by (try simp only [decide_eq_true_eq, decide_eq_false_iff_not] at c105); (try simp only [decide_eq_true_eq, decide_eq_false_iff_not] at c110); (try simp only [decide_eq_true_eq, decide_eq_false_iff_not] at c115); unfold spF; first | exact (decide_eq_true (by omega)).symm | exact (decide_eq_false (by omega)).symm)), rfl⟩
                exact L87  
              · skip
                refine g_iload_n C 3 rfl dX8_isStronger_61 ?_
                refine g_iconst C (nI 4) ic_4 dX8_isStronger_62 ?_
                refine g_icmp_neN C (a % 8) 4 80 rfl rfl (by omega) (by omega) dX8_isStronger_63 rfl (fun c63 => ?_) (fun c63 => ?_)
                · skip
                  refine g_iconst C (nI 1) ic_1 dX8_isStronger_80 ?_
                  refine g_goto C 85 dX8_isStronger_81 rfl ?_
                  refine g_st [.int (bI (decide (a / 8 % 8 ≠ 4 ∨ a % 8 ≠ 4 ∨ w / 8 % 8 = w % 8)))] (congrArg (fun z => [Value.int z]) (by first | (rw [decide_eq_true (by omega)]; rfl) | (rw [decide_eq_false (by omega)]; rfl))) ?_
                  refine g_istore C [(6, .int (bI (decide (a / 8 % 8 ≠ 4 ∨ a % 8 ≠ 4 ∨ w / 8 % 8 = w % 8)))), (0, .int (nI a)), (1, .int (nI w)), (2, .int (nI ((a / 8) % 8))), (3, .int (nI (a % 8))), (4, .int (bI (decide (a / 8 % 8 = 4 ∨ a / 8 % 8 = w / 8 % 8)))), (5, .int (bI (decide (3 < a % 8 ∨ a % 8 = w % 8))))] dX8_isStronger_85 (by decide) rfl ?_
                  refine g_lo [1, 2, 3, 4, 5, 6, 0] [(0, .int (nI a)), (1, .int (nI w)), (2, .int (nI ((a / 8) % 8))), (3, .int (nI (a % 8))), (4, .int (bI (decide (a / 8 % 8 = 4 ∨ a / 8 % 8 = w / 8 % 8)))), (5, .int (bI (decide (3 < a % 8 ∨ a % 8 = w % 8)))), (6, .int (bI (decide (a / 8 % 8 ≠ 4 ∨ a % 8 ≠ 4 ∨ w / 8 % 8 = w % 8))))] rfl ?_
                  have L87 : gW pg l en r_X8_isStronger s0 mi ag bl mth cd 7 D AA HH QQ 87 [(0, .int (nI a)), (1, .int (nI w)), (2, .int (nI ((a / 8) % 8))), (3, .int (nI (a % 8))), (4, .int (bI (decide (a / 8 % 8 = 4 ∨ a / 8 % 8 = w / 8 % 8)))), (5, .int (bI (decide (3 < a % 8 ∨ a % 8 = w % 8)))), (6, .int (bI (decide (a / 8 % 8 ≠ 4 ∨ a % 8 ≠ 4 ∨ w / 8 % 8 = w % 8))))] [] [] 0 0 := by
                    skip
                    refine g_iload_n C 0 rfl dX8_isStronger_87 ?_
                    refine g_iload_n C 1 rfl dX8_isStronger_88 ?_
                    refine g_icmp_eqN C a w 122 rfl rfl (by omega) (by omega) dX8_isStronger_89 rfl (fun c89 => ?_) (fun c89 => ?_)
                    · skip
                      refine g_iconst C (nI 0) ic_0 dX8_isStronger_122 ?_
                      exact g_zret E false rfl dX8_isStronger_123 (by decide) (by decide) ⟨(congrArg (fun z => some (Value.int (bI z))) (by (try simp only [decide_eq_true_eq, decide_eq_false_iff_not] at c105); (try simp only [decide_eq_true_eq, decide_eq_false_iff_not] at c110); (try simp only [decide_eq_true_eq, decide_eq_false_iff_not] at c115); unfold spF; first | exact (decide_eq_true (by omega)).symm | exact (decide_eq_false (by omega)).symm)), rfl⟩
                    · skip
                      refine g_iload_n C 0 rfl dX8_isStronger_92 ?_
                      refine g_bipush C (nI 64) bp_64 dX8_isStronger_93 ?_
                      refine g_idiv C (nI (a / 64)) (by decide +kernel) dX8_isStronger_95 (pk_div (by omega) (by omega) (by omega)) ?_
                      refine g_iload_n C 1 rfl dX8_isStronger_96 ?_
                      refine g_bipush C (nI 64) bp_64 dX8_isStronger_97 ?_
                      refine g_idiv C (nI (w / 64)) (by decide +kernel) dX8_isStronger_99 (pk_div (by omega) (by omega) (by omega)) ?_
                      refine g_icmp_neN C (a / 64) (w / 64) 122 rfl rfl (by omega) (by omega) dX8_isStronger_100 rfl (fun c100 => ?_) (fun c100 => ?_)
                      · skip
                        refine g_iconst C (nI 0) ic_0 dX8_isStronger_122 ?_
                        exact g_zret E false rfl dX8_isStronger_123 (by decide) (by decide) ⟨(congrArg (fun z => some (Value.int (bI z))) (by (try simp only [decide_eq_true_eq, decide_eq_false_iff_not] at c105); (try simp only [decide_eq_true_eq, decide_eq_false_iff_not] at c110); (try simp only [decide_eq_true_eq, decide_eq_false_iff_not] at c115); unfold spF; first | exact (decide_eq_true (by omega)).symm | exact (decide_eq_false (by omega)).symm)), rfl⟩
                      · skip
                        refine g_iload C 4 rfl dX8_isStronger_103 ?_
                        refine g_if_eqB C (decide (a / 8 % 8 = 4 ∨ a / 8 % 8 = w / 8 % 8)) 122 rfl dX8_isStronger_105 rfl (fun c105 => ?_) (fun c105 => ?_)
                        · skip
                          refine g_iconst C (nI 0) ic_0 dX8_isStronger_122 ?_
                          exact g_zret E false rfl dX8_isStronger_123 (by decide) (by decide) ⟨(congrArg (fun z => some (Value.int (bI z))) (by (try simp only [decide_eq_true_eq, decide_eq_false_iff_not] at c105); (try simp only [decide_eq_true_eq, decide_eq_false_iff_not] at c110); (try simp only [decide_eq_true_eq, decide_eq_false_iff_not] at c115); unfold spF; first | exact (decide_eq_true (by omega)).symm | exact (decide_eq_false (by omega)).symm)), rfl⟩
                        · skip
                          refine g_iload C 5 rfl dX8_isStronger_108 ?_
                          refine g_if_eqB C (decide (3 < a % 8 ∨ a % 8 = w % 8)) 122 rfl dX8_isStronger_110 rfl (fun c110 => ?_) (fun c110 => ?_)
                          · skip
                            refine g_iconst C (nI 0) ic_0 dX8_isStronger_122 ?_
                            exact g_zret E false rfl dX8_isStronger_123 (by decide) (by decide) ⟨(congrArg (fun z => some (Value.int (bI z))) (by (try simp only [decide_eq_true_eq, decide_eq_false_iff_not] at c105); (try simp only [decide_eq_true_eq, decide_eq_false_iff_not] at c110); (try simp only [decide_eq_true_eq, decide_eq_false_iff_not] at c115); unfold spF; first | exact (decide_eq_true (by omega)).symm | exact (decide_eq_false (by omega)).symm)), rfl⟩
                          · skip
                            refine g_iload C 6 rfl dX8_isStronger_113 ?_
                            refine g_if_eqB C (decide (a / 8 % 8 ≠ 4 ∨ a % 8 ≠ 4 ∨ w / 8 % 8 = w % 8)) 122 rfl dX8_isStronger_115 rfl (fun c115 => ?_) (fun c115 => ?_)
                            · skip
                              refine g_iconst C (nI 0) ic_0 dX8_isStronger_122 ?_
                              exact g_zret E false rfl dX8_isStronger_123 (by decide) (by decide) ⟨(congrArg (fun z => some (Value.int (bI z))) (by (try simp only [decide_eq_true_eq, decide_eq_false_iff_not] at c105); (try simp only [decide_eq_true_eq, decide_eq_false_iff_not] at c110); (try simp only [decide_eq_true_eq, decide_eq_false_iff_not] at c115); unfold spF; first | exact (decide_eq_true (by omega)).symm | exact (decide_eq_false (by omega)).symm)), rfl⟩
                            · skip
                              refine g_iconst C (nI 1) ic_1 dX8_isStronger_118 ?_
                              refine g_goto C 123 dX8_isStronger_119 rfl ?_
                              exact g_zret E true rfl dX8_isStronger_123 (by decide) (by decide) ⟨(congrArg (fun z => some (Value.int (bI z))) (by (try simp only [decide_eq_true_eq, decide_eq_false_iff_not] at c105); (try simp only [decide_eq_true_eq, decide_eq_false_iff_not] at c110); (try simp only [decide_eq_true_eq, decide_eq_false_iff_not] at c115); unfold spF; first | exact (decide_eq_true (by omega)).symm | exact (decide_eq_false (by omega)).symm)), rfl⟩
                  exact L87  
                · skip
                  refine g_iload_n C 1 rfl dX8_isStronger_66 ?_
                  refine g_bipush C (nI 8) bp_8 dX8_isStronger_67 ?_
                  refine g_idiv C (nI (w / 8)) (by decide +kernel) dX8_isStronger_69 (pk_div (by omega) (by omega) (by omega)) ?_
                  refine g_bipush C (nI 8) bp_8 dX8_isStronger_70 ?_
                  refine g_irem C (nI ((w / 8) % 8)) (by decide +kernel) dX8_isStronger_72 (pk_rem (by omega) (by omega) (by omega)) ?_
                  refine g_iload_n C 1 rfl dX8_isStronger_73 ?_
                  refine g_bipush C (nI 8) bp_8 dX8_isStronger_74 ?_
                  refine g_irem C (nI (w % 8)) (by decide +kernel) dX8_isStronger_76 (pk_rem (by omega) (by omega) (by omega)) ?_
                  refine g_icmp_neN C ((w / 8) % 8) (w % 8) 84 rfl rfl (by omega) (by omega) dX8_isStronger_77 rfl (fun c77 => ?_) (fun c77 => ?_)
                  · skip
                    refine g_iconst C (nI 0) ic_0 dX8_isStronger_84 ?_
                    refine g_st [.int (bI (decide (a / 8 % 8 ≠ 4 ∨ a % 8 ≠ 4 ∨ w / 8 % 8 = w % 8)))] (congrArg (fun z => [Value.int z]) (by first | (rw [decide_eq_true (by omega)]; rfl) | (rw [decide_eq_false (by omega)]; rfl))) ?_
                    refine g_istore C [(6, .int (bI (decide (a / 8 % 8 ≠ 4 ∨ a % 8 ≠ 4 ∨ w / 8 % 8 = w % 8)))), (0, .int (nI a)), (1, .int (nI w)), (2, .int (nI ((a / 8) % 8))), (3, .int (nI (a % 8))), (4, .int (bI (decide (a / 8 % 8 = 4 ∨ a / 8 % 8 = w / 8 % 8)))), (5, .int (bI (decide (3 < a % 8 ∨ a % 8 = w % 8))))] dX8_isStronger_85 (by decide) rfl ?_
                    refine g_lo [1, 2, 3, 4, 5, 6, 0] [(0, .int (nI a)), (1, .int (nI w)), (2, .int (nI ((a / 8) % 8))), (3, .int (nI (a % 8))), (4, .int (bI (decide (a / 8 % 8 = 4 ∨ a / 8 % 8 = w / 8 % 8)))), (5, .int (bI (decide (3 < a % 8 ∨ a % 8 = w % 8)))), (6, .int (bI (decide (a / 8 % 8 ≠ 4 ∨ a % 8 ≠ 4 ∨ w / 8 % 8 = w % 8))))] rfl ?_
                    have L87 : gW pg l en r_X8_isStronger s0 mi ag bl mth cd 7 D AA HH QQ 87 [(0, .int (nI a)), (1, .int (nI w)), (2, .int (nI ((a / 8) % 8))), (3, .int (nI (a % 8))), (4, .int (bI (decide (a / 8 % 8 = 4 ∨ a / 8 % 8 = w / 8 % 8)))), (5, .int (bI (decide (3 < a % 8 ∨ a % 8 = w % 8)))), (6, .int (bI (decide (a / 8 % 8 ≠ 4 ∨ a % 8 ≠ 4 ∨ w / 8 % 8 = w % 8))))] [] [] 0 0 := by
                      skip
                      refine g_iload_n C 0 rfl dX8_isStronger_87 ?_
                      refine g_iload_n C 1 rfl dX8_isStronger_88 ?_
                      refine g_icmp_eqN C a w 122 rfl rfl (by omega) (by omega) dX8_isStronger_89 rfl (fun c89 => ?_) (fun c89 => ?_)
                      · skip
                        refine g_iconst C (nI 0) ic_0 dX8_isStronger_122 ?_
                        exact g_zret E false rfl dX8_isStronger_123 (by decide) (by decide) ⟨(congrArg (fun z => some (Value.int (bI z))) (by (try simp only [decide_eq_true_eq, decide_eq_false_iff_not] at c105); (try simp only [decide_eq_true_eq, decide_eq_false_iff_not] at c110); (try simp only [decide_eq_true_eq, decide_eq_false_iff_not] at c115); unfold spF; first | exact (decide_eq_true (by omega)).symm | exact (decide_eq_false (by omega)).symm)), rfl⟩
                      · skip
                        refine g_iload_n C 0 rfl dX8_isStronger_92 ?_
                        refine g_bipush C (nI 64) bp_64 dX8_isStronger_93 ?_
                        refine g_idiv C (nI (a / 64)) (by decide +kernel) dX8_isStronger_95 (pk_div (by omega) (by omega) (by omega)) ?_
                        refine g_iload_n C 1 rfl dX8_isStronger_96 ?_
                        refine g_bipush C (nI 64) bp_64 dX8_isStronger_97 ?_
                        refine g_idiv C (nI (w / 64)) (by decide +kernel) dX8_isStronger_99 (pk_div (by omega) (by omega) (by omega)) ?_
                        refine g_icmp_neN C (a / 64) (w / 64) 122 rfl rfl (by omega) (by omega) dX8_isStronger_100 rfl (fun c100 => ?_) (fun c100 => ?_)
                        · skip
                          refine g_iconst C (nI 0) ic_0 dX8_isStronger_122 ?_
                          exact g_zret E false rfl dX8_isStronger_123 (by decide) (by decide) ⟨(congrArg (fun z => some (Value.int (bI z))) (by (try simp only [decide_eq_true_eq, decide_eq_false_iff_not] at c105); (try simp only [decide_eq_true_eq, decide_eq_false_iff_not] at c110); (try simp only [decide_eq_true_eq, decide_eq_false_iff_not] at c115); unfold spF; first | exact (decide_eq_true (by omega)).symm | exact (decide_eq_false (by omega)).symm)), rfl⟩
                        · skip
                          refine g_iload C 4 rfl dX8_isStronger_103 ?_
                          refine g_if_eqB C (decide (a / 8 % 8 = 4 ∨ a / 8 % 8 = w / 8 % 8)) 122 rfl dX8_isStronger_105 rfl (fun c105 => ?_) (fun c105 => ?_)
                          · skip
                            refine g_iconst C (nI 0) ic_0 dX8_isStronger_122 ?_
                            exact g_zret E false rfl dX8_isStronger_123 (by decide) (by decide) ⟨(congrArg (fun z => some (Value.int (bI z))) (by (try simp only [decide_eq_true_eq, decide_eq_false_iff_not] at c105); (try simp only [decide_eq_true_eq, decide_eq_false_iff_not] at c110); (try simp only [decide_eq_true_eq, decide_eq_false_iff_not] at c115); unfold spF; first | exact (decide_eq_true (by omega)).symm | exact (decide_eq_false (by omega)).symm)), rfl⟩
                          · skip
                            refine g_iload C 5 rfl dX8_isStronger_108 ?_
                            refine g_if_eqB C (decide (3 < a % 8 ∨ a % 8 = w % 8)) 122 rfl dX8_isStronger_110 rfl (fun c110 => ?_) (fun c110 => ?_)
                            · skip
                              refine g_iconst C (nI 0) ic_0 dX8_isStronger_122 ?_
                              exact g_zret E false rfl dX8_isStronger_123 (by decide) (by decide) ⟨(congrArg (fun z => some (Value.int (bI z))) (by (try simp only [decide_eq_true_eq, decide_eq_false_iff_not] at c105); (try simp only [decide_eq_true_eq, decide_eq_false_iff_not] at c110); (try simp only [decide_eq_true_eq, decide_eq_false_iff_not] at c115); unfold spF; first | exact (decide_eq_true (by omega)).symm | exact (decide_eq_false (by omega)).symm)), rfl⟩
                            · skip
                              refine g_iload C 6 rfl dX8_isStronger_113 ?_
                              refine g_if_eqB C (decide (a / 8 % 8 ≠ 4 ∨ a % 8 ≠ 4 ∨ w / 8 % 8 = w % 8)) 122 rfl dX8_isStronger_115 rfl (fun c115 => ?_) (fun c115 => ?_)
                              · skip
                                refine g_iconst C (nI 0) ic_0 dX8_isStronger_122 ?_
                                exact g_zret E false rfl dX8_isStronger_123 (by decide) (by decide) ⟨(congrArg (fun z => some (Value.int (bI z))) (by (try simp only [decide_eq_true_eq, decide_eq_false_iff_not] at c105); (try simp only [decide_eq_true_eq, decide_eq_false_iff_not] at c110); (try simp only [decide_eq_true_eq, decide_eq_false_iff_not] at c115); unfold spF; first | exact (decide_eq_true (by omega)).symm | exact (decide_eq_false (by omega)).symm)), rfl⟩
                              · skip
                                refine g_iconst C (nI 1) ic_1 dX8_isStronger_118 ?_
                                refine g_goto C 123 dX8_isStronger_119 rfl ?_
                                exact g_zret E true rfl dX8_isStronger_123 (by decide) (by decide) ⟨(congrArg (fun z => some (Value.int (bI z))) (by (try simp only [decide_eq_true_eq, decide_eq_false_iff_not] at c105); (try simp only [decide_eq_true_eq, decide_eq_false_iff_not] at c110); (try simp only [decide_eq_true_eq, decide_eq_false_iff_not] at c115); unfold spF; first | exact (decide_eq_true (by omega)).symm | exact (decide_eq_false (by omega)).symm)), rfl⟩
                    exact L87  
                  · skip
                    refine g_iconst C (nI 1) ic_1 dX8_isStronger_80 ?_
                    refine g_goto C 85 dX8_isStronger_81 rfl ?_
                    refine g_st [.int (bI (decide (a / 8 % 8 ≠ 4 ∨ a % 8 ≠ 4 ∨ w / 8 % 8 = w % 8)))] (congrArg (fun z => [Value.int z]) (by first | (rw [decide_eq_true (by omega)]; rfl) | (rw [decide_eq_false (by omega)]; rfl))) ?_
                    refine g_istore C [(6, .int (bI (decide (a / 8 % 8 ≠ 4 ∨ a % 8 ≠ 4 ∨ w / 8 % 8 = w % 8)))), (0, .int (nI a)), (1, .int (nI w)), (2, .int (nI ((a / 8) % 8))), (3, .int (nI (a % 8))), (4, .int (bI (decide (a / 8 % 8 = 4 ∨ a / 8 % 8 = w / 8 % 8)))), (5, .int (bI (decide (3 < a % 8 ∨ a % 8 = w % 8))))] dX8_isStronger_85 (by decide) rfl ?_
                    refine g_lo [1, 2, 3, 4, 5, 6, 0] [(0, .int (nI a)), (1, .int (nI w)), (2, .int (nI ((a / 8) % 8))), (3, .int (nI (a % 8))), (4, .int (bI (decide (a / 8 % 8 = 4 ∨ a / 8 % 8 = w / 8 % 8)))), (5, .int (bI (decide (3 < a % 8 ∨ a % 8 = w % 8)))), (6, .int (bI (decide (a / 8 % 8 ≠ 4 ∨ a % 8 ≠ 4 ∨ w / 8 % 8 = w % 8))))] rfl ?_
                    have L87 : gW pg l en r_X8_isStronger s0 mi ag bl mth cd 7 D AA HH QQ 87 [(0, .int (nI a)), (1, .int (nI w)), (2, .int (nI ((a / 8) % 8))), (3, .int (nI (a % 8))), (4, .int (bI (decide (a / 8 % 8 = 4 ∨ a / 8 % 8 = w / 8 % 8)))), (5, .int (bI (decide (3 < a % 8 ∨ a % 8 = w % 8)))), (6, .int (bI (decide (a / 8 % 8 ≠ 4 ∨ a % 8 ≠ 4 ∨ w / 8 % 8 = w % 8))))] [] [] 0 0 := by
                      skip
                      refine g_iload_n C 0 rfl dX8_isStronger_87 ?_
                      refine g_iload_n C 1 rfl dX8_isStronger_88 ?_
                      refine g_icmp_eqN C a w 122 rfl rfl (by omega) (by omega) dX8_isStronger_89 rfl (fun c89 => ?_) (fun c89 => ?_)
                      · skip
                        refine g_iconst C (nI 0) ic_0 dX8_isStronger_122 ?_
                        exact g_zret E false rfl dX8_isStronger_123 (by decide) (by decide) ⟨(congrArg (fun z => some (Value.int (bI z))) (by (try simp only [decide_eq_true_eq, decide_eq_false_iff_not] at c105); (try simp only [decide_eq_true_eq, decide_eq_false_iff_not] at c110); (try simp only [decide_eq_true_eq, decide_eq_false_iff_not] at c115); unfold spF; first | exact (decide_eq_true (by omega)).symm | exact (decide_eq_false (by omega)).symm)), rfl⟩
                      · skip
                        refine g_iload_n C 0 rfl dX8_isStronger_92 ?_
                        refine g_bipush C (nI 64) bp_64 dX8_isStronger_93 ?_
                        refine g_idiv C (nI (a / 64)) (by decide +kernel) dX8_isStronger_95 (pk_div (by omega) (by omega) (by omega)) ?_
                        refine g_iload_n C 1 rfl dX8_isStronger_96 ?_
                        refine g_bipush C (nI 64) bp_64 dX8_isStronger_97 ?_
                        refine g_idiv C (nI (w / 64)) (by decide +kernel) dX8_isStronger_99 (pk_div (by omega) (by omega) (by omega)) ?_
                        refine g_icmp_neN C (a / 64) (w / 64) 122 rfl rfl (by omega) (by omega) dX8_isStronger_100 rfl (fun c100 => ?_) (fun c100 => ?_)
                        · skip
                          refine g_iconst C (nI 0) ic_0 dX8_isStronger_122 ?_
                          exact g_zret E false rfl dX8_isStronger_123 (by decide) (by decide) ⟨(congrArg (fun z => some (Value.int (bI z))) (by (try simp only [decide_eq_true_eq, decide_eq_false_iff_not] at c105); (try simp only [decide_eq_true_eq, decide_eq_false_iff_not] at c110); (try simp only [decide_eq_true_eq, decide_eq_false_iff_not] at c115); unfold spF; first | exact (decide_eq_true (by omega)).symm | exact (decide_eq_false (by omega)).symm)), rfl⟩
                        · skip
                          refine g_iload C 4 rfl dX8_isStronger_103 ?_
                          refine g_if_eqB C (decide (a / 8 % 8 = 4 ∨ a / 8 % 8 = w / 8 % 8)) 122 rfl dX8_isStronger_105 rfl (fun c105 => ?_) (fun c105 => ?_)
                          · skip
                            refine g_iconst C (nI 0) ic_0 dX8_isStronger_122 ?_
                            exact g_zret E false rfl dX8_isStronger_123 (by decide) (by decide) ⟨(congrArg (fun z => some (Value.int (bI z))) (by (try simp only [decide_eq_true_eq, decide_eq_false_iff_not] at c105); (try simp only [decide_eq_true_eq, decide_eq_false_iff_not] at c110); (try simp only [decide_eq_true_eq, decide_eq_false_iff_not] at c115); unfold spF; first | exact (decide_eq_true (by omega)).symm | exact (decide_eq_false (by omega)).symm)), rfl⟩
                          · skip
                            refine g_iload C 5 rfl dX8_isStronger_108 ?_
                            refine g_if_eqB C (decide (3 < a % 8 ∨ a % 8 = w % 8)) 122 rfl dX8_isStronger_110 rfl (fun c110 => ?_) (fun c110 => ?_)
                            · skip
                              refine g_iconst C (nI 0) ic_0 dX8_isStronger_122 ?_
                              exact g_zret E false rfl dX8_isStronger_123 (by decide) (by decide) ⟨(congrArg (fun z => some (Value.int (bI z))) (by (try simp only [decide_eq_true_eq, decide_eq_false_iff_not] at c105); (try simp only [decide_eq_true_eq, decide_eq_false_iff_not] at c110); (try simp only [decide_eq_true_eq, decide_eq_false_iff_not] at c115); unfold spF; first | exact (decide_eq_true (by omega)).symm | exact (decide_eq_false (by omega)).symm)), rfl⟩
                            · skip
                              refine g_iload C 6 rfl dX8_isStronger_113 ?_
                              refine g_if_eqB C (decide (a / 8 % 8 ≠ 4 ∨ a % 8 ≠ 4 ∨ w / 8 % 8 = w % 8)) 122 rfl dX8_isStronger_115 rfl (fun c115 => ?_) (fun c115 => ?_)
                              · skip
                                refine g_iconst C (nI 0) ic_0 dX8_isStronger_122 ?_
                                exact g_zret E false rfl dX8_isStronger_123 (by decide) (by decide) ⟨(congrArg (fun z => some (Value.int (bI z))) (by (try simp only [decide_eq_true_eq, decide_eq_false_iff_not] at c105); (try simp only [decide_eq_true_eq, decide_eq_false_iff_not] at c110); (try simp only [decide_eq_true_eq, decide_eq_false_iff_not] at c115); unfold spF; first | exact (decide_eq_true (by omega)).symm | exact (decide_eq_false (by omega)).symm)), rfl⟩
                              · skip
                                refine g_iconst C (nI 1) ic_1 dX8_isStronger_118 ?_
                                refine g_goto C 123 dX8_isStronger_119 rfl ?_
                                exact g_zret E true rfl dX8_isStronger_123 (by decide) (by decide) ⟨(congrArg (fun z => some (Value.int (bI z))) (by (try simp only [decide_eq_true_eq, decide_eq_false_iff_not] at c105); (try simp only [decide_eq_true_eq, decide_eq_false_iff_not] at c110); (try simp only [decide_eq_true_eq, decide_eq_false_iff_not] at c115); unfold spF; first | exact (decide_eq_true (by omega)).symm | exact (decide_eq_false (by omega)).symm)), rfl⟩
                    exact L87  
            exact L56  
          · skip
            refine g_iconst C (nI 1) ic_1 dX8_isStronger_49 ?_
            refine g_goto C 54 dX8_isStronger_50 rfl ?_
            refine g_st [.int (bI (decide (3 < a % 8 ∨ a % 8 = w % 8)))] (congrArg (fun z => [Value.int z]) (by first | (rw [decide_eq_true (by omega)]; rfl) | (rw [decide_eq_false (by omega)]; rfl))) ?_
            refine g_istore C [(5, .int (bI (decide (3 < a % 8 ∨ a % 8 = w % 8)))), (0, .int (nI a)), (1, .int (nI w)), (2, .int (nI ((a / 8) % 8))), (3, .int (nI (a % 8))), (4, .int (bI (decide (a / 8 % 8 = 4 ∨ a / 8 % 8 = w / 8 % 8))))] dX8_isStronger_54 (by decide) rfl ?_
            refine g_lo [1, 2, 3, 4, 5, 0] [(0, .int (nI a)), (1, .int (nI w)), (2, .int (nI ((a / 8) % 8))), (3, .int (nI (a % 8))), (4, .int (bI (decide (a / 8 % 8 = 4 ∨ a / 8 % 8 = w / 8 % 8)))), (5, .int (bI (decide (3 < a % 8 ∨ a % 8 = w % 8))))] rfl ?_
            have L56 : gW pg l en r_X8_isStronger s0 mi ag bl mth cd 7 D AA HH QQ 56 [(0, .int (nI a)), (1, .int (nI w)), (2, .int (nI ((a / 8) % 8))), (3, .int (nI (a % 8))), (4, .int (bI (decide (a / 8 % 8 = 4 ∨ a / 8 % 8 = w / 8 % 8)))), (5, .int (bI (decide (3 < a % 8 ∨ a % 8 = w % 8))))] [] [] 0 0 := by
              skip
              refine g_iload_n C 2 rfl dX8_isStronger_56 ?_
              refine g_iconst C (nI 4) ic_4 dX8_isStronger_57 ?_
              refine g_icmp_neN C ((a / 8) % 8) 4 80 rfl rfl (by omega) (by omega) dX8_isStronger_58 rfl (fun c58 => ?_) (fun c58 => ?_)
              · skip
                refine g_iconst C (nI 1) ic_1 dX8_isStronger_80 ?_
                refine g_goto C 85 dX8_isStronger_81 rfl ?_
                refine g_st [.int (bI (decide (a / 8 % 8 ≠ 4 ∨ a % 8 ≠ 4 ∨ w / 8 % 8 = w % 8)))] (congrArg (fun z => [Value.int z]) (by first | (rw [decide_eq_true (by omega)]; rfl) | (rw [decide_eq_false (by omega)]; rfl))) ?_
                refine g_istore C [(6, .int (bI (decide (a / 8 % 8 ≠ 4 ∨ a % 8 ≠ 4 ∨ w / 8 % 8 = w % 8)))), (0, .int (nI a)), (1, .int (nI w)), (2, .int (nI ((a / 8) % 8))), (3, .int (nI (a % 8))), (4, .int (bI (decide (a / 8 % 8 = 4 ∨ a / 8 % 8 = w / 8 % 8)))), (5, .int (bI (decide (3 < a % 8 ∨ a % 8 = w % 8))))] dX8_isStronger_85 (by decide) rfl ?_
                refine g_lo [1, 2, 3, 4, 5, 6, 0] [(0, .int (nI a)), (1, .int (nI w)), (2, .int (nI ((a / 8) % 8))), (3, .int (nI (a % 8))), (4, .int (bI (decide (a / 8 % 8 = 4 ∨ a / 8 % 8 = w / 8 % 8)))), (5, .int (bI (decide (3 < a % 8 ∨ a % 8 = w % 8)))), (6, .int (bI (decide (a / 8 % 8 ≠ 4 ∨ a % 8 ≠ 4 ∨ w / 8 % 8 = w % 8))))] rfl ?_
                have L87 : gW pg l en r_X8_isStronger s0 mi ag bl mth cd 7 D AA HH QQ 87 [(0, .int (nI a)), (1, .int (nI w)), (2, .int (nI ((a / 8) % 8))), (3, .int (nI (a % 8))), (4, .int (bI (decide (a / 8 % 8 = 4 ∨ a / 8 % 8 = w / 8 % 8)))), (5, .int (bI (decide (3 < a % 8 ∨ a % 8 = w % 8)))), (6, .int (bI (decide (a / 8 % 8 ≠ 4 ∨ a % 8 ≠ 4 ∨ w / 8 % 8 = w % 8))))] [] [] 0 0 := by
                  skip
                  refine g_iload_n C 0 rfl dX8_isStronger_87 ?_
                  refine g_iload_n C 1 rfl dX8_isStronger_88 ?_
                  refine g_icmp_eqN C a w 122 rfl rfl (by omega) (by omega) dX8_isStronger_89 rfl (fun c89 => ?_) (fun c89 => ?_)
                  · skip
                    refine g_iconst C (nI 0) ic_0 dX8_isStronger_122 ?_
                    exact g_zret E false rfl dX8_isStronger_123 (by decide) (by decide) ⟨(congrArg (fun z => some (Value.int (bI z))) (by (try simp only [decide_eq_true_eq, decide_eq_false_iff_not] at c105); (try simp only [decide_eq_true_eq, decide_eq_false_iff_not] at c110); (try simp only [decide_eq_true_eq, decide_eq_false_iff_not] at c115); unfold spF; first | exact (decide_eq_true (by omega)).symm | exact (decide_eq_false (by omega)).symm)), rfl⟩
                  · skip
                    refine g_iload_n C 0 rfl dX8_isStronger_92 ?_
                    refine g_bipush C (nI 64) bp_64 dX8_isStronger_93 ?_
                    refine g_idiv C (nI (a / 64)) (by decide +kernel) dX8_isStronger_95 (pk_div (by omega) (by omega) (by omega)) ?_
                    refine g_iload_n C 1 rfl dX8_isStronger_96 ?_
                    refine g_bipush C (nI 64) bp_64 dX8_isStronger_97 ?_
                    refine g_idiv C (nI (w / 64)) (by decide +kernel) dX8_isStronger_99 (pk_div (by omega) (by omega) (by omega)) ?_
                    refine g_icmp_neN C (a / 64) (w / 64) 122 rfl rfl (by omega) (by omega) dX8_isStronger_100 rfl (fun c100 => ?_) (fun c100 => ?_)
                    · skip
                      refine g_iconst C (nI 0) ic_0 dX8_isStronger_122 ?_
                      exact g_zret E false rfl dX8_isStronger_123 (by decide) (by decide) ⟨(congrArg (fun z => some (Value.int (bI z))) (by (try simp only [decide_eq_true_eq, decide_eq_false_iff_not] at c105); (try simp only [decide_eq_true_eq, decide_eq_false_iff_not] at c110); (try simp only [decide_eq_true_eq, decide_eq_false_iff_not] at c115); unfold spF; first | exact (decide_eq_true (by omega)).symm | exact (decide_eq_false (by omega)).symm)), rfl⟩
                    · skip
                      refine g_iload C 4 rfl dX8_isStronger_103 ?_
                      refine g_if_eqB C (decide (a / 8 % 8 = 4 ∨ a / 8 % 8 = w / 8 % 8)) 122 rfl dX8_isStronger_105 rfl (fun c105 => ?_) (fun c105 => ?_)
                      · skip
                        refine g_iconst C (nI 0) ic_0 dX8_isStronger_122 ?_
                        exact g_zret E false rfl dX8_isStronger_123 (by decide) (by decide) ⟨(congrArg (fun z => some (Value.int (bI z))) (by (try simp only [decide_eq_true_eq, decide_eq_false_iff_not] at c105); (try simp only [decide_eq_true_eq, decide_eq_false_iff_not] at c110); (try simp only [decide_eq_true_eq, decide_eq_false_iff_not] at c115); unfold spF; first | exact (decide_eq_true (by omega)).symm | exact (decide_eq_false (by omega)).symm)), rfl⟩
                      · skip
                        refine g_iload C 5 rfl dX8_isStronger_108 ?_
                        refine g_if_eqB C (decide (3 < a % 8 ∨ a % 8 = w % 8)) 122 rfl dX8_isStronger_110 rfl (fun c110 => ?_) (fun c110 => ?_)
                        · skip
                          refine g_iconst C (nI 0) ic_0 dX8_isStronger_122 ?_
                          exact g_zret E false rfl dX8_isStronger_123 (by decide) (by decide) ⟨(congrArg (fun z => some (Value.int (bI z))) (by (try simp only [decide_eq_true_eq, decide_eq_false_iff_not] at c105); (try simp only [decide_eq_true_eq, decide_eq_false_iff_not] at c110); (try simp only [decide_eq_true_eq, decide_eq_false_iff_not] at c115); unfold spF; first | exact (decide_eq_true (by omega)).symm | exact (decide_eq_false (by omega)).symm)), rfl⟩
                        · skip
                          refine g_iload C 6 rfl dX8_isStronger_113 ?_
                          refine g_if_eqB C (decide (a / 8 % 8 ≠ 4 ∨ a % 8 ≠ 4 ∨ w / 8 % 8 = w % 8)) 122 rfl dX8_isStronger_115 rfl (fun c115 => ?_) (fun c115 => ?_)
                          · skip
                            refine g_iconst C (nI 0) ic_0 dX8_isStronger_122 ?_
                            exact g_zret E false rfl dX8_isStronger_123 (by decide) (by decide) ⟨(congrArg (fun z => some (Value.int (bI z))) (by (try simp only [decide_eq_true_eq, decide_eq_false_iff_not] at c105); (try simp only [decide_eq_true_eq, decide_eq_false_iff_not] at c110); (try simp only [decide_eq_true_eq, decide_eq_false_iff_not] at c115); unfold spF; first | exact (decide_eq_true (by omega)).symm | exact (decide_eq_false (by omega)).symm)), rfl⟩
                          · skip
                            refine g_iconst C (nI 1) ic_1 dX8_isStronger_118 ?_
                            refine g_goto C 123 dX8_isStronger_119 rfl ?_
                            exact g_zret E true rfl dX8_isStronger_123 (by decide) (by decide) ⟨(congrArg (fun z => some (Value.int (bI z))) (by (try simp only [decide_eq_true_eq, decide_eq_false_iff_not] at c105); (try simp only [decide_eq_true_eq, decide_eq_false_iff_not] at c110); (try simp only [decide_eq_true_eq, decide_eq_false_iff_not] at c115); unfold spF; first | exact (decide_eq_true (by omega)).symm | exact (decide_eq_false (by omega)).symm)), rfl⟩
                exact L87  
              · skip
                refine g_iload_n C 3 rfl dX8_isStronger_61 ?_
                refine g_iconst C (nI 4) ic_4 dX8_isStronger_62 ?_
                refine g_icmp_neN C (a % 8) 4 80 rfl rfl (by omega) (by omega) dX8_isStronger_63 rfl (fun c63 => ?_) (fun c63 => ?_)
                · skip
                  refine g_iconst C (nI 1) ic_1 dX8_isStronger_80 ?_
                  refine g_goto C 85 dX8_isStronger_81 rfl ?_
                  refine g_st [.int (bI (decide (a / 8 % 8 ≠ 4 ∨ a % 8 ≠ 4 ∨ w / 8 % 8 = w % 8)))] (congrArg (fun z => [Value.int z]) (by first | (rw [decide_eq_true (by omega)]; rfl) | (rw [decide_eq_false (by omega)]; rfl))) ?_
                  refine g_istore C [(6, .int (bI (decide (a / 8 % 8 ≠ 4 ∨ a % 8 ≠ 4 ∨ w / 8 % 8 = w % 8)))), (0, .int (nI a)), (1, .int (nI w)), (2, .int (nI ((a / 8) % 8))), (3, .int (nI (a % 8))), (4, .int (bI (decide (a / 8 % 8 = 4 ∨ a / 8 % 8 = w / 8 % 8)))), (5, .int (bI (decide (3 < a % 8 ∨ a % 8 = w % 8))))] dX8_isStronger_85 (by decide) rfl ?_
                  refine g_lo [1, 2, 3, 4, 5, 6, 0] [(0, .int (nI a)), (1, .int (nI w)), (2, .int (nI ((a / 8) % 8))), (3, .int (nI (a % 8))), (4, .int (bI (decide (a / 8 % 8 = 4 ∨ a / 8 % 8 = w / 8 % 8)))), (5, .int (bI (decide (3 < a % 8 ∨ a % 8 = w % 8)))), (6, .int (bI (decide (a / 8 % 8 ≠ 4 ∨ a % 8 ≠ 4 ∨ w / 8 % 8 = w % 8))))] rfl ?_
                  have L87 : gW pg l en r_X8_isStronger s0 mi ag bl mth cd 7 D AA HH QQ 87 [(0, .int (nI a)), (1, .int (nI w)), (2, .int (nI ((a / 8) % 8))), (3, .int (nI (a % 8))), (4, .int (bI (decide (a / 8 % 8 = 4 ∨ a / 8 % 8 = w / 8 % 8)))), (5, .int (bI (decide (3 < a % 8 ∨ a % 8 = w % 8)))), (6, .int (bI (decide (a / 8 % 8 ≠ 4 ∨ a % 8 ≠ 4 ∨ w / 8 % 8 = w % 8))))] [] [] 0 0 := by
                    skip
                    refine g_iload_n C 0 rfl dX8_isStronger_87 ?_
                    refine g_iload_n C 1 rfl dX8_isStronger_88 ?_
                    refine g_icmp_eqN C a w 122 rfl rfl (by omega) (by omega) dX8_isStronger_89 rfl (fun c89 => ?_) (fun c89 => ?_)
                    · skip
                      refine g_iconst C (nI 0) ic_0 dX8_isStronger_122 ?_
                      exact g_zret E false rfl dX8_isStronger_123 (by decide) (by decide) ⟨(congrArg (fun z => some (Value.int (bI z))) (by (try simp only [decide_eq_true_eq, decide_eq_false_iff_not] at c105); (try simp only [decide_eq_true_eq, decide_eq_false_iff_not] at c110); (try simp only [decide_eq_true_eq, decide_eq_false_iff_not] at c115); unfold spF; first | exact (decide_eq_true (by omega)).symm | exact (decide_eq_false (by omega)).symm)), rfl⟩
                    · skip
                      refine g_iload_n C 0 rfl dX8_isStronger_92 ?_
                      refine g_bipush C (nI 64) bp_64 dX8_isStronger_93 ?_
                      refine g_idiv C (nI (a / 64)) (by decide +kernel) dX8_isStronger_95 (pk_div (by omega) (by omega) (by omega)) ?_
                      refine g_iload_n C 1 rfl dX8_isStronger_96 ?_
                      refine g_bipush C (nI 64) bp_64 dX8_isStronger_97 ?_
                      refine g_idiv C (nI (w / 64)) (by decide +kernel) dX8_isStronger_99 (pk_div (by omega) (by omega) (by omega)) ?_
                      refine g_icmp_neN C (a / 64) (w / 64) 122 rfl rfl (by omega) (by omega) dX8_isStronger_100 rfl (fun c100 => ?_) (fun c100 => ?_)
                      · skip
                        refine g_iconst C (nI 0) ic_0 dX8_isStronger_122 ?_
                        exact g_zret E false rfl dX8_isStronger_123 (by decide) (by decide) ⟨(congrArg (fun z => some (Value.int (bI z))) (by (try simp only [decide_eq_true_eq, decide_eq_false_iff_not] at c105); (try simp only [decide_eq_true_eq, decide_eq_false_iff_not] at c110); (try simp only [decide_eq_true_eq, decide_eq_false_iff_not] at c115); unfold spF; first | exact (decide_eq_true (by omega)).symm | exact (decide_eq_false (by omega)).symm)), rfl⟩
                      · skip
                        refine g_iload C 4 rfl dX8_isStronger_103 ?_
                        refine g_if_eqB C (decide (a / 8 % 8 = 4 ∨ a / 8 % 8 = w / 8 % 8)) 122 rfl dX8_isStronger_105 rfl (fun c105 => ?_) (fun c105 => ?_)
                        · skip
                          refine g_iconst C (nI 0) ic_0 dX8_isStronger_122 ?_
                          exact g_zret E false rfl dX8_isStronger_123 (by decide) (by decide) ⟨(congrArg (fun z => some (Value.int (bI z))) (by (try simp only [decide_eq_true_eq, decide_eq_false_iff_not] at c105); (try simp only [decide_eq_true_eq, decide_eq_false_iff_not] at c110); (try simp only [decide_eq_true_eq, decide_eq_false_iff_not] at c115); unfold spF; first | exact (decide_eq_true (by omega)).symm | exact (decide_eq_false (by omega)).symm)), rfl⟩
                        · skip
                          refine g_iload C 5 rfl dX8_isStronger_108 ?_
                          refine g_if_eqB C (decide (3 < a % 8 ∨ a % 8 = w % 8)) 122 rfl dX8_isStronger_110 rfl (fun c110 => ?_) (fun c110 => ?_)
                          · skip
                            refine g_iconst C (nI 0) ic_0 dX8_isStronger_122 ?_
                            exact g_zret E false rfl dX8_isStronger_123 (by decide) (by decide) ⟨(congrArg (fun z => some (Value.int (bI z))) (by (try simp only [decide_eq_true_eq, decide_eq_false_iff_not] at c105); (try simp only [decide_eq_true_eq, decide_eq_false_iff_not] at c110); (try simp only [decide_eq_true_eq, decide_eq_false_iff_not] at c115); unfold spF; first | exact (decide_eq_true (by omega)).symm | exact (decide_eq_false (by omega)).symm)), rfl⟩
                          · skip
                            refine g_iload C 6 rfl dX8_isStronger_113 ?_
                            refine g_if_eqB C (decide (a / 8 % 8 ≠ 4 ∨ a % 8 ≠ 4 ∨ w / 8 % 8 = w % 8)) 122 rfl dX8_isStronger_115 rfl (fun c115 => ?_) (fun c115 => ?_)
                            · skip
                              refine g_iconst C (nI 0) ic_0 dX8_isStronger_122 ?_
                              exact g_zret E false rfl dX8_isStronger_123 (by decide) (by decide) ⟨(congrArg (fun z => some (Value.int (bI z))) (by (try simp only [decide_eq_true_eq, decide_eq_false_iff_not] at c105); (try simp only [decide_eq_true_eq, decide_eq_false_iff_not] at c110); (try simp only [decide_eq_true_eq, decide_eq_false_iff_not] at c115); unfold spF; first | exact (decide_eq_true (by omega)).symm | exact (decide_eq_false (by omega)).symm)), rfl⟩
                            · skip
                              refine g_iconst C (nI 1) ic_1 dX8_isStronger_118 ?_
                              refine g_goto C 123 dX8_isStronger_119 rfl ?_
                              exact g_zret E true rfl dX8_isStronger_123 (by decide) (by decide) ⟨(congrArg (fun z => some (Value.int (bI z))) (by (try simp only [decide_eq_true_eq, decide_eq_false_iff_not] at c105); (try simp only [decide_eq_true_eq, decide_eq_false_iff_not] at c110); (try simp only [decide_eq_true_eq, decide_eq_false_iff_not] at c115); unfold spF; first | exact (decide_eq_true (by omega)).symm | exact (decide_eq_false (by omega)).symm)), rfl⟩
                  exact L87  
                · skip
                  refine g_iload_n C 1 rfl dX8_isStronger_66 ?_
                  refine g_bipush C (nI 8) bp_8 dX8_isStronger_67 ?_
                  refine g_idiv C (nI (w / 8)) (by decide +kernel) dX8_isStronger_69 (pk_div (by omega) (by omega) (by omega)) ?_
                  refine g_bipush C (nI 8) bp_8 dX8_isStronger_70 ?_
                  refine g_irem C (nI ((w / 8) % 8)) (by decide +kernel) dX8_isStronger_72 (pk_rem (by omega) (by omega) (by omega)) ?_
                  refine g_iload_n C 1 rfl dX8_isStronger_73 ?_
                  refine g_bipush C (nI 8) bp_8 dX8_isStronger_74 ?_
                  refine g_irem C (nI (w % 8)) (by decide +kernel) dX8_isStronger_76 (pk_rem (by omega) (by omega) (by omega)) ?_
                  refine g_icmp_neN C ((w / 8) % 8) (w % 8) 84 rfl rfl (by omega) (by omega) dX8_isStronger_77 rfl (fun c77 => ?_) (fun c77 => ?_)
                  · skip
                    refine g_iconst C (nI 0) ic_0 dX8_isStronger_84 ?_
                    refine g_st [.int (bI (decide (a / 8 % 8 ≠ 4 ∨ a % 8 ≠ 4 ∨ w / 8 % 8 = w % 8)))] (congrArg (fun z => [Value.int z]) (by first | (rw [decide_eq_true (by omega)]; rfl) | (rw [decide_eq_false (by omega)]; rfl))) ?_
                    refine g_istore C [(6, .int (bI (decide (a / 8 % 8 ≠ 4 ∨ a % 8 ≠ 4 ∨ w / 8 % 8 = w % 8)))), (0, .int (nI a)), (1, .int (nI w)), (2, .int (nI ((a / 8) % 8))), (3, .int (nI (a % 8))), (4, .int (bI (decide (a / 8 % 8 = 4 ∨ a / 8 % 8 = w / 8 % 8)))), (5, .int (bI (decide (3 < a % 8 ∨ a % 8 = w % 8))))] dX8_isStronger_85 (by decide) rfl ?_
                    refine g_lo [1, 2, 3, 4, 5, 6, 0] [(0, .int (nI a)), (1, .int (nI w)), (2, .int (nI ((a / 8) % 8))), (3, .int (nI (a % 8))), (4, .int (bI (decide (a / 8 % 8 = 4 ∨ a / 8 % 8 = w / 8 % 8)))), (5, .int (bI (decide (3 < a % 8 ∨ a % 8 = w % 8)))), (6, .int (bI (decide (a / 8 % 8 ≠ 4 ∨ a % 8 ≠ 4 ∨ w / 8 % 8 = w % 8))))] rfl ?_
                    have L87 : gW pg l en r_X8_isStronger s0 mi ag bl mth cd 7 D AA HH QQ 87 [(0, .int (nI a)), (1, .int (nI w)), (2, .int (nI ((a / 8) % 8))), (3, .int (nI (a % 8))), (4, .int (bI (decide (a / 8 % 8 = 4 ∨ a / 8 % 8 = w / 8 % 8)))), (5, .int (bI (decide (3 < a % 8 ∨ a % 8 = w % 8)))), (6, .int (bI (decide (a / 8 % 8 ≠ 4 ∨ a % 8 ≠ 4 ∨ w / 8 % 8 = w % 8))))] [] [] 0 0 := by
                      skip
                      refine g_iload_n C 0 rfl dX8_isStronger_87 ?_
                      refine g_iload_n C 1 rfl dX8_isStronger_88 ?_
                      refine g_icmp_eqN C a w 122 rfl rfl (by omega) (by omega) dX8_isStronger_89 rfl (fun c89 => ?_) (fun c89 => ?_)
                      · skip
                        refine g_iconst C (nI 0) ic_0 dX8_isStronger_122 ?_
                        exact g_zret E false rfl dX8_isStronger_123 (by decide) (by decide) ⟨(congrArg (fun z => some (Value.int (bI z))) (by (try simp only [decide_eq_true_eq, decide_eq_false_iff_not] at c105); (try simp only [decide_eq_true_eq, decide_eq_false_iff_not] at c110); (try simp only [decide_eq_true_eq, decide_eq_false_iff_not] at c115); unfold spF; first | exact (decide_eq_true (by omega)).symm | exact (decide_eq_false (by omega)).symm)), rfl⟩
                      · skip
                        refine g_iload_n C 0 rfl dX8_isStronger_92 ?_
                        refine g_bipush C (nI 64) bp_64 dX8_isStronger_93 ?_
                        refine g_idiv C (nI (a / 64)) (by decide +kernel) dX8_isStronger_95 (pk_div (by omega) (by omega) (by omega)) ?_
                        refine g_iload_n C 1 rfl dX8_isStronger_96 ?_
                        refine g_bipush C (nI 64) bp_64 dX8_isStronger_97 ?_
                        refine g_idiv C (nI (w / 64)) (by decide +kernel) dX8_isStronger_99 (pk_div (by omega) (by omega) (by omega)) ?_
                        refine g_icmp_neN C (a / 64) (w / 64) 122 rfl rfl (by omega) (by omega) dX8_isStronger_100 rfl (fun c100 => ?_) (fun c100 => ?_)
                        · skip
                          refine g_iconst C (nI 0) ic_0 dX8_isStronger_122 ?_
                          exact g_zret E false rfl dX8_isStronger_123 (by decide) (by decide) ⟨(congrArg (fun z => some (Value.int (bI z))) (by (try simp only [decide_eq_true_eq, decide_eq_false_iff_not] at c105); (try simp only [decide_eq_true_eq, decide_eq_false_iff_not] at c110); (try simp only [decide_eq_true_eq, decide_eq_false_iff_not] at c115); unfold spF; first | exact (decide_eq_true (by omega)).symm | exact (decide_eq_false (by omega)).symm)), rfl⟩
                        · skip
                          refine g_iload C 4 rfl dX8_isStronger_103 ?_
                          refine g_if_eqB C (decide (a / 8 % 8 = 4 ∨ a / 8 % 8 = w / 8 % 8)) 122 rfl dX8_isStronger_105 rfl (fun c105 => ?_) (fun c105 => ?_)
                          · skip
                            refine g_iconst C (nI 0) ic_0 dX8_isStronger_122 ?_
                            exact g_zret E false rfl dX8_isStronger_123 (by decide) (by decide) ⟨(congrArg (fun z => some (Value.int (bI z))) (by (try simp only [decide_eq_true_eq, decide_eq_false_iff_not] at c105); (try simp only [decide_eq_true_eq, decide_eq_false_iff_not] at c110); (try simp only [decide_eq_true_eq, decide_eq_false_iff_not] at c115); unfold spF; first | exact (decide_eq_true (by omega)).symm | exact (decide_eq_false (by omega)).symm)), rfl⟩
                          · skip
                            refine g_iload C 5 rfl dX8_isStronger_108 ?_
                            refine g_if_eqB C (decide (3 < a % 8 ∨ a % 8 = w % 8)) 122 rfl dX8_isStronger_110 rfl (fun c110 => ?_) (fun c110 => ?_)
                            · skip
                              refine g_iconst C (nI 0) ic_0 dX8_isStronger_122 ?_
                              exact g_zret E false rfl dX8_isStronger_123 (by decide) (by decide) ⟨(congrArg (fun z => some (Value.int (bI z))) (by (try simp only [decide_eq_true_eq, decide_eq_false_iff_not] at c105); (try simp only [decide_eq_true_eq, decide_eq_false_iff_not] at c110); (try simp only [decide_eq_true_eq, decide_eq_false_iff_not] at c115); unfold spF; first | exact (decide_eq_true (by omega)).symm | exact (decide_eq_false (by omega)).symm)), rfl⟩
                            · skip
                              refine g_iload C 6 rfl dX8_isStronger_113 ?_
                              refine g_if_eqB C (decide (a / 8 % 8 ≠ 4 ∨ a % 8 ≠ 4 ∨ w / 8 % 8 = w % 8)) 122 rfl dX8_isStronger_115 rfl (fun c115 => ?_) (fun c115 => ?_)
                              · skip
                                refine g_iconst C (nI 0) ic_0 dX8_isStronger_122 ?_
                                exact g_zret E false rfl dX8_isStronger_123 (by decide) (by decide) ⟨(congrArg (fun z => some (Value.int (bI z))) (by (try simp only [decide_eq_true_eq, decide_eq_false_iff_not] at c105); (try simp only [decide_eq_true_eq, decide_eq_false_iff_not] at c110); (try simp only [decide_eq_true_eq, decide_eq_false_iff_not] at c115); unfold spF; first | exact (decide_eq_true (by omega)).symm | exact (decide_eq_false (by omega)).symm)), rfl⟩
                              · skip
                                refine g_iconst C (nI 1) ic_1 dX8_isStronger_118 ?_
                                refine g_goto C 123 dX8_isStronger_119 rfl ?_
                                exact g_zret E true rfl dX8_isStronger_123 (by decide) (by decide) ⟨(congrArg (fun z => some (Value.int (bI z))) (by (try simp only [decide_eq_true_eq, decide_eq_false_iff_not] at c105); (try simp only [decide_eq_true_eq, decide_eq_false_iff_not] at c110); (try simp only [decide_eq_true_eq, decide_eq_false_iff_not] at c115); unfold spF; first | exact (decide_eq_true (by omega)).symm | exact (decide_eq_false (by omega)).symm)), rfl⟩
                    exact L87  
                  · skip
                    refine g_iconst C (nI 1) ic_1 dX8_isStronger_80 ?_
                    refine g_goto C 85 dX8_isStronger_81 rfl ?_
                    refine g_st [.int (bI (decide (a / 8 % 8 ≠ 4 ∨ a % 8 ≠ 4 ∨ w / 8 % 8 = w % 8)))] (congrArg (fun z => [Value.int z]) (by first | (rw [decide_eq_true (by omega)]; rfl) | (rw [decide_eq_false (by omega)]; rfl))) ?_
                    refine g_istore C [(6, .int (bI (decide (a / 8 % 8 ≠ 4 ∨ a % 8 ≠ 4 ∨ w / 8 % 8 = w % 8)))), (0, .int (nI a)), (1, .int (nI w)), (2, .int (nI ((a / 8) % 8))), (3, .int (nI (a % 8))), (4, .int (bI (decide (a / 8 % 8 = 4 ∨ a / 8 % 8 = w / 8 % 8)))), (5, .int (bI (decide (3 < a % 8 ∨ a % 8 = w % 8))))] dX8_isStronger_85 (by decide) rfl ?_
                    refine g_lo [1, 2, 3, 4, 5, 6, 0] [(0, .int (nI a)), (1, .int (nI w)), (2, .int (nI ((a / 8) % 8))), (3, .int (nI (a % 8))), (4, .int (bI (decide (a / 8 % 8 = 4 ∨ a / 8 % 8 = w / 8 % 8)))), (5, .int (bI (decide (3 < a % 8 ∨ a % 8 = w % 8)))), (6, .int (bI (decide (a / 8 % 8 ≠ 4 ∨ a % 8 ≠ 4 ∨ w / 8 % 8 = w % 8))))] rfl ?_
                    have L87 : gW pg l en r_X8_isStronger s0 mi ag bl mth cd 7 D AA HH QQ 87 [(0, .int (nI a)), (1, .int (nI w)), (2, .int (nI ((a / 8) % 8))), (3, .int (nI (a % 8))), (4, .int (bI (decide (a / 8 % 8 = 4 ∨ a / 8 % 8 = w / 8 % 8)))), (5, .int (bI (decide (3 < a % 8 ∨ a % 8 = w % 8)))), (6, .int (bI (decide (a / 8 % 8 ≠ 4 ∨ a % 8 ≠ 4 ∨ w / 8 % 8 = w % 8))))] [] [] 0 0 := by
                      skip
                      refine g_iload_n C 0 rfl dX8_isStronger_87 ?_
                      refine g_iload_n C 1 rfl dX8_isStronger_88 ?_
                      refine g_icmp_eqN C a w 122 rfl rfl (by omega) (by omega) dX8_isStronger_89 rfl (fun c89 => ?_) (fun c89 => ?_)
                      · skip
                        refine g_iconst C (nI 0) ic_0 dX8_isStronger_122 ?_
                        exact g_zret E false rfl dX8_isStronger_123 (by decide) (by decide) ⟨(congrArg (fun z => some (Value.int (bI z))) (by (try simp only [decide_eq_true_eq, decide_eq_false_iff_not] at c105); (try simp only [decide_eq_true_eq, decide_eq_false_iff_not] at c110); (try simp only [decide_eq_true_eq, decide_eq_false_iff_not] at c115); unfold spF; first | exact (decide_eq_true (by omega)).symm | exact (decide_eq_false (by omega)).symm)), rfl⟩
                      · skip
                        refine g_iload_n C 0 rfl dX8_isStronger_92 ?_
                        refine g_bipush C (nI 64) bp_64 dX8_isStronger_93 ?_
                        refine g_idiv C (nI (a / 64)) (by decide +kernel) dX8_isStronger_95 (pk_div (by omega) (by omega) (by omega)) ?_
                        refine g_iload_n C 1 rfl dX8_isStronger_96 ?_
                        refine g_bipush C (nI 64) bp_64 dX8_isStronger_97 ?_
                        refine g_idiv C (nI (w / 64)) (by decide +kernel) dX8_isStronger_99 (pk_div (by omega) (by omega) (by omega)) ?_
                        refine g_icmp_neN C (a / 64) (w / 64) 122 rfl rfl (by omega) (by omega) dX8_isStronger_100 rfl (fun c100 => ?_) (fun c100 => ?_)
                        · skip
                          refine g_iconst C (nI 0) ic_0 dX8_isStronger_122 ?_
                          exact g_zret E false rfl dX8_isStronger_123 (by decide) (by decide) ⟨(congrArg (fun z => some (Value.int (bI z))) (by (try simp only [decide_eq_true_eq, decide_eq_false_iff_not] at c105); (try simp only [decide_eq_true_eq, decide_eq_false_iff_not] at c110); (try simp only [decide_eq_true_eq, decide_eq_false_iff_not] at c115); unfold spF; first | exact (decide_eq_true (by omega)).symm | exact (decide_eq_false (by omega)).symm)), rfl⟩
                        · skip
                          refine g_iload C 4 rfl dX8_isStronger_103 ?_
                          refine g_if_eqB C (decide (a / 8 % 8 = 4 ∨ a / 8 % 8 = w / 8 % 8)) 122 rfl dX8_isStronger_105 rfl (fun c105 => ?_) (fun c105 => ?_)
                          · skip
                            refine g_iconst C (nI 0) ic_0 dX8_isStronger_122 ?_
                            exact g_zret E false rfl dX8_isStronger_123 (by decide) (by decide) ⟨(congrArg (fun z => some (Value.int (bI z))) (by (try simp only [decide_eq_true_eq, decide_eq_false_iff_not] at c105); (try simp only [decide_eq_true_eq, decide_eq_false_iff_not] at c110); (try simp only [decide_eq_true_eq, decide_eq_false_iff_not] at c115); unfold spF; first | exact (decide_eq_true (by omega)).symm | exact (decide_eq_false (by omega)).symm)), rfl⟩
                          · skip
                            refine g_iload C 5 rfl dX8_isStronger_108 ?_
                            refine g_if_eqB C (decide (3 < a % 8 ∨ a % 8 = w % 8)) 122 rfl dX8_isStronger_110 rfl (fun c110 => ?_) (fun c110 => ?_)
                            · skip
                              refine g_iconst C (nI 0) ic_0 dX8_isStronger_122 ?_
                              exact g_zret E false rfl dX8_isStronger_123 (by decide) (by decide) ⟨(congrArg (fun z => some (Value.int (bI z))) (by (try simp only [decide_eq_true_eq, decide_eq_false_iff_not] at c105); (try simp only [decide_eq_true_eq, decide_eq_false_iff_not] at c110); (try simp only [decide_eq_true_eq, decide_eq_false_iff_not] at c115); unfold spF; first | exact (decide_eq_true (by omega)).symm | exact (decide_eq_false (by omega)).symm)), rfl⟩
                            · skip
                              refine g_iload C 6 rfl dX8_isStronger_113 ?_
                              refine g_if_eqB C (decide (a / 8 % 8 ≠ 4 ∨ a % 8 ≠ 4 ∨ w / 8 % 8 = w % 8)) 122 rfl dX8_isStronger_115 rfl (fun c115 => ?_) (fun c115 => ?_)
                              · skip
                                refine g_iconst C (nI 0) ic_0 dX8_isStronger_122 ?_
                                exact g_zret E false rfl dX8_isStronger_123 (by decide) (by decide) ⟨(congrArg (fun z => some (Value.int (bI z))) (by (try simp only [decide_eq_true_eq, decide_eq_false_iff_not] at c105); (try simp only [decide_eq_true_eq, decide_eq_false_iff_not] at c110); (try simp only [decide_eq_true_eq, decide_eq_false_iff_not] at c115); unfold spF; first | exact (decide_eq_true (by omega)).symm | exact (decide_eq_false (by omega)).symm)), rfl⟩
                              · skip
                                refine g_iconst C (nI 1) ic_1 dX8_isStronger_118 ?_
                                refine g_goto C 123 dX8_isStronger_119 rfl ?_
                                exact g_zret E true rfl dX8_isStronger_123 (by decide) (by decide) ⟨(congrArg (fun z => some (Value.int (bI z))) (by (try simp only [decide_eq_true_eq, decide_eq_false_iff_not] at c105); (try simp only [decide_eq_true_eq, decide_eq_false_iff_not] at c110); (try simp only [decide_eq_true_eq, decide_eq_false_iff_not] at c115); unfold spF; first | exact (decide_eq_true (by omega)).symm | exact (decide_eq_false (by omega)).symm)), rfl⟩
                    exact L87  
            exact L56  
      exact L36  
def r_X8_isOf : Room := { frames := 1, cells := 0, slots := 0, locals := 26 }
set_option maxRecDepth 100000 in
set_option maxHeartbeats 4000000 in
theorem k_X8_isOf (l : Launch) (D : va_G) (ty : Nat → ClassId) (a : Nat) (w : Nat) (ha : a < 256) (hw : w < 256) : gM l D ty yX8_isOf cX8_isOf 2 (some (FieldType.boolean : FieldType)) r_X8_isOf 0 0 [.int (nI a), .int (nI w)] [] (fun (zr : Option Value) (zW : va_W) => zr = some (.int (bI (isO a w))) ∧ zW = []) := by
  refine gM_of RX8 rfl (by decide +kernel) (Nat.le_of_ble_eq_true rfl) ?_
  intro pg en s0 mi ag bl mth cd AA HH QQ C E hnm
  show gW pg l en r_X8_isOf s0 mi ag bl mth cd 2 D AA HH QQ 0 [(0, .int (nI a)), (1, .int (nI w))] [] [] 0 0
  refine g_iload_n C 0 rfl dX8_isOf_0 ?_
  refine g_iload_n C 1 rfl dX8_isOf_1 ?_
  refine g_icmp_eqN C a w 13 rfl rfl (by omega) (by omega) dX8_isOf_2 rfl (fun c2 => ?_) (fun c2 => ?_)
  · skip
    refine g_iconst C (nI 1) ic_1 dX8_isOf_13 ?_
    refine g_goto C 18 dX8_isOf_14 rfl ?_
    exact g_zret E true rfl dX8_isOf_18 (by decide) (by decide) ⟨(congrArg (fun z => some (Value.int (bI z))) (by unfold isO; first | (rw [decide_eq_true (show a = w by omega)]; rfl) | (rw [decide_eq_false (show ¬ a = w by omega), c10]; rfl))), rfl⟩
  · skip
    refine g_iload_n C 0 rfl dX8_isOf_5 ?_
    refine g_iload_n C 1 rfl dX8_isOf_6 ?_
    refine g_callS0 C (nA := 2) (k_X8_isStronger l D ty a w (by omega) (by omega)) wm_X8_77 ws_X8_isStronger wi_X8 wc_X8_isStronger rfl (by decide +kernel) ⟨(Nat.le_of_ble_eq_true rfl), (Nat.le_of_ble_eq_true rfl)⟩ ⟨rfl, rfl⟩ dX8_isOf_7 (fun _ _ h => h.2) (Nat.le_of_ble_eq_true rfl) rfl ⟨Nat.zero_le _, Nat.zero_le _⟩ (fun r hp => ?_)
    obtain ⟨rfl, -⟩ := hp
    refine g_st [.int (bI (spF a w))] rfl ?_
    refine g_if_eqB C (spF a w) 17 rfl dX8_isOf_10 rfl (fun c10 => ?_) (fun c10 => ?_)
    · skip
      refine g_iconst C (nI 0) ic_0 dX8_isOf_17 ?_
      exact g_zret E false rfl dX8_isOf_18 (by decide) (by decide) ⟨(congrArg (fun z => some (Value.int (bI z))) (by unfold isO; first | (rw [decide_eq_true (show a = w by omega)]; rfl) | (rw [decide_eq_false (show ¬ a = w by omega), c10]; rfl))), rfl⟩
    · skip
      refine g_iconst C (nI 1) ic_1 dX8_isOf_13 ?_
      refine g_goto C 18 dX8_isOf_14 rfl ?_
      exact g_zret E true rfl dX8_isOf_18 (by decide) (by decide) ⟨(congrArg (fun z => some (Value.int (bI z))) (by unfold isO; first | (rw [decide_eq_true (show a = w by omega)]; rfl) | (rw [decide_eq_false (show ¬ a = w by omega), c10]; rfl))), rfl⟩
def r_X8_instancesOf : Room := { frames := 0, cells := 0, slots := 0, locals := 0 }
set_option maxRecDepth 100000 in
set_option maxHeartbeats 4000000 in
theorem k_X8_instancesOf (l : Launch) (D : va_G) (ty : Nat → ClassId) (a : Nat) (ha : a < 256) : gM l D ty yX8_instancesOf cX8_instancesOf 2 (some (FieldType.int : FieldType)) r_X8_instancesOf 0 0 [.int (nI a)] [] (fun (zr : Option Value) (zW : va_W) => zr = some (.int (nI (iC a))) ∧ zW = []) := by
  refine gM_of RX8 rfl (by decide +kernel) (Nat.le_of_ble_eq_true rfl) ?_
  intro pg en s0 mi ag bl mth cd AA HH QQ C E hnm
  show gW pg l en r_X8_instancesOf s0 mi ag bl mth cd 2 D AA HH QQ 0 [(0, .int (nI a))] [] [] 0 0
  refine g_iload_n C 0 rfl dX8_instancesOf_0 ?_
  refine g_bipush C (nI 8) bp_8 dX8_instancesOf_1 ?_
  refine g_idiv C (nI (a / 8)) (by decide +kernel) dX8_instancesOf_3 (pk_div (by omega) (by omega) (by omega)) ?_
  refine g_bipush C (nI 8) bp_8 dX8_instancesOf_4 ?_
  refine g_irem C (nI ((a / 8) % 8)) (by decide +kernel) dX8_instancesOf_6 (pk_rem (by omega) (by omega) (by omega)) ?_
  refine g_iconst C (nI 3) ic_3 dX8_instancesOf_7 ?_
  refine g_icmp_leN C ((a / 8) % 8) 3 15 rfl rfl (by omega) (by omega) dX8_instancesOf_8 rfl (fun c8 => ?_) (fun c8 => ?_)
  · skip
    refine g_iconst C (nI 0) ic_0 dX8_instancesOf_15 ?_
    refine g_iload_n C 0 rfl dX8_instancesOf_16 ?_
    refine g_bipush C (nI 8) bp_8 dX8_instancesOf_17 ?_
    refine g_irem C (nI (a % 8)) (by decide +kernel) dX8_instancesOf_19 (pk_rem (by omega) (by omega) (by omega)) ?_
    refine g_iconst C (nI 3) ic_3 dX8_instancesOf_20 ?_
    refine g_icmp_leN C (a % 8) 3 28 rfl rfl (by omega) (by omega) dX8_instancesOf_21 rfl (fun c21 => ?_) (fun c21 => ?_)
    · skip
      refine g_iconst C (nI 0) ic_0 dX8_instancesOf_28 ?_
      refine g_iadd C (nI 0) dX8_instancesOf_29 (nI_add _ _) ?_
      refine g_istore_n C [(1, .int (nI 0)), (0, .int (nI a))] dX8_instancesOf_30 rfl (by decide) rfl ?_
      refine g_iload_n C 0 rfl dX8_instancesOf_31 ?_
      refine g_if_neN C 0 39 rfl (by omega) dX8_instancesOf_32 rfl (fun c32 => ?_) (fun c32 => ?_)
      · skip
        refine g_iload_n C 1 rfl dX8_instancesOf_39 ?_
        refine g_bipush C (nI 8) bp_8 dX8_instancesOf_40 ?_
        refine g_irem C (nI (a % 8)) (by decide +kernel) dX8_instancesOf_42 (pk_rem (by omega) (by omega) (by omega)) ?_
        refine g_iconst C (nI 5) ic_5 dX8_instancesOf_43 ?_
        refine g_icmp_neN C (a % 8) 5 52 rfl rfl (by omega) (by omega) dX8_instancesOf_44 rfl (fun c44 => ?_) (fun c44 => ?_)
        · skip
          refine g_iconst C (nI 4) ic_4 dX8_instancesOf_52 ?_
          exact g_iret E dX8_instancesOf_53 (by decide) (by decide) ⟨(congrArg (fun z => some (Value.int (nI z))) (by unfold iC; first | (rw [if_pos (by omega)]; done) | (rw [if_neg (by omega), if_pos (by omega)]; done) | (rw [if_neg (by omega), if_neg (by omega)]; done))), rfl⟩
        · skip
          refine g_bipush C (nI 16) bp_16 dX8_instancesOf_47 ?_
          refine g_goto C 53 dX8_instancesOf_49 rfl ?_
          exact g_iret E dX8_instancesOf_53 (by decide) (by decide) ⟨(congrArg (fun z => some (Value.int (nI z))) (by unfold iC; first | (rw [if_pos (by omega)]; done) | (rw [if_neg (by omega), if_pos (by omega)]; done) | (rw [if_neg (by omega), if_neg (by omega)]; done))), rfl⟩
      · skip
        refine g_iconst C (nI 1) ic_1 dX8_instancesOf_35 ?_
        refine g_goto C 53 dX8_instancesOf_36 rfl ?_
        exact g_iret E dX8_instancesOf_53 (by decide) (by decide) ⟨(congrArg (fun z => some (Value.int (nI z))) (by unfold iC; first | (rw [if_pos (by omega)]; done) | (rw [if_neg (by omega), if_pos (by omega)]; done) | (rw [if_neg (by omega), if_neg (by omega)]; done))), rfl⟩
    · skip
      refine g_iconst C (nI 1) ic_1 dX8_instancesOf_24 ?_
      refine g_goto C 29 dX8_instancesOf_25 rfl ?_
      refine g_iadd C (nI 1) dX8_instancesOf_29 (nI_add _ _) ?_
      refine g_istore_n C [(1, .int (nI 1)), (0, .int (nI a))] dX8_instancesOf_30 rfl (by decide) rfl ?_
      refine g_iload_n C 0 rfl dX8_instancesOf_31 ?_
      refine g_if_neN C 1 39 rfl (by omega) dX8_instancesOf_32 rfl (fun c32 => ?_) (fun c32 => ?_)
      · skip
        refine g_iload_n C 1 rfl dX8_instancesOf_39 ?_
        refine g_bipush C (nI 8) bp_8 dX8_instancesOf_40 ?_
        refine g_irem C (nI (a % 8)) (by decide +kernel) dX8_instancesOf_42 (pk_rem (by omega) (by omega) (by omega)) ?_
        refine g_iconst C (nI 5) ic_5 dX8_instancesOf_43 ?_
        refine g_icmp_neN C (a % 8) 5 52 rfl rfl (by omega) (by omega) dX8_instancesOf_44 rfl (fun c44 => ?_) (fun c44 => ?_)
        · skip
          refine g_iconst C (nI 4) ic_4 dX8_instancesOf_52 ?_
          exact g_iret E dX8_instancesOf_53 (by decide) (by decide) ⟨(congrArg (fun z => some (Value.int (nI z))) (by unfold iC; first | (rw [if_pos (by omega)]; done) | (rw [if_neg (by omega), if_pos (by omega)]; done) | (rw [if_neg (by omega), if_neg (by omega)]; done))), rfl⟩
        · skip
          refine g_bipush C (nI 16) bp_16 dX8_instancesOf_47 ?_
          refine g_goto C 53 dX8_instancesOf_49 rfl ?_
          exact g_iret E dX8_instancesOf_53 (by decide) (by decide) ⟨(congrArg (fun z => some (Value.int (nI z))) (by unfold iC; first | (rw [if_pos (by omega)]; done) | (rw [if_neg (by omega), if_pos (by omega)]; done) | (rw [if_neg (by omega), if_neg (by omega)]; done))), rfl⟩
      · skip
        refine g_iconst C (nI 1) ic_1 dX8_instancesOf_35 ?_
        refine g_goto C 53 dX8_instancesOf_36 rfl ?_
        exact g_iret E dX8_instancesOf_53 (by decide) (by decide) ⟨(congrArg (fun z => some (Value.int (nI z))) (by unfold iC; first | (rw [if_pos (by omega)]; done) | (rw [if_neg (by omega), if_pos (by omega)]; done) | (rw [if_neg (by omega), if_neg (by omega)]; done))), rfl⟩
  · skip
    refine g_iconst C (nI 1) ic_1 dX8_instancesOf_11 ?_
    refine g_goto C 16 dX8_instancesOf_12 rfl ?_
    refine g_iload_n C 0 rfl dX8_instancesOf_16 ?_
    refine g_bipush C (nI 8) bp_8 dX8_instancesOf_17 ?_
    refine g_irem C (nI (a % 8)) (by decide +kernel) dX8_instancesOf_19 (pk_rem (by omega) (by omega) (by omega)) ?_
    refine g_iconst C (nI 3) ic_3 dX8_instancesOf_20 ?_
    refine g_icmp_leN C (a % 8) 3 28 rfl rfl (by omega) (by omega) dX8_instancesOf_21 rfl (fun c21 => ?_) (fun c21 => ?_)
    · skip
      refine g_iconst C (nI 0) ic_0 dX8_instancesOf_28 ?_
      refine g_iadd C (nI 1) dX8_instancesOf_29 (nI_add _ _) ?_
      refine g_istore_n C [(1, .int (nI 1)), (0, .int (nI a))] dX8_instancesOf_30 rfl (by decide) rfl ?_
      refine g_iload_n C 0 rfl dX8_instancesOf_31 ?_
      refine g_if_neN C 1 39 rfl (by omega) dX8_instancesOf_32 rfl (fun c32 => ?_) (fun c32 => ?_)
      · skip
        refine g_iload_n C 1 rfl dX8_instancesOf_39 ?_
        refine g_bipush C (nI 8) bp_8 dX8_instancesOf_40 ?_
        refine g_irem C (nI (a % 8)) (by decide +kernel) dX8_instancesOf_42 (pk_rem (by omega) (by omega) (by omega)) ?_
        refine g_iconst C (nI 5) ic_5 dX8_instancesOf_43 ?_
        refine g_icmp_neN C (a % 8) 5 52 rfl rfl (by omega) (by omega) dX8_instancesOf_44 rfl (fun c44 => ?_) (fun c44 => ?_)
        · skip
          refine g_iconst C (nI 4) ic_4 dX8_instancesOf_52 ?_
          exact g_iret E dX8_instancesOf_53 (by decide) (by decide) ⟨(congrArg (fun z => some (Value.int (nI z))) (by unfold iC; first | (rw [if_pos (by omega)]; done) | (rw [if_neg (by omega), if_pos (by omega)]; done) | (rw [if_neg (by omega), if_neg (by omega)]; done))), rfl⟩
        · skip
          refine g_bipush C (nI 16) bp_16 dX8_instancesOf_47 ?_
          refine g_goto C 53 dX8_instancesOf_49 rfl ?_
          exact g_iret E dX8_instancesOf_53 (by decide) (by decide) ⟨(congrArg (fun z => some (Value.int (nI z))) (by unfold iC; first | (rw [if_pos (by omega)]; done) | (rw [if_neg (by omega), if_pos (by omega)]; done) | (rw [if_neg (by omega), if_neg (by omega)]; done))), rfl⟩
      · skip
        refine g_iconst C (nI 1) ic_1 dX8_instancesOf_35 ?_
        refine g_goto C 53 dX8_instancesOf_36 rfl ?_
        exact g_iret E dX8_instancesOf_53 (by decide) (by decide) ⟨(congrArg (fun z => some (Value.int (nI z))) (by unfold iC; first | (rw [if_pos (by omega)]; done) | (rw [if_neg (by omega), if_pos (by omega)]; done) | (rw [if_neg (by omega), if_neg (by omega)]; done))), rfl⟩
    · skip
      refine g_iconst C (nI 1) ic_1 dX8_instancesOf_24 ?_
      refine g_goto C 29 dX8_instancesOf_25 rfl ?_
      refine g_iadd C (nI 2) dX8_instancesOf_29 (nI_add _ _) ?_
      refine g_istore_n C [(1, .int (nI 2)), (0, .int (nI a))] dX8_instancesOf_30 rfl (by decide) rfl ?_
      refine g_iload_n C 0 rfl dX8_instancesOf_31 ?_
      refine g_if_neN C 2 39 rfl (by omega) dX8_instancesOf_32 rfl (fun c32 => ?_) (fun c32 => ?_)
      · skip
        refine g_iload_n C 1 rfl dX8_instancesOf_39 ?_
        refine g_bipush C (nI 8) bp_8 dX8_instancesOf_40 ?_
        refine g_irem C (nI (a % 8)) (by decide +kernel) dX8_instancesOf_42 (pk_rem (by omega) (by omega) (by omega)) ?_
        refine g_iconst C (nI 5) ic_5 dX8_instancesOf_43 ?_
        refine g_icmp_neN C (a % 8) 5 52 rfl rfl (by omega) (by omega) dX8_instancesOf_44 rfl (fun c44 => ?_) (fun c44 => ?_)
        · skip
          refine g_iconst C (nI 4) ic_4 dX8_instancesOf_52 ?_
          exact g_iret E dX8_instancesOf_53 (by decide) (by decide) ⟨(congrArg (fun z => some (Value.int (nI z))) (by unfold iC; first | (rw [if_pos (by omega)]; done) | (rw [if_neg (by omega), if_pos (by omega)]; done) | (rw [if_neg (by omega), if_neg (by omega)]; done))), rfl⟩
        · skip
          refine g_bipush C (nI 16) bp_16 dX8_instancesOf_47 ?_
          refine g_goto C 53 dX8_instancesOf_49 rfl ?_
          exact g_iret E dX8_instancesOf_53 (by decide) (by decide) ⟨(congrArg (fun z => some (Value.int (nI z))) (by unfold iC; first | (rw [if_pos (by omega)]; done) | (rw [if_neg (by omega), if_pos (by omega)]; done) | (rw [if_neg (by omega), if_neg (by omega)]; done))), rfl⟩
      · skip
        refine g_iconst C (nI 1) ic_1 dX8_instancesOf_35 ?_
        refine g_goto C 53 dX8_instancesOf_36 rfl ?_
        exact g_iret E dX8_instancesOf_53 (by decide) (by decide) ⟨(congrArg (fun z => some (Value.int (nI z))) (by unfold iC; first | (rw [if_pos (by omega)]; done) | (rw [if_neg (by omega), if_pos (by omega)]; done) | (rw [if_neg (by omega), if_neg (by omega)]; done))), rfl⟩
def r_X8_term : Room := { frames := 0, cells := 0, slots := 0, locals := 0 }
set_option maxRecDepth 100000 in
set_option maxHeartbeats 4000000 in
theorem k_X8_term (l : Launch) (D : va_G) (ty : Nat → ClassId) (t : Nat) (f : Nat) (ht : t < 8) (hf : f < 8) : gM l D ty yX8_term cX8_term 2 (some (FieldType.int : FieldType)) r_X8_term 0 0 [.int (nI t), .int (nI f)] [] (fun (zr : Option Value) (zW : va_W) => zr = some (.int (nI (tmM t f))) ∧ zW = []) := by
  refine gM_of RX8 rfl (by decide +kernel) (Nat.le_of_ble_eq_true rfl) ?_
  intro pg en s0 mi ag bl mth cd AA HH QQ C E hnm
  show gW pg l en r_X8_term s0 mi ag bl mth cd 2 D AA HH QQ 0 [(0, .int (nI t)), (1, .int (nI f))] [] [] 0 0
  refine g_iload_n C 0 rfl dX8_term_0 ?_
  refine g_iconst C (nI 4) ic_4 dX8_term_1 ?_
  refine g_icmp_geN C t 4 9 rfl rfl (by omega) (by omega) dX8_term_2 rfl (fun c2 => ?_) (fun c2 => ?_)
  · skip
    refine g_bipush C (nI 8) bp_8 dX8_term_9 ?_
    refine g_iload_n C 1 rfl dX8_term_11 ?_
    refine g_iadd C (nI (8 + f)) dX8_term_12 (nI_add _ _) ?_
    refine g_iload_n C 0 rfl dX8_term_13 ?_
    refine g_iadd C (nI ((8 + f) + t)) dX8_term_14 (nI_add _ _) ?_
    refine g_iconst C (nI 4) ic_4 dX8_term_15 ?_
    refine g_isub C (nI (((8 + f) + t) - 4)) dX8_term_16 (pk_sub (by omega)) ?_
    exact g_iret E dX8_term_17 (by decide) (by decide) ⟨(congrArg (fun z => some (Value.int (nI z))) (by unfold tmM; first | (rw [if_pos (by omega)]; done) | (rw [if_neg (by omega)]; done))), rfl⟩
  · skip
    refine g_iload_n C 0 rfl dX8_term_5 ?_
    refine g_goto C 17 dX8_term_6 rfl ?_
    exact g_iret E dX8_term_17 (by decide) (by decide) ⟨(congrArg (fun z => some (Value.int (nI z))) (by unfold tmM; first | (rw [if_pos (by omega)]; done) | (rw [if_neg (by omega)]; done))), rfl⟩
