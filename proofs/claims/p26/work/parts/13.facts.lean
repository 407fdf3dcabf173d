/-! which facts are weaker, what follows, what is dropped -/
def sp (o w : Nat) : Bool := (spm w).testBit o
def wkp (S : Nat → Bool) (p : Nat) : Nat → Bool := fun w => zany (fun o => S (64 * p + o) && sp o w) 64
def wk (S : Nat → Bool) : Nat → Bool := fun a => wkp S (a / 64) (a % 64)
def foll (S : Nat → Bool) : Nat → Bool := fun a => S a || wk S a
def drp (S : Nat → Bool) : Nat → Bool := fun a => S a && !wk S a
theorem spm_0 : ∀ w, w < 64 → 38 ≤ w → spm w = 0 := by decide +kernel
theorem spm_lt38 : ∀ w, w < 64 → spm w < 2 ^ 38 := by decide +kernel
theorem spm_lt : ∀ w, w < 64 → spm w < 2 ^ 64 := by decide +kernel
theorem zmsk_f (f : Nat → Bool) {i : Nat} (h : f i = false) : zmsk f (i + 1) = zmsk f i := by rw [zmsk, h]; rfl
theorem zmsk_t (f : Nat → Bool) {i : Nat} (hi : i < 64) (h : f i = true) : lN (zmsk f i) ||| (lN 1 <<< ((nI i).toInt64 &&& 63)) = lN (zmsk f (i + 1)) := by
  rw [zM_bit i hi, wb_or (Nat.lt_of_lt_of_le (zmsk_lt f i) (Nat.pow_le_pow_right (by decide) (by omega))) (z_pow64 hi), zmsk, h]
  congr 1
  have := Nat.two_pow_add_eq_or_of_lt (zmsk_lt f i) 1
  rw [Nat.or_comm]
  simpa [Nat.add_comm] using this.symm
theorem wkp_cmp (S : Nat → Bool) (p w : Nat) (hw : w < 64) : lg_cmp (zM S p &&& lN (spm w)) (lN 0) = bI (wkp S p w) := by
  rw [zM, wb_and (zmsk_lt _ 64) (spm_lt w hw)]
  have e : (zmsk (fun i => S (64 * p + i)) 64 &&& spm w = 0) ↔ wkp S p w = false := by
    constructor
    · intro h
      cases hw2 : wkp S p w with
      | false => rfl
      | true =>
        obtain ⟨o, h1, h2⟩ := zany_iff.mp hw2
        have h3 : (zmsk (fun i => S (64 * p + i)) 64 &&& spm w).testBit o = true := by
          rw [Nat.testBit_and, zmsk_tb]
          simpa [h1, sp] using h2
        rw [h] at h3
        simp at h3
    · intro h
      apply znat_ext
      intro o
      rw [Nat.testBit_and, zmsk_tb, Nat.zero_testBit]
      by_cases ho : o < 64
      · have : ¬ (S (64 * p + o) && sp o w) = true := fun q => by
          have := (zany_iff (p := fun o => S (64 * p + o) && sp o w) (n := 64)).mpr ⟨o, ho, q⟩
          rw [show zany (fun o => S (64 * p + o) && sp o w) 64 = wkp S p w from rfl, h] at this
          cases this
        simpa [ho, sp] using this
      · simp [ho]
  have hlt : zmsk (fun i => S (64 * p + i)) 64 &&& spm w < 2 ^ 38 := Nat.and_lt_two_pow _ (spm_lt38 w hw)
  generalize zmsk (fun i => S (64 * p + i)) 64 &&& spm w = n at *
  cases hv : wkp S p w with
  | false => rw [e.mpr hv]; decide +kernel
  | true =>
    have hn : n ≠ 0 := fun q => by rw [e.mp q] at hv; cases hv
    have hl : (lN 0 : Int64) < lN n := (pk_lLT (by decide) (by omega)).mpr (by omega)
    unfold lg_cmp
    rw [if_pos hl]
    rfl
theorem wkp_38 (S : Nat → Bool) (p : Nat) : lN (zmsk (wkp S p) 38) = zM (wk S) p := by
  rw [zM]
  congr 1
  apply znat_ext
  intro i
  rw [zmsk_tb, zmsk_tb]
  by_cases h : i < 64
  · have e : wk S (64 * p + i) = wkp S p i := by unfold wk; rw [show (64 * p + i) / 64 = p by omega, show (64 * p + i) % 64 = i by omega]
    rw [e]
    by_cases h2 : i < 38
    · simp [h, h2]
    · have : wkp S p i = false := by
        cases hv : wkp S p i with
        | false => rfl
        | true =>
          obtain ⟨o, h3, h4⟩ := zany_iff.mp hv
          simp [sp, spm_0 i h (by omega)] at h4
      simp [h2, this]
  · simp [h, show ¬ i < 38 by omega]

def r_X2_has : Room := { frames := 1, cells := 0, slots := 0, locals := 20 }
set_option maxRecDepth 100000 in
set_option maxHeartbeats 4000000 in
theorem k_X2_has (l : Launch) (D : va_G) (ty : Nat → ClassId) (h0 : Nat) (h1 : Nat) (S : Nat → Bool) (a : Nat) (ha : a < 256) : gM l D ty yX2_has cX2_has 2 (some (FieldType.boolean : FieldType)) r_X2_has 0 0 [.ref h0, .int (nI a)] [(h0, .inr (0, [.ref h1])), (h1, .inl (ty 1, 4, .inr (.inl (zM S))))] (fun (zr : Option Value) (zW : va_W) => zr = some (.int (bI (S a))) ∧ zW = [(h0, .inr (0, [.ref h1])), (h1, .inl (ty 1, 4, .inr (.inl (zM S))))]) := by
  refine gM_of RX2 rfl (by decide +kernel) (Nat.le_of_ble_eq_true rfl) ?_
  intro pg en s0 mi ag bl mth cd AA HH QQ C E hnm
  show gW pg l en r_X2_has s0 mi ag bl mth cd 2 D AA HH QQ 0 [(0, .ref h0), (1, .int (nI a))] [] [(h0, .inr (0, [.ref h1])), (h1, .inl (ty 1, 4, .inr (.inl (zM S))))] 0 0
  refine g_aload_n C 0 rfl dX2_has_0 ?_
  refine g_getf C wu_X2 0 rfl rfl 0 (by decide) wf_X2_9 rfl rfl dX2_has_1 ?_
  refine g_iload_n C 1 rfl dX2_has_4 ?_
  refine g_callS0 C (nA := 1) (k_X1_predicate l D ty a (by omega)) wm_X2_15 ws_X1_predicate wi_X1 wc_X1_predicate rfl (by decide +kernel) ⟨(Nat.le_of_ble_eq_true rfl), (Nat.le_of_ble_eq_true rfl)⟩ ⟨rfl, rfl⟩ dX2_has_5 (fun _ _ h => h.2) (Nat.le_of_ble_eq_true rfl) rfl ⟨Nat.zero_le _, Nat.zero_le _⟩ (fun r hp => ?_)
  obtain ⟨rfl, -⟩ := hp
  refine g_st [.int (nI (a / 64)), .ref h1] rfl ?_
  refine g_lald C 1 rfl (a / 64) rfl (by omega) (by decide) ((zM S) (a / 64)) rfl dX2_has_8 ?_
  refine g_iload_n C 1 rfl dX2_has_9 ?_
  refine g_callS0 C (nA := 1) (k_X1_pair l D ty a (by omega)) wm_X2_21 ws_X1_pair wi_X1 wc_X1_pair rfl (by decide +kernel) ⟨(Nat.le_of_ble_eq_true rfl), (Nat.le_of_ble_eq_true rfl)⟩ ⟨rfl, rfl⟩ dX2_has_10 (fun _ _ h => h.2) (Nat.le_of_ble_eq_true rfl) rfl ⟨Nat.zero_le _, Nat.zero_le _⟩ (fun r hp => ?_)
  obtain ⟨rfl, -⟩ := hp
  refine g_st [.int (nI (a % 64)), .long ((zM S) (a / 64))] rfl ?_
  refine g_lushr C ((((zM S) (a / 64)).toUInt64 >>> ((nI (a % 64)).toInt64.toUInt64 &&& Int64.toUInt64 63)).toInt64) rfl dX2_has_13 ?_
  refine g_lconst C (lN 1) lc_1 dX2_has_14 ?_
  refine g_land C (((((zM S) (a / 64)).toUInt64 >>> ((nI (a % 64)).toInt64.toUInt64 &&& Int64.toUInt64 63)).toInt64) &&& (lN 1)) dX2_has_15 rfl ?_
  refine g_lconst C (lN 0) lc_0 dX2_has_16 ?_
  refine g_lcmp C (bI (S a)) (zM_has S a rfl rfl) dX2_has_17 ?_
  refine g_if_eqB C (S a) 25 rfl dX2_has_18 rfl (fun c18 => ?_) (fun c18 => ?_)
  · skip
    refine g_iconst C (nI 0) ic_0 dX2_has_25 ?_
    exact g_zret E false rfl dX2_has_26 (by decide) (by decide) ⟨(congrArg (fun z => some (Value.int (bI z))) (by simp only [c18])), rfl⟩
  · skip
    refine g_iconst C (nI 1) ic_1 dX2_has_21 ?_
    refine g_goto C 26 dX2_has_22 rfl ?_
    exact g_zret E true rfl dX2_has_26 (by decide) (by decide) ⟨(congrArg (fun z => some (Value.int (bI z))) (by simp only [c18])), rfl⟩
def r_X2_put : Room := { frames := 1, cells := 0, slots := 0, locals := 20 }
set_option maxRecDepth 100000 in
set_option maxHeartbeats 4000000 in
theorem k_X2_put (l : Launch) (D : va_G) (ty : Nat → ClassId) (h0 : Nat) (h1 : Nat) (S : Nat → Bool) (a : Nat) (ha : a < 256) : gM l D ty yX2_put cX2_put 2 none r_X2_put 0 0 [.ref h0, .int (nI a)] [(h0, .inr (0, [.ref h1])), (h1, .inl (ty 1, 4, .inr (.inl (zM S))))] (fun (zr : Option Value) (zW : va_W) => zr = none ∧ zW = [(h0, .inr (0, [.ref h1])), (h1, .inl (ty 1, 4, .inr (.inl (zM (zPut S a)))))]) := by
  refine gM_of RX2 rfl (by decide +kernel) (Nat.le_of_ble_eq_true rfl) ?_
  intro pg en s0 mi ag bl mth cd AA HH QQ C E hnm
  show gW pg l en r_X2_put s0 mi ag bl mth cd 2 D AA HH QQ 0 [(0, .ref h0), (1, .int (nI a))] [] [(h0, .inr (0, [.ref h1])), (h1, .inl (ty 1, 4, .inr (.inl (zM S))))] 0 0
  refine g_aload_n C 0 rfl dX2_put_0 ?_
  refine g_getf C wu_X2 0 rfl rfl 0 (by decide) wf_X2_9 rfl rfl dX2_put_1 ?_
  refine g_iload_n C 1 rfl dX2_put_4 ?_
  refine g_callS0 C (nA := 1) (k_X1_predicate l D ty a (by omega)) wm_X2_15 ws_X1_predicate wi_X1 wc_X1_predicate rfl (by decide +kernel) ⟨(Nat.le_of_ble_eq_true rfl), (Nat.le_of_ble_eq_true rfl)⟩ ⟨rfl, rfl⟩ dX2_put_5 (fun _ _ h => h.2) (Nat.le_of_ble_eq_true rfl) rfl ⟨Nat.zero_le _, Nat.zero_le _⟩ (fun r hp => ?_)
  obtain ⟨rfl, -⟩ := hp
  refine g_st [.int (nI (a / 64)), .ref h1] rfl ?_
  refine g_dup2 C rfl rfl dX2_put_8 ?_
  refine g_lald C 1 rfl (a / 64) rfl (by omega) (by decide) ((zM S) (a / 64)) rfl dX2_put_9 ?_
  refine g_lconst C (lN 1) lc_1 dX2_put_10 ?_
  refine g_iload_n C 1 rfl dX2_put_11 ?_
  refine g_callS0 C (nA := 1) (k_X1_pair l D ty a (by omega)) wm_X2_21 ws_X1_pair wi_X1 wc_X1_pair rfl (by decide +kernel) ⟨(Nat.le_of_ble_eq_true rfl), (Nat.le_of_ble_eq_true rfl)⟩ ⟨rfl, rfl⟩ dX2_put_12 (fun _ _ h => h.2) (Nat.le_of_ble_eq_true rfl) rfl ⟨Nat.zero_le _, Nat.zero_le _⟩ (fun r hp => ?_)
  obtain ⟨rfl, -⟩ := hp
  refine g_st [.int (nI (a % 64)), .long (lN 1), .long ((zM S) (a / 64)), .int (nI (a / 64)), .ref h1] rfl ?_
  refine g_lshl C ((lN 1) <<< ((nI (a % 64)).toInt64 &&& 63)) rfl dX2_put_15 ?_
  refine g_lor C (((zM S) (a / 64)) ||| ((lN 1) <<< ((nI (a % 64)).toInt64 &&& 63))) dX2_put_16 rfl ?_
  refine g_last C 1 rfl (a / 64) rfl (by omega) (by decide) dX2_put_17 (zM (zPut S a)) (zM_put S a rfl rfl) [(h0, .inr (0, [.ref h1])), (h1, .inl (ty 1, 4, .inr (.inl (zM (zPut S a)))))] rfl ?_
  exact g_vret E dX2_put_18 (by decide) (by decide) ⟨rfl, rfl⟩
def r_X2_take : Room := { frames := 1, cells := 0, slots := 0, locals := 20 }
set_option maxRecDepth 100000 in
set_option maxHeartbeats 4000000 in
theorem k_X2_take (l : Launch) (D : va_G) (ty : Nat → ClassId) (h0 : Nat) (h1 : Nat) (S : Nat → Bool) (a : Nat) (ha : a < 256) : gM l D ty yX2_take cX2_take 2 none r_X2_take 0 0 [.ref h0, .int (nI a)] [(h0, .inr (0, [.ref h1])), (h1, .inl (ty 1, 4, .inr (.inl (zM S))))] (fun (zr : Option Value) (zW : va_W) => zr = none ∧ zW = [(h0, .inr (0, [.ref h1])), (h1, .inl (ty 1, 4, .inr (.inl (zM (zTake S a)))))]) := by
  refine gM_of RX2 rfl (by decide +kernel) (Nat.le_of_ble_eq_true rfl) ?_
  intro pg en s0 mi ag bl mth cd AA HH QQ C E hnm
  show gW pg l en r_X2_take s0 mi ag bl mth cd 2 D AA HH QQ 0 [(0, .ref h0), (1, .int (nI a))] [] [(h0, .inr (0, [.ref h1])), (h1, .inl (ty 1, 4, .inr (.inl (zM S))))] 0 0
  refine g_aload_n C 0 rfl dX2_take_0 ?_
  refine g_getf C wu_X2 0 rfl rfl 0 (by decide) wf_X2_9 rfl rfl dX2_take_1 ?_
  refine g_iload_n C 1 rfl dX2_take_4 ?_
  refine g_callS0 C (nA := 1) (k_X1_predicate l D ty a (by omega)) wm_X2_15 ws_X1_predicate wi_X1 wc_X1_predicate rfl (by decide +kernel) ⟨(Nat.le_of_ble_eq_true rfl), (Nat.le_of_ble_eq_true rfl)⟩ ⟨rfl, rfl⟩ dX2_take_5 (fun _ _ h => h.2) (Nat.le_of_ble_eq_true rfl) rfl ⟨Nat.zero_le _, Nat.zero_le _⟩ (fun r hp => ?_)
  obtain ⟨rfl, -⟩ := hp
  refine g_st [.int (nI (a / 64)), .ref h1] rfl ?_
  refine g_dup2 C rfl rfl dX2_take_8 ?_
  refine g_lald C 1 rfl (a / 64) rfl (by omega) (by decide) ((zM S) (a / 64)) rfl dX2_take_9 ?_
  refine g_lconst C (lN 1) lc_1 dX2_take_10 ?_
  refine g_iload_n C 1 rfl dX2_take_11 ?_
  refine g_callS0 C (nA := 1) (k_X1_pair l D ty a (by omega)) wm_X2_21 ws_X1_pair wi_X1 wc_X1_pair rfl (by decide +kernel) ⟨(Nat.le_of_ble_eq_true rfl), (Nat.le_of_ble_eq_true rfl)⟩ ⟨rfl, rfl⟩ dX2_take_12 (fun _ _ h => h.2) (Nat.le_of_ble_eq_true rfl) rfl ⟨Nat.zero_le _, Nat.zero_le _⟩ (fun r hp => ?_)
  obtain ⟨rfl, -⟩ := hp
  refine g_st [.int (nI (a % 64)), .long (lN 1), .long ((zM S) (a / 64)), .int (nI (a / 64)), .ref h1] rfl ?_
  refine g_lshl C ((lN 1) <<< ((nI (a % 64)).toInt64 &&& 63)) rfl dX2_take_15 ?_
  refine g_ldc2 C wd_X2_24 dX2_take_16 ?_
  refine g_lxor C (((lN 1) <<< ((nI (a % 64)).toInt64 &&& 63)) ^^^ (-1)) dX2_take_19 rfl ?_
  refine g_land C (((zM S) (a / 64)) &&& (((lN 1) <<< ((nI (a % 64)).toInt64 &&& 63)) ^^^ (-1))) dX2_take_20 rfl ?_
  refine g_last C 1 rfl (a / 64) rfl (by omega) (by decide) dX2_take_21 (zM (zTake S a)) (zM_take S a rfl rfl) [(h0, .inr (0, [.ref h1])), (h1, .inl (ty 1, 4, .inr (.inl (zM (zTake S a)))))] rfl ?_
  exact g_vret E dX2_take_22 (by decide) (by decide) ⟨rfl, rfl⟩
def r_X2_empty : Room := { frames := 0, cells := 0, slots := 0, locals := 0 }
set_option maxRecDepth 100000 in
set_option maxHeartbeats 4000000 in
theorem k_X2_empty (l : Launch) (D : va_G) (ty : Nat → ClassId) (h0 : Nat) (h1 : Nat) (S : Nat → Bool)  : gM l D ty yX2_empty cX2_empty 2 none r_X2_empty 0 0 [.ref h0] [(h0, .inr (0, [.ref h1])), (h1, .inl (ty 1, 4, .inr (.inl (zM S))))] (fun (zr : Option Value) (zW : va_W) => zr = none ∧ zW = [(h0, .inr (0, [.ref h1])), (h1, .inl (ty 1, 4, .inr (.inl (zM zNo))))]) := by
  refine gM_of RX2 rfl (by decide +kernel) (Nat.le_of_ble_eq_true rfl) ?_
  intro pg en s0 mi ag bl mth cd AA HH QQ C E hnm
  show gW pg l en r_X2_empty s0 mi ag bl mth cd 2 D AA HH QQ 0 [(0, .ref h0)] [] [(h0, .inr (0, [.ref h1])), (h1, .inl (ty 1, 4, .inr (.inl (zM S))))] 0 0
  refine g_iconst C (nI 0) ic_0 dX2_empty_0 ?_
  refine g_istore_n C [(1, .int (nI 0)), (0, .ref h0)] dX2_empty_1 rfl (by decide) rfl ?_
  refine g_lo [1, 0] [(0, .ref h0), (1, .int (nI 0))] rfl ?_
  refine g_ws [(h0, .inr (0, [.ref h1])), (h1, .inl (ty 1, 4, .inr (.inl (zfl (fun _ => lN 0) (zM S) 0))))] (by rw [zfl_0]) ?_
  have L2 : ∀ (fu2 : Nat) (i : Nat) (hi : i ≤ 4), (4 - i) < fu2 → gW pg l en r_X2_empty s0 mi ag bl mth cd 2 D AA HH QQ 2 [(0, .ref h0), (1, .int (nI i))] [] [(h0, .inr (0, [.ref h1])), (h1, .inl (ty 1, 4, .inr (.inl (zfl (fun _ => lN 0) (zM S) i))))] 0 0 := by
    intro fu2
    induction fu2 with
    | zero => intro i hi hfu; exact absurd hfu (Nat.not_lt_zero _)
    | succ fu2 ih2 =>
      intro i hi hfu2
      refine g_iload_n C 1 rfl dX2_empty_2 ?_
      refine g_aload_n C 0 rfl dX2_empty_3 ?_
      refine g_getf C wu_X2 0 rfl rfl 0 (by decide) wf_X2_9 rfl rfl dX2_empty_4 ?_
      refine g_alen C 1 1 rfl rfl (nI 4) rfl dX2_empty_7 ?_
      refine g_icmp_geN C i 4 24 rfl rfl (by omega) (by omega) dX2_empty_8 rfl (fun c8 => ?_) (fun c8 => ?_)
      · skip
        refine g_extJ 1 rfl (zM zNo) (fun j hj => by rw [zfl_in _ _ (show j < i by omega)]; exact (zM_no j).symm) [(h0, .inr (0, [.ref h1])), (h1, .inl (ty 1, 4, .inr (.inl (zM zNo))))] rfl ?_
        exact g_vret E dX2_empty_24 (by decide) (by decide) ⟨rfl, rfl⟩
      · skip
        refine g_aload_n C 0 rfl dX2_empty_11 ?_
        refine g_getf C wu_X2 0 rfl rfl 0 (by decide) wf_X2_9 rfl rfl dX2_empty_12 ?_
        refine g_iload_n C 1 rfl dX2_empty_15 ?_
        refine g_lconst C (lN 0) lc_0 dX2_empty_16 ?_
        refine g_last C 1 rfl i rfl (by omega) (by decide) dX2_empty_17 (zfl (fun _ => lN 0) (zM S) (i + 1)) (zfl_L _ _ _ rfl) [(h0, .inr (0, [.ref h1])), (h1, .inl (ty 1, 4, .inr (.inl (zfl (fun _ => lN 0) (zM S) (i + 1)))))] rfl ?_
        refine g_iinc C (nI (i + 1)) [(1, .int (nI (i + 1))), (0, .ref h0)] 1 dX2_empty_18 rfl (ii_1 _) (by decide) rfl ?_
        refine g_goto C 2 dX2_empty_21 rfl ?_
        refine g_lo [1, 0] [(0, .ref h0), (1, .int (nI (i + 1)))] rfl ?_
        exact ih2 (i + 1) (by omega) (by omega)
  exact L2 (4 - 0 + 1) 0 (by omega) (Nat.lt_succ_self _)
def r_X2_copyOf : Room := { frames := 0, cells := 0, slots := 0, locals := 0 }
set_option maxRecDepth 100000 in
set_option maxHeartbeats 4000000 in
theorem k_X2_copyOf (l : Launch) (D : va_G) (ty : Nat → ClassId) (h0 : Nat) (h1 : Nat) (S : Nat → Bool) (k0 : Nat) (k1 : Nat) (T : Nat → Bool)  : gM l D ty yX2_copyOf cX2_copyOf 3 none r_X2_copyOf 0 0 [.ref h0, .ref k0] [(h0, .inr (0, [.ref h1])), (h1, .inl (ty 1, 4, .inr (.inl (zM S)))), (k0, .inr (0, [.ref k1])), (k1, .inl (ty 1, 4, .inr (.inl (zM T))))] (fun (zr : Option Value) (zW : va_W) => zr = none ∧ zW = [(h0, .inr (0, [.ref h1])), (h1, .inl (ty 1, 4, .inr (.inl (zM T)))), (k0, .inr (0, [.ref k1])), (k1, .inl (ty 1, 4, .inr (.inl (zM T))))]) := by
  refine gM_of RX2 rfl (by decide +kernel) (Nat.le_of_ble_eq_true rfl) ?_
  intro pg en s0 mi ag bl mth cd AA HH QQ C E hnm
  show gW pg l en r_X2_copyOf s0 mi ag bl mth cd 3 D AA HH QQ 0 [(0, .ref h0), (1, .ref k0)] [] [(h0, .inr (0, [.ref h1])), (h1, .inl (ty 1, 4, .inr (.inl (zM S)))), (k0, .inr (0, [.ref k1])), (k1, .inl (ty 1, 4, .inr (.inl (zM T))))] 0 0
  refine g_iconst C (nI 0) ic_0 dX2_copyOf_0 ?_
  refine g_istore_n C [(2, .int (nI 0)), (0, .ref h0), (1, .ref k0)] dX2_copyOf_1 rfl (by decide) rfl ?_
  refine g_lo [1, 2, 0] [(0, .ref h0), (1, .ref k0), (2, .int (nI 0))] rfl ?_
  refine g_ws [(h0, .inr (0, [.ref h1])), (h1, .inl (ty 1, 4, .inr (.inl (zfl (zM T) (zM S) 0)))), (k0, .inr (0, [.ref k1])), (k1, .inl (ty 1, 4, .inr (.inl (zM T))))] (by rw [zfl_0]) ?_
  have L2 : ∀ (fu2 : Nat) (i : Nat) (hi : i ≤ 4), (4 - i) < fu2 → gW pg l en r_X2_copyOf s0 mi ag bl mth cd 3 D AA HH QQ 2 [(0, .ref h0), (1, .ref k0), (2, .int (nI i))] [] [(h0, .inr (0, [.ref h1])), (h1, .inl (ty 1, 4, .inr (.inl (zfl (zM T) (zM S) i)))), (k0, .inr (0, [.ref k1])), (k1, .inl (ty 1, 4, .inr (.inl (zM T))))] 0 0 := by
    intro fu2
    induction fu2 with
    | zero => intro i hi hfu; exact absurd hfu (Nat.not_lt_zero _)
    | succ fu2 ih2 =>
      intro i hi hfu2
      refine g_iload_n C 2 rfl dX2_copyOf_2 ?_
      refine g_aload_n C 0 rfl dX2_copyOf_3 ?_
      refine g_getf C wu_X2 0 rfl rfl 0 (by decide) wf_X2_9 rfl rfl dX2_copyOf_4 ?_
      refine g_alen C 1 1 rfl rfl (nI 4) rfl dX2_copyOf_7 ?_
      refine g_icmp_geN C i 4 29 rfl rfl (by omega) (by omega) dX2_copyOf_8 rfl (fun c8 => ?_) (fun c8 => ?_)
      · skip
        refine g_extJ 1 rfl (zM T) (fun j hj => by rw [zfl_in _ _ (show j < i by omega)]) [(h0, .inr (0, [.ref h1])), (h1, .inl (ty 1, 4, .inr (.inl (zM T)))), (k0, .inr (0, [.ref k1])), (k1, .inl (ty 1, 4, .inr (.inl (zM T))))] rfl ?_
        exact g_vret E dX2_copyOf_29 (by decide) (by decide) ⟨rfl, rfl⟩
      · skip
        refine g_aload_n C 0 rfl dX2_copyOf_11 ?_
        refine g_getf C wu_X2 0 rfl rfl 0 (by decide) wf_X2_9 rfl rfl dX2_copyOf_12 ?_
        refine g_iload_n C 2 rfl dX2_copyOf_15 ?_
        refine g_aload_n C 1 rfl dX2_copyOf_16 ?_
        refine g_getf C wu_X2 2 rfl rfl 0 (by decide) wf_X2_9 rfl rfl dX2_copyOf_17 ?_
        refine g_iload_n C 2 rfl dX2_copyOf_20 ?_
        refine g_lald C 3 rfl i rfl (by omega) (by decide) ((zM T) i) rfl dX2_copyOf_21 ?_
        refine g_last C 1 rfl i rfl (by omega) (by decide) dX2_copyOf_22 (zfl (zM T) (zM S) (i + 1)) (zfl_L _ _ _ rfl) [(h0, .inr (0, [.ref h1])), (h1, .inl (ty 1, 4, .inr (.inl (zfl (zM T) (zM S) (i + 1))))), (k0, .inr (0, [.ref k1])), (k1, .inl (ty 1, 4, .inr (.inl (zM T))))] rfl ?_
        refine g_iinc C (nI (i + 1)) [(2, .int (nI (i + 1))), (0, .ref h0), (1, .ref k0)] 2 dX2_copyOf_23 rfl (ii_1 _) (by decide) rfl ?_
        refine g_goto C 2 dX2_copyOf_26 rfl ?_
        refine g_lo [1, 2, 0] [(0, .ref h0), (1, .ref k0), (2, .int (nI (i + 1)))] rfl ?_
        exact ih2 (i + 1) (by omega) (by omega)
  exact L2 (4 - 0 + 1) 0 (by omega) (Nat.lt_succ_self _)
def r_X2_putAll : Room := { frames := 0, cells := 0, slots := 0, locals := 0 }
set_option maxRecDepth 100000 in
set_option maxHeartbeats 4000000 in
theorem k_X2_putAll (l : Launch) (D : va_G) (ty : Nat → ClassId) (h0 : Nat) (h1 : Nat) (S : Nat → Bool) (k0 : Nat) (k1 : Nat) (T : Nat → Bool)  : gM l D ty yX2_putAll cX2_putAll 3 none r_X2_putAll 0 0 [.ref h0, .ref k0] [(h0, .inr (0, [.ref h1])), (h1, .inl (ty 1, 4, .inr (.inl (zM S)))), (k0, .inr (0, [.ref k1])), (k1, .inl (ty 1, 4, .inr (.inl (zM T))))] (fun (zr : Option Value) (zW : va_W) => zr = none ∧ zW = [(h0, .inr (0, [.ref h1])), (h1, .inl (ty 1, 4, .inr (.inl (zM (zOr S T))))), (k0, .inr (0, [.ref k1])), (k1, .inl (ty 1, 4, .inr (.inl (zM T))))]) := by
  refine gM_of RX2 rfl (by decide +kernel) (Nat.le_of_ble_eq_true rfl) ?_
  intro pg en s0 mi ag bl mth cd AA HH QQ C E hnm
  show gW pg l en r_X2_putAll s0 mi ag bl mth cd 3 D AA HH QQ 0 [(0, .ref h0), (1, .ref k0)] [] [(h0, .inr (0, [.ref h1])), (h1, .inl (ty 1, 4, .inr (.inl (zM S)))), (k0, .inr (0, [.ref k1])), (k1, .inl (ty 1, 4, .inr (.inl (zM T))))] 0 0
  refine g_iconst C (nI 0) ic_0 dX2_putAll_0 ?_
  refine g_istore_n C [(2, .int (nI 0)), (0, .ref h0), (1, .ref k0)] dX2_putAll_1 rfl (by decide) rfl ?_
  refine g_lo [1, 2, 0] [(0, .ref h0), (1, .ref k0), (2, .int (nI 0))] rfl ?_
  refine g_ws [(h0, .inr (0, [.ref h1])), (h1, .inl (ty 1, 4, .inr (.inl (zfl (zM (zOr S T)) (zM S) 0)))), (k0, .inr (0, [.ref k1])), (k1, .inl (ty 1, 4, .inr (.inl (zM T))))] (by rw [zfl_0]) ?_
  have L2 : ∀ (fu2 : Nat) (i : Nat) (hi : i ≤ 4), (4 - i) < fu2 → gW pg l en r_X2_putAll s0 mi ag bl mth cd 3 D AA HH QQ 2 [(0, .ref h0), (1, .ref k0), (2, .int (nI i))] [] [(h0, .inr (0, [.ref h1])), (h1, .inl (ty 1, 4, .inr (.inl (zfl (zM (zOr S T)) (zM S) i)))), (k0, .inr (0, [.ref k1])), (k1, .inl (ty 1, 4, .inr (.inl (zM T))))] 0 0 := by
    intro fu2
    induction fu2 with
    | zero => intro i hi hfu; exact absurd hfu (Nat.not_lt_zero _)
    | succ fu2 ih2 =>
      intro i hi hfu2
      refine g_iload_n C 2 rfl dX2_putAll_2 ?_
      refine g_aload_n C 0 rfl dX2_putAll_3 ?_
      refine g_getf C wu_X2 0 rfl rfl 0 (by decide) wf_X2_9 rfl rfl dX2_putAll_4 ?_
      refine g_alen C 1 1 rfl rfl (nI 4) rfl dX2_putAll_7 ?_
      refine g_icmp_geN C i 4 32 rfl rfl (by omega) (by omega) dX2_putAll_8 rfl (fun c8 => ?_) (fun c8 => ?_)
      · skip
        refine g_extJ 1 rfl (zM (zOr S T)) (fun j hj => by rw [zfl_in _ _ (show j < i by omega)]) [(h0, .inr (0, [.ref h1])), (h1, .inl (ty 1, 4, .inr (.inl (zM (zOr S T))))), (k0, .inr (0, [.ref k1])), (k1, .inl (ty 1, 4, .inr (.inl (zM T))))] rfl ?_
        exact g_vret E dX2_putAll_32 (by decide) (by decide) ⟨rfl, rfl⟩
      · skip
        refine g_aload_n C 0 rfl dX2_putAll_11 ?_
        refine g_getf C wu_X2 0 rfl rfl 0 (by decide) wf_X2_9 rfl rfl dX2_putAll_12 ?_
        refine g_iload_n C 2 rfl dX2_putAll_15 ?_
        refine g_dup2 C rfl rfl dX2_putAll_16 ?_
        refine g_lald C 1 rfl i rfl (by omega) (by decide) (zM S i) (zfl_out _ _ (Nat.le_refl _)) dX2_putAll_17 ?_
        refine g_aload_n C 1 rfl dX2_putAll_18 ?_
        refine g_getf C wu_X2 2 rfl rfl 0 (by decide) wf_X2_9 rfl rfl dX2_putAll_19 ?_
        refine g_iload_n C 2 rfl dX2_putAll_22 ?_
        refine g_lald C 3 rfl i rfl (by omega) (by decide) ((zM T) i) rfl dX2_putAll_23 ?_
        refine g_lor C ((zM S i) ||| ((zM T) i)) dX2_putAll_24 rfl ?_
        refine g_last C 1 rfl i rfl (by omega) (by decide) dX2_putAll_25 (zfl (zM (zOr S T)) (zM S) (i + 1)) (zfl_L _ _ _ (zM_or S T i)) [(h0, .inr (0, [.ref h1])), (h1, .inl (ty 1, 4, .inr (.inl (zfl (zM (zOr S T)) (zM S) (i + 1))))), (k0, .inr (0, [.ref k1])), (k1, .inl (ty 1, 4, .inr (.inl (zM T))))] rfl ?_
        refine g_iinc C (nI (i + 1)) [(2, .int (nI (i + 1))), (0, .ref h0), (1, .ref k0)] 2 dX2_putAll_26 rfl (ii_1 _) (by decide) rfl ?_
        refine g_goto C 2 dX2_putAll_29 rfl ?_
        refine g_lo [1, 2, 0] [(0, .ref h0), (1, .ref k0), (2, .int (nI (i + 1)))] rfl ?_
        exact ih2 (i + 1) (by omega) (by omega)
  exact L2 (4 - 0 + 1) 0 (by omega) (Nat.lt_succ_self _)
