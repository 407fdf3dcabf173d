theorem zM_pop (S : Nat → Bool) (i : Nat) : zcnt S (64 * i) + zcnt (fun k => S (64 * i + k)) 64 = zcnt S (64 * (i + 1)) := by
  rw [show 64 * (i + 1) = 64 * i + 64 by omega, zcnt_split]
/-- the place-th of a set, looked for below n -/
def nth (S : Nat → Bool) (k : Nat) : Nat → Option Nat
  | 0 => none
  | n + 1 => match nth S k n with
    | some a => some a
    | none => if S n && zcnt S n == k then some n else none
def eO (x : Option Nat) : Int32 := match x with
  | none => -1
  | some a => nI a
theorem nth_s {S : Nat → Bool} {k n : Nat} (h : nth S k n = none) : nth S k (n + 1) = if S n && zcnt S n == k then some n else none := by rw [nth, h]
theorem nth_le {S : Nat → Bool} {k n a : Nat} (h : nth S k n = some a) (m : Nat) : nth S k (n + m) = some a := by
  induction m with
  | zero => exact h
  | succ m ih => rw [← Nat.add_assoc, nth, ih]
theorem nth_sp {S : Nat → Bool} {k n a : Nat} (h : nth S k n = some a) : a < n ∧ S a = true ∧ zcnt S a = k := by
  induction n with
  | zero => cases h
  | succ n ih =>
    rw [nth] at h
    split at h
    · cases h; have := ih (by assumption); exact ⟨by omega, this.2⟩
    · split at h
      · cases h
        rename_i h2
        simp at h2
        exact ⟨by omega, h2⟩
      · cases h
theorem zM_dw (S : Nat → Bool) (p : Nat) : zM S p &&& (zM (wk S) p ^^^ (-1)) = zM (drp S) p := zM_andn S (wk S) p
theorem zM_fo (S : Nat → Bool) (p : Nat) : zM S p ||| zM (wk S) p = zM (foll S) p := zM_or S (wk S) p
/-- the instances of the facts of a predicate, as a mask -/
def imp (S : Nat → Bool) (p : Nat) : Nat → Nat
  | 0 => 0
  | n + 1 => if S (64 * p + n) then imp S p n ||| iM n else imp S p n
theorem iM_lt : ∀ a, a < 64 → iM a < 2 ^ 16 := by decide +kernel
theorem imp_lt (S : Nat → Bool) (p n : Nat) (hn : n ≤ 64) : imp S p n < 2 ^ 16 := by
  induction n with
  | zero => show 0 < 2 ^ 16; decide
  | succ n ih =>
    rw [imp]
    split
    · exact Nat.or_lt_two_pow (ih (by omega)) (iM_lt n (by omega))
    · exact ih (by omega)
theorem zmsk_of {x n : Nat} (h : x < 2 ^ n) : zmsk (fun i => x.testBit i) n = x := by
  apply znat_ext
  intro i
  rw [zmsk_tb]
  by_cases hi : i < n
  · simp [hi]
  · rw [Nat.testBit_lt_two_pow (Nat.lt_of_lt_of_le h (Nat.pow_le_pow_right (by decide) (by omega)))]; simp
/-- how many bits the masks of instances have, of the predicates below n -/
def insU (S : Nat → Bool) : Nat → Nat
  | 0 => 0
  | n + 1 => insU S n + zcnt (fun i => (imp S n 38).testBit i) 32
theorem insU_le (S : Nat → Bool) (n : Nat) : insU S n ≤ 32 * n := by
  induction n with
  | zero => exact Nat.le_refl _
  | succ n ih => rw [insU]; have := zcnt_le (fun i => (imp S n 38).testBit i) 32; omega

def r_X2_hasPair : Room := { frames := 1, cells := 0, slots := 0, locals := 20 }
set_option maxRecDepth 100000 in
set_option maxHeartbeats 4000000 in
theorem k_X2_hasPair (l : Launch) (D : va_G) (ty : Nat → ClassId) (h0 : Nat) (h1 : Nat) (S : Nat → Bool) (a : Nat) (w : Nat) (ha : a < 256) (hw : w < 64) : gM l D ty yX2_hasPair cX2_hasPair 3 (some (FieldType.boolean : FieldType)) r_X2_hasPair 0 0 [.ref h0, .int (nI a), .int (nI w)] [(h0, .inr (0, [.ref h1])), (h1, .inl (ty 1, 4, .inr (.inl (zM S))))] (fun (zr : Option Value) (zW : va_W) => zr = some (.int (bI (S (64 * (a / 64) + w)))) ∧ zW = [(h0, .inr (0, [.ref h1])), (h1, .inl (ty 1, 4, .inr (.inl (zM S))))]) := by
  refine gM_of RX2 rfl (by decide +kernel) (Nat.le_of_ble_eq_true rfl) ?_
  intro pg en s0 mi ag bl mth cd AA HH QQ C E hnm
  show gW pg l en r_X2_hasPair s0 mi ag bl mth cd 3 D AA HH QQ 0 [(0, .ref h0), (1, .int (nI a)), (2, .int (nI w))] [] [(h0, .inr (0, [.ref h1])), (h1, .inl (ty 1, 4, .inr (.inl (zM S))))] 0 0
  refine g_aload_n C 0 rfl dX2_hasPair_0 ?_
  refine g_getf C wu_X2 0 rfl rfl 0 (by decide) wf_X2_9 rfl rfl dX2_hasPair_1 ?_
  refine g_iload_n C 1 rfl dX2_hasPair_4 ?_
  refine g_callS0 C (nA := 1) (k_X1_predicate l D ty a (by omega)) wm_X2_15 ws_X1_predicate wi_X1 wc_X1_predicate rfl (by decide +kernel) ⟨(Nat.le_of_ble_eq_true rfl), (Nat.le_of_ble_eq_true rfl)⟩ ⟨rfl, rfl⟩ dX2_hasPair_5 (fun _ _ h => h.2) (Nat.le_of_ble_eq_true rfl) rfl ⟨Nat.zero_le _, Nat.zero_le _⟩ (fun r hp => ?_)
  obtain ⟨rfl, -⟩ := hp
  refine g_st [.int (nI (a / 64)), .ref h1] rfl ?_
  refine g_lald C 1 rfl (a / 64) rfl (by omega) (by decide) ((zM S) (a / 64)) rfl dX2_hasPair_8 ?_
  refine g_iload_n C 2 rfl dX2_hasPair_9 ?_
  refine g_lushr C ((((zM S) (a / 64)).toUInt64 >>> ((nI w).toInt64.toUInt64 &&& Int64.toUInt64 63)).toInt64) rfl dX2_hasPair_10 ?_
  refine g_lconst C (lN 1) lc_1 dX2_hasPair_11 ?_
  refine g_land C (((((zM S) (a / 64)).toUInt64 >>> ((nI w).toInt64.toUInt64 &&& Int64.toUInt64 63)).toInt64) &&& (lN 1)) dX2_hasPair_12 rfl ?_
  refine g_lconst C (lN 0) lc_0 dX2_hasPair_13 ?_
  refine g_lcmp C (bI (S (64 * (a / 64) + w))) (zM_has S (64 * (a / 64) + w) (by omega) (by omega)) dX2_hasPair_14 ?_
  refine g_if_eqB C (S (64 * (a / 64) + w)) 22 rfl dX2_hasPair_15 rfl (fun c15 => ?_) (fun c15 => ?_)
  · skip
    refine g_iconst C (nI 0) ic_0 dX2_hasPair_22 ?_
    exact g_zret E false rfl dX2_hasPair_23 (by decide) (by decide) ⟨(congrArg (fun z => some (Value.int (bI z))) (by simp only [c15])), rfl⟩
  · skip
    refine g_iconst C (nI 1) ic_1 dX2_hasPair_18 ?_
    refine g_goto C 23 dX2_hasPair_19 rfl ?_
    exact g_zret E true rfl dX2_hasPair_23 (by decide) (by decide) ⟨(congrArg (fun z => some (Value.int (bI z))) (by simp only [c15])), rfl⟩
def r_X2_size : Room := { frames := 1, cells := 0, slots := 0, locals := 21 }
set_option maxRecDepth 100000 in
set_option maxHeartbeats 4000000 in
theorem k_X2_size (l : Launch) (D : va_G) (ty : Nat → ClassId) (h0 : Nat) (h1 : Nat) (S : Nat → Bool)  : gM l D ty yX2_size cX2_size 3 (some (FieldType.int : FieldType)) r_X2_size 0 0 [.ref h0] [(h0, .inr (0, [.ref h1])), (h1, .inl (ty 1, 4, .inr (.inl (zM S))))] (fun (zr : Option Value) (zW : va_W) => zr = some (.int (nI (zcnt S 256))) ∧ zW = [(h0, .inr (0, [.ref h1])), (h1, .inl (ty 1, 4, .inr (.inl (zM S))))]) := by
  refine gM_of RX2 rfl (by decide +kernel) (Nat.le_of_ble_eq_true rfl) ?_
  intro pg en s0 mi ag bl mth cd AA HH QQ C E hnm
  show gW pg l en r_X2_size s0 mi ag bl mth cd 3 D AA HH QQ 0 [(0, .ref h0)] [] [(h0, .inr (0, [.ref h1])), (h1, .inl (ty 1, 4, .inr (.inl (zM S))))] 0 0
  refine g_iconst C (nI 0) ic_0 dX2_size_0 ?_
  refine g_istore_n C [(1, .int (nI 0)), (0, .ref h0)] dX2_size_1 rfl (by decide) rfl ?_
  refine g_iconst C (nI 0) ic_0 dX2_size_2 ?_
  refine g_istore_n C [(2, .int (nI 0)), (1, .int (nI 0)), (0, .ref h0)] dX2_size_3 rfl (by decide) rfl ?_
  refine g_lo [2, 1, 0] [(0, .ref h0), (1, .int (nI 0)), (2, .int (nI 0))] rfl ?_
  have L4 : ∀ (fu4 : Nat) (i : Nat) (hi : i ≤ 4), (4 - i) < fu4 → gW pg l en r_X2_size s0 mi ag bl mth cd 3 D AA HH QQ 4 [(0, .ref h0), (1, .int (nI (zcnt S (64 * i)))), (2, .int (nI i))] [] [(h0, .inr (0, [.ref h1])), (h1, .inl (ty 1, 4, .inr (.inl (zM S))))] 0 0 := by
    intro fu4
    induction fu4 with
    | zero => intro i hi hfu; exact absurd hfu (Nat.not_lt_zero _)
    | succ fu4 ih4 =>
      intro i hi hfu4
      refine g_iload_n C 2 rfl dX2_size_4 ?_
      refine g_aload_n C 0 rfl dX2_size_5 ?_
      refine g_getf C wu_X2 0 rfl rfl 0 (by decide) wf_X2_9 rfl rfl dX2_size_6 ?_
      refine g_alen C 1 1 rfl rfl (nI 4) rfl dX2_size_9 ?_
      refine g_icmp_geN C i 4 31 rfl rfl (by omega) (by omega) dX2_size_10 rfl (fun c10 => ?_) (fun c10 => ?_)
      · skip
        refine g_iload_n C 1 rfl dX2_size_31 ?_
        exact g_iret E dX2_size_32 (by decide) (by decide) ⟨(by rw [show i = 4 by omega]), rfl⟩
      · skip
        refine g_iload_n C 1 rfl dX2_size_13 ?_
        refine g_aload_n C 0 rfl dX2_size_14 ?_
        refine g_getf C wu_X2 0 rfl rfl 0 (by decide) wf_X2_9 rfl rfl dX2_size_15 ?_
        refine g_iload_n C 2 rfl dX2_size_18 ?_
        refine g_lald C 1 rfl i rfl (by omega) (by decide) ((zM S) i) rfl dX2_size_19 ?_
        refine g_callS0 C (nA := 1) (k_J13_bitCount_95d88 l D ty ((zM S) i) (fun k => S (64 * i + k)) rfl) wm_X2_26 ws_J13_bitCount_95d88 wi_J13 wc_J13_bitCount_95d88 rfl (by decide +kernel) ⟨(Nat.le_of_ble_eq_true rfl), (Nat.le_of_ble_eq_true rfl)⟩ ⟨rfl, rfl⟩ dX2_size_20 (fun _ _ h => h.2) (Nat.le_of_ble_eq_true rfl) rfl ⟨Nat.zero_le _, Nat.zero_le _⟩ (fun r hp => ?_)
        obtain ⟨rfl, -⟩ := hp
        refine g_st [.int (nI (zcnt (fun k => S (64 * i + k)) 64)), .int (nI (zcnt S (64 * i)))] rfl ?_
        refine g_iadd C (nI (zcnt S (64 * (i + 1)))) dX2_size_23 ((nI_add _ _).trans (congrArg nI (zM_pop S i))) ?_
        refine g_istore_n C [(1, .int (nI (zcnt S (64 * (i + 1))))), (0, .ref h0), (2, .int (nI i))] dX2_size_24 rfl (by decide) rfl ?_
        refine g_iinc C (nI (i + 1)) [(2, .int (nI (i + 1))), (1, .int (nI (zcnt S (64 * (i + 1))))), (0, .ref h0)] 2 dX2_size_25 rfl (ii_1 _) (by decide) rfl ?_
        refine g_goto C 4 dX2_size_28 rfl ?_
        refine g_lo [2, 1, 0] [(0, .ref h0), (1, .int (nI (zcnt S (64 * (i + 1))))), (2, .int (nI (i + 1)))] rfl ?_
        exact ih4 (i + 1) (by omega) (by omega)
  exact L4 (4 - 0 + 1) 0 (by omega) (Nat.lt_succ_self _)
def r_X2_at : Room := { frames := 2, cells := 0, slots := 0, locals := 41 }
set_option maxRecDepth 100000 in
set_option maxHeartbeats 4000000 in
theorem k_X2_at (l : Launch) (D : va_G) (ty : Nat → ClassId) (h0 : Nat) (h1 : Nat) (S : Nat → Bool) (k : Nat) (hk : k < 2 ^ 31) : gM l D ty yX2_at cX2_at 4 (some (FieldType.int : FieldType)) r_X2_at 0 0 [.ref h0, .int (nI k)] [(h0, .inr (0, [.ref h1])), (h1, .inl (ty 1, 4, .inr (.inl (zM S))))] (fun (zr : Option Value) (zW : va_W) => zr = some (.int (eO (nth S k 256))) ∧ zW = [(h0, .inr (0, [.ref h1])), (h1, .inl (ty 1, 4, .inr (.inl (zM S))))]) := by
  refine gM_of RX2 rfl (by decide +kernel) (Nat.le_of_ble_eq_true rfl) ?_
  intro pg en s0 mi ag bl mth cd AA HH QQ C E hnm
  show gW pg l en r_X2_at s0 mi ag bl mth cd 4 D AA HH QQ 0 [(0, .ref h0), (1, .int (nI k))] [] [(h0, .inr (0, [.ref h1])), (h1, .inl (ty 1, 4, .inr (.inl (zM S))))] 0 0
  refine g_iload_n C 1 rfl dX2_at_0 ?_
  refine g_istore_n C [(2, .int (nI k)), (0, .ref h0), (1, .int (nI k))] dX2_at_1 rfl (by decide) rfl ?_
  refine g_iconst C (nI 0) ic_0 dX2_at_2 ?_
  refine g_istore_n C [(3, .int (nI 0)), (2, .int (nI k)), (0, .ref h0), (1, .int (nI k))] dX2_at_3 rfl (by decide) rfl ?_
  refine g_lo [2, 3, 1, 0] [(0, .ref h0), (1, .int (nI k)), (2, .int (nI k)), (3, .int (nI 0))] rfl ?_
  have L4 : ∀ (fu4 : Nat) (i : Nat) (hi : i ≤ 256) (hn : nth S k i = none) (hz : zcnt S i ≤ k), (256 - i) < fu4 → gW pg l en r_X2_at s0 mi ag bl mth cd 4 D AA HH QQ 4 [(0, .ref h0), (1, .int (nI k)), (2, .int (nI (k - zcnt S i))), (3, .int (nI i))] [] [(h0, .inr (0, [.ref h1])), (h1, .inl (ty 1, 4, .inr (.inl (zM S))))] 0 0 := by
    intro fu4
    induction fu4 with
    | zero => intro i hi hn hz hfu; exact absurd hfu (Nat.not_lt_zero _)
    | succ fu4 ih4 =>
      intro i hi hn hz hfu4
      refine g_iload_n C 3 rfl dX2_at_4 ?_
      refine g_sipush C (nI 256) sp_256 dX2_at_5 ?_
      refine g_icmp_geN C i 256 34 rfl rfl (by omega) (by omega) dX2_at_8 rfl (fun c8 => ?_) (fun c8 => ?_)
      · skip
        refine g_iconst C (-1) ic_m1 dX2_at_34 ?_
        exact g_iret E dX2_at_35 (by decide) (by decide) ⟨(congrArg (fun z => some (Value.int z)) (by rw [show (256 : Nat) = i by omega, hn]; rfl)), rfl⟩
      · skip
        refine g_aload_n C 0 rfl dX2_at_11 ?_
        refine g_iload_n C 3 rfl dX2_at_12 ?_
        refine g_callV C (nA := 1) (ci := 0) (q0 := 0) (As := [.int (nI i)]) (wr := []) (k_X2_has l D ty h0 h1 S i (by omega)) wm_X2_32 wn_X2_has wv_X2_has wi_X2 wc_X2_has rfl (by decide +kernel) ⟨(Nat.le_of_ble_eq_true rfl), (Nat.le_of_ble_eq_true rfl)⟩ ⟨rfl, rfl⟩ dX2_at_13 ⟨Nat.zero_le _, Nat.zero_le _⟩ rfl rfl rfl [0, 1] [] rfl rfl rfl rfl (by decide) (Nat.le_of_ble_eq_true rfl) rfl (fun r W1 hp => ?_)
        obtain ⟨rfl, rfl⟩ := hp
        refine g_fix [.int (bI (S i))] [(h0, .inr (0, [.ref h1])), (h1, .inl (ty 1, 4, .inr (.inl (zM S))))] [0, 1] rfl rfl rfl ?_
        refine g_if_eqB C (S i) 28 rfl dX2_at_16 rfl (fun c16 => ?_) (fun c16 => ?_)
        · skip
          refine g_lo2 [(0, .ref h0), (1, .int (nI k)), (2, .int (nI (k - zcnt S (i + 1)))), (3, .int (nI i))] (by rw [zcnt, c16]; rfl) ?_
          refine g_iinc C (nI (i + 1)) [(3, .int (nI (i + 1))), (0, .ref h0), (1, .int (nI k)), (2, .int (nI (k - zcnt S (i + 1))))] 3 dX2_at_28 rfl (ii_1 _) (by decide) rfl ?_
          refine g_goto C 4 dX2_at_31 rfl ?_
          refine g_lo [1, 2, 3, 0] [(0, .ref h0), (1, .int (nI k)), (2, .int (nI (k - zcnt S (i + 1)))), (3, .int (nI (i + 1)))] rfl ?_
          exact ih4 (i + 1) (by omega) (by rw [nth_s hn]; simp_all <;> omega) (by rw [zcnt]; simp_all <;> omega) (by omega)
        · skip
          refine g_iload_n C 2 rfl dX2_at_19 ?_
          refine g_if_neN C (k - zcnt S i) 25 rfl (by omega) dX2_at_20 rfl (fun c20 => ?_) (fun c20 => ?_)
          · skip
            refine g_iinc C (nI (k - zcnt S (i + 1))) [(2, .int (nI (k - zcnt S (i + 1)))), (0, .ref h0), (1, .int (nI k)), (3, .int (nI i))] 2 dX2_at_25 rfl ((ii_m1 _ (by omega)).trans (congrArg nI (by rw [zcnt, c16]; simp; omega))) (by decide) rfl ?_
            refine g_iinc C (nI (i + 1)) [(3, .int (nI (i + 1))), (2, .int (nI (k - zcnt S (i + 1)))), (0, .ref h0), (1, .int (nI k))] 3 dX2_at_28 rfl (ii_1 _) (by decide) rfl ?_
            refine g_goto C 4 dX2_at_31 rfl ?_
            refine g_lo [2, 3, 1, 0] [(0, .ref h0), (1, .int (nI k)), (2, .int (nI (k - zcnt S (i + 1)))), (3, .int (nI (i + 1)))] rfl ?_
            exact ih4 (i + 1) (by omega) (by rw [nth_s hn]; simp_all <;> omega) (by rw [zcnt]; simp_all <;> omega) (by omega)
          · skip
            refine g_iload_n C 3 rfl dX2_at_23 ?_
            exact g_iret E dX2_at_24 (by decide) (by decide) ⟨(congrArg (fun z => some (Value.int z)) (by rw [show (256 : Nat) = (i + 1) + (256 - (i + 1)) by omega, nth_le (a := i) (by rw [nth_s hn, c16]; simp; omega)]; rfl)), rfl⟩
  exact L4 (256 - 0 + 1) 0 (by omega) rfl (Nat.zero_le _) (Nat.lt_succ_self _)
def r_X2_weakerPairs : Room := { frames := 2, cells := 0, slots := 0, locals := 48 }
set_option maxRecDepth 100000 in
set_option maxHeartbeats 4000000 in
theorem k_X2_weakerPairs (l : Launch) (D : va_G) (ty : Nat → ClassId) (x : Int64) (S : Nat → Bool) (q : Nat) (hx : x = zM S q) : gM l D ty yX2_weakerPairs cX2_weakerPairs 5 (some (FieldType.long : FieldType)) r_X2_weakerPairs 0 0 [.long (x)] [] (fun (zr : Option Value) (zW : va_W) => zr = some (.long (zM (wk S) q)) ∧ zW = []) := by
  subst hx
  refine gM_of RX2 rfl (by decide +kernel) (Nat.le_of_ble_eq_true rfl) ?_
  intro pg en s0 mi ag bl mth cd AA HH QQ C E hnm
  show gW pg l en r_X2_weakerPairs s0 mi ag bl mth cd 5 D AA HH QQ 0 [(0, .long (zM S q))] [] [] 0 0
  refine g_lconst C (lN 0) lc_0 dX2_weakerPairs_0 ?_
  refine g_lstore_n C [(2, .long (lN 0)), (0, .long (zM S q))] dX2_weakerPairs_1 rfl (by decide) rfl ?_
  refine g_iconst C (nI 0) ic_0 dX2_weakerPairs_2 ?_
  refine g_istore C [(4, .int (nI 0)), (2, .long (lN 0)), (0, .long (zM S q))] dX2_weakerPairs_3 (by decide) rfl ?_
  refine g_lo [2, 1, 0] [(0, .long (zM S q)), (2, .long (lN 0)), (4, .int (nI 0))] rfl ?_
  have L5 : ∀ (fu5 : Nat) (i : Nat) (hi : i ≤ 38), (38 - i) < fu5 → gW pg l en r_X2_weakerPairs s0 mi ag bl mth cd 5 D AA HH QQ 5 [(0, .long (zM S q)), (2, .long (lN (zmsk (wkp S q) i))), (4, .int (nI i))] [] [] 0 0 := by
    intro fu5
    induction fu5 with
    | zero => intro i hi hfu; exact absurd hfu (Nat.not_lt_zero _)
    | succ fu5 ih5 =>
      intro i hi hfu5
      refine g_iload C 2 rfl dX2_weakerPairs_5 ?_
      refine g_bipush C (nI 38) bp_38 dX2_weakerPairs_7 ?_
      refine g_icmp_geN C i 38 37 rfl rfl (by omega) (by omega) dX2_weakerPairs_9 rfl (fun c9 => ?_) (fun c9 => ?_)
      · skip
        refine g_lload_n C 1 rfl dX2_weakerPairs_37 ?_
        exact g_lret E dX2_weakerPairs_38 (by decide) (by decide) ⟨(congrArg (fun z => some (Value.long z)) (by rw [show i = 38 by omega]; exact wkp_38 S q)), rfl⟩
      · skip
        refine g_lload_n C 0 rfl dX2_weakerPairs_12 ?_
        refine g_iload C 2 rfl dX2_weakerPairs_13 ?_
        refine g_callS0 C (nA := 1) (k_X1_strongerPairs l D ty i (by omega)) wm_X2_44 ws_X1_strongerPairs wi_X1 wc_X1_strongerPairs rfl (by decide +kernel) ⟨(Nat.le_of_ble_eq_true rfl), (Nat.le_of_ble_eq_true rfl)⟩ ⟨rfl, rfl⟩ dX2_weakerPairs_15 (fun _ _ h => h.2) (Nat.le_of_ble_eq_true rfl) rfl ⟨Nat.zero_le _, Nat.zero_le _⟩ (fun r hp => ?_)
        obtain ⟨rfl, -⟩ := hp
        refine g_st [.long (lN (spm i)), .long (zM S q)] rfl ?_
        refine g_land C ((zM S q) &&& (lN (spm i))) dX2_weakerPairs_18 rfl ?_
        refine g_lconst C (lN 0) lc_0 dX2_weakerPairs_19 ?_
        refine g_lcmp C (bI (wkp S q i)) (wkp_cmp S q i (by omega)) dX2_weakerPairs_20 ?_
        refine g_if_eqB C (wkp S q i) 31 rfl dX2_weakerPairs_21 rfl (fun c21 => ?_) (fun c21 => ?_)
        · skip
          refine g_lo2 [(0, .long (zM S q)), (2, .long (lN (zmsk (wkp S q) (i + 1)))), (4, .int (nI i))] (by rw [zmsk_f _ c21]) ?_
          refine g_iinc C (nI (i + 1)) [(4, .int (nI (i + 1))), (0, .long (zM S q)), (2, .long (lN (zmsk (wkp S q) (i + 1))))] 2 dX2_weakerPairs_31 rfl (ii_1 _) (by decide) rfl ?_
          refine g_goto C 5 dX2_weakerPairs_34 rfl ?_
          refine g_lo [1, 2, 0] [(0, .long (zM S q)), (2, .long (lN (zmsk (wkp S q) (i + 1)))), (4, .int (nI (i + 1)))] rfl ?_
          exact ih5 (i + 1) (by omega) (by omega)
        · skip
          refine g_lload_n C 1 rfl dX2_weakerPairs_24 ?_
          refine g_lconst C (lN 1) lc_1 dX2_weakerPairs_25 ?_
          refine g_iload C 2 rfl dX2_weakerPairs_26 ?_
          refine g_lshl C ((lN 1) <<< ((nI i).toInt64 &&& 63)) rfl dX2_weakerPairs_28 ?_
          refine g_lor C (lN (zmsk (wkp S q) (i + 1))) dX2_weakerPairs_29 (zmsk_t _ (by omega) c21) ?_
          refine g_lstore_n C [(2, .long (lN (zmsk (wkp S q) (i + 1)))), (0, .long (zM S q)), (4, .int (nI i))] dX2_weakerPairs_30 rfl (by decide) rfl ?_
          refine g_iinc C (nI (i + 1)) [(4, .int (nI (i + 1))), (2, .long (lN (zmsk (wkp S q) (i + 1)))), (0, .long (zM S q))] 2 dX2_weakerPairs_31 rfl (ii_1 _) (by decide) rfl ?_
          refine g_goto C 5 dX2_weakerPairs_34 rfl ?_
          refine g_lo [2, 1, 0] [(0, .long (zM S q)), (2, .long (lN (zmsk (wkp S q) (i + 1)))), (4, .int (nI (i + 1)))] rfl ?_
          exact ih5 (i + 1) (by omega) (by omega)
  exact L5 (38 - 0 + 1) 0 (by omega) (Nat.lt_succ_self _)
def r_X2_dropWeaker : Room := { frames := 3, cells := 0, slots := 0, locals := 72 }
set_option maxRecDepth 100000 in
set_option maxHeartbeats 4000000 in
theorem k_X2_dropWeaker (l : Launch) (D : va_G) (ty : Nat → ClassId) (h0 : Nat) (h1 : Nat) (S : Nat → Bool)  : gM l D ty yX2_dropWeaker cX2_dropWeaker 3 (some (FieldType.int : FieldType)) r_X2_dropWeaker 0 0 [.ref h0] [(h0, .inr (0, [.ref h1])), (h1, .inl (ty 1, 4, .inr (.inl (zM S))))] (fun (zr : Option Value) (zW : va_W) => zr = some (.int (nI (zcnt S 256 - zcnt (drp S) 256))) ∧ zW = [(h0, .inr (0, [.ref h1])), (h1, .inl (ty 1, 4, .inr (.inl (zM (drp S)))))]) := by
  refine gM_of RX2 rfl (by decide +kernel) (Nat.le_of_ble_eq_true rfl) ?_
  intro pg en s0 mi ag bl mth cd AA HH QQ C E hnm
  show gW pg l en r_X2_dropWeaker s0 mi ag bl mth cd 3 D AA HH QQ 0 [(0, .ref h0)] [] [(h0, .inr (0, [.ref h1])), (h1, .inl (ty 1, 4, .inr (.inl (zM S))))] 0 0
  refine g_aload_n C 0 rfl dX2_dropWeaker_0 ?_
  refine g_callV C (nA := 0) (ci := 0) (q0 := 0) (As := []) (wr := []) (k_X2_size l D ty h0 h1 S ) wm_X2_36 wn_X2_size wv_X2_size wi_X2 wc_X2_size rfl (by decide +kernel) ⟨(Nat.le_of_ble_eq_true rfl), (Nat.le_of_ble_eq_true rfl)⟩ ⟨rfl, rfl⟩ dX2_dropWeaker_1 ⟨Nat.zero_le _, Nat.zero_le _⟩ rfl rfl rfl [0, 1] [] rfl rfl rfl rfl (by decide) (Nat.le_of_ble_eq_true rfl) rfl (fun r W1 hp => ?_)
  obtain ⟨rfl, rfl⟩ := hp
  refine g_fix [.int (nI (zcnt S 256))] [(h0, .inr (0, [.ref h1])), (h1, .inl (ty 1, 4, .inr (.inl (zM S))))] [0, 1] rfl rfl rfl ?_
  refine g_istore_n C [(1, .int (nI (zcnt S 256))), (0, .ref h0)] dX2_dropWeaker_4 rfl (by decide) rfl ?_
  refine g_iconst C (nI 0) ic_0 dX2_dropWeaker_5 ?_
  refine g_istore_n C [(2, .int (nI 0)), (1, .int (nI (zcnt S 256))), (0, .ref h0)] dX2_dropWeaker_6 rfl (by decide) rfl ?_
  refine g_lo [2, 1, 0] [(0, .ref h0), (1, .int (nI (zcnt S 256))), (2, .int (nI 0))] rfl ?_
  refine g_ws [(h0, .inr (0, [.ref h1])), (h1, .inl (ty 1, 4, .inr (.inl (zfl (zM (drp S)) (zM S) 0))))] (by rw [zfl_0]) ?_
  have L7 : ∀ (fu7 : Nat) (i : Nat) (hi : i ≤ 4), (4 - i) < fu7 → gW pg l en r_X2_dropWeaker s0 mi ag bl mth cd 3 D AA HH QQ 7 [(0, .ref h0), (1, .int (nI (zcnt S 256))), (2, .int (nI i))] [] [(h0, .inr (0, [.ref h1])), (h1, .inl (ty 1, 4, .inr (.inl (zfl (zM (drp S)) (zM S) i))))] 0 0 := by
    intro fu7
    induction fu7 with
    | zero => intro i hi hfu; exact absurd hfu (Nat.not_lt_zero _)
    | succ fu7 ih7 =>
      intro i hi hfu7
      refine g_iload_n C 2 rfl dX2_dropWeaker_7 ?_
      refine g_aload_n C 0 rfl dX2_dropWeaker_8 ?_
      refine g_getf C wu_X2 0 rfl rfl 0 (by decide) wf_X2_9 rfl rfl dX2_dropWeaker_9 ?_
      refine g_alen C 1 1 rfl rfl (nI 4) rfl dX2_dropWeaker_12 ?_
      refine g_icmp_geN C i 4 44 rfl rfl (by omega) (by omega) dX2_dropWeaker_13 rfl (fun c13 => ?_) (fun c13 => ?_)
      · skip
        refine g_extJ 1 rfl (zM (drp S)) (fun j hj => zfl_in _ _ (show j < i by omega)) [(h0, .inr (0, [.ref h1])), (h1, .inl (ty 1, 4, .inr (.inl (zM (drp S)))))] rfl ?_
        refine g_iload_n C 1 rfl dX2_dropWeaker_44 ?_
        refine g_aload_n C 0 rfl dX2_dropWeaker_45 ?_
        refine g_callV C (nA := 0) (ci := 0) (q0 := 0) (As := []) (wr := []) (k_X2_size l D ty h0 h1 (drp S) ) wm_X2_36 wn_X2_size wv_X2_size wi_X2 wc_X2_size rfl (by decide +kernel) ⟨(Nat.le_of_ble_eq_true rfl), (Nat.le_of_ble_eq_true rfl)⟩ ⟨rfl, rfl⟩ dX2_dropWeaker_46 ⟨Nat.zero_le _, Nat.zero_le _⟩ rfl rfl rfl [0, 1] [] rfl rfl rfl rfl (by decide) (Nat.le_of_ble_eq_true rfl) rfl (fun r W1 hp => ?_)
        obtain ⟨rfl, rfl⟩ := hp
        refine g_fix [.int (nI (zcnt (drp S) 256)), .int (nI (zcnt S 256))] [(h0, .inr (0, [.ref h1])), (h1, .inl (ty 1, 4, .inr (.inl (zM (drp S)))))] [0, 1] rfl rfl rfl ?_
        refine g_isub C (nI (zcnt S 256 - zcnt (drp S) 256)) dX2_dropWeaker_49 (pk_sub (zcnt_sub (fun k _ h => by unfold drp at h; simp at h; exact h.1))) ?_
        exact g_iret E dX2_dropWeaker_50 (by decide) (by decide) ⟨rfl, rfl⟩
      · skip
        refine g_aload_n C 0 rfl dX2_dropWeaker_16 ?_
        refine g_getf C wu_X2 0 rfl rfl 0 (by decide) wf_X2_9 rfl rfl dX2_dropWeaker_17 ?_
        refine g_iload_n C 2 rfl dX2_dropWeaker_20 ?_
        refine g_dup2 C rfl rfl dX2_dropWeaker_21 ?_
        refine g_lald C 1 rfl i rfl (by omega) (by decide) (zM S i) (zfl_out _ _ (Nat.le_refl _)) dX2_dropWeaker_22 ?_
        refine g_aload_n C 0 rfl dX2_dropWeaker_23 ?_
        refine g_getf C wu_X2 0 rfl rfl 0 (by decide) wf_X2_9 rfl rfl dX2_dropWeaker_24 ?_
        refine g_iload_n C 2 rfl dX2_dropWeaker_27 ?_
        refine g_lald C 1 rfl i rfl (by omega) (by decide) (zM S i) (zfl_out _ _ (Nat.le_refl _)) dX2_dropWeaker_28 ?_
        refine g_callS0 C (nA := 1) (k_X2_weakerPairs l D ty (zM S i) S i rfl) wm_X2_40 ws_X2_weakerPairs wi_X2 wc_X2_weakerPairs rfl (by decide +kernel) ⟨(Nat.le_of_ble_eq_true rfl), (Nat.le_of_ble_eq_true rfl)⟩ ⟨rfl, rfl⟩ dX2_dropWeaker_29 (fun _ _ h => h.2) (Nat.le_of_ble_eq_true rfl) rfl ⟨Nat.zero_le _, Nat.zero_le _⟩ (fun r hp => ?_)
        obtain ⟨rfl, -⟩ := hp
        refine g_st [.long (zM (wk S) i), .long (zM S i), .int (nI i), .ref h1] rfl ?_
        refine g_ldc2 C wd_X2_24 dX2_dropWeaker_32 ?_
        refine g_lxor C ((zM (wk S) i) ^^^ (-1)) dX2_dropWeaker_35 rfl ?_
        refine g_land C ((zM S i) &&& ((zM (wk S) i) ^^^ (-1))) dX2_dropWeaker_36 rfl ?_
        refine g_last C 1 rfl i rfl (by omega) (by decide) dX2_dropWeaker_37 (zfl (zM (drp S)) (zM S) (i + 1)) (zfl_L _ _ _ (zM_dw S i)) [(h0, .inr (0, [.ref h1])), (h1, .inl (ty 1, 4, .inr (.inl (zfl (zM (drp S)) (zM S) (i + 1)))))] rfl ?_
        refine g_iinc C (nI (i + 1)) [(2, .int (nI (i + 1))), (0, .ref h0), (1, .int (nI (zcnt S 256)))] 2 dX2_dropWeaker_38 rfl (ii_1 _) (by decide) rfl ?_
        refine g_goto C 7 dX2_dropWeaker_41 rfl ?_
        refine g_lo [1, 2, 0] [(0, .ref h0), (1, .int (nI (zcnt S 256))), (2, .int (nI (i + 1)))] rfl ?_
        exact ih7 (i + 1) (by omega) (by omega)
  exact L7 (4 - 0 + 1) 0 (by omega) (Nat.lt_succ_self _)
def r_X2_allFrom : Room := { frames := 3, cells := 0, slots := 0, locals := 72 }
set_option maxRecDepth 100000 in
set_option maxHeartbeats 4000000 in
theorem k_X2_allFrom (l : Launch) (D : va_G) (ty : Nat → ClassId) (h0 : Nat) (h1 : Nat) (S : Nat → Bool) (k0 : Nat) (k1 : Nat) (T : Nat → Bool)  : gM l D ty yX2_allFrom cX2_allFrom 3 none r_X2_allFrom 0 0 [.ref h0, .ref k0] [(h0, .inr (0, [.ref h1])), (h1, .inl (ty 1, 4, .inr (.inl (zM S)))), (k0, .inr (0, [.ref k1])), (k1, .inl (ty 1, 4, .inr (.inl (zM T))))] (fun (zr : Option Value) (zW : va_W) => zr = none ∧ zW = [(h0, .inr (0, [.ref h1])), (h1, .inl (ty 1, 4, .inr (.inl (zM (foll T))))), (k0, .inr (0, [.ref k1])), (k1, .inl (ty 1, 4, .inr (.inl (zM T))))]) := by
  refine gM_of RX2 rfl (by decide +kernel) (Nat.le_of_ble_eq_true rfl) ?_
  intro pg en s0 mi ag bl mth cd AA HH QQ C E hnm
  show gW pg l en r_X2_allFrom s0 mi ag bl mth cd 3 D AA HH QQ 0 [(0, .ref h0), (1, .ref k0)] [] [(h0, .inr (0, [.ref h1])), (h1, .inl (ty 1, 4, .inr (.inl (zM S)))), (k0, .inr (0, [.ref k1])), (k1, .inl (ty 1, 4, .inr (.inl (zM T))))] 0 0
  refine g_iconst C (nI 0) ic_0 dX2_allFrom_0 ?_
  refine g_istore_n C [(2, .int (nI 0)), (0, .ref h0), (1, .ref k0)] dX2_allFrom_1 rfl (by decide) rfl ?_
  refine g_lo [1, 2, 0] [(0, .ref h0), (1, .ref k0), (2, .int (nI 0))] rfl ?_
  refine g_ws [(h0, .inr (0, [.ref h1])), (h1, .inl (ty 1, 4, .inr (.inl (zfl (zM (foll T)) (zM S) 0)))), (k0, .inr (0, [.ref k1])), (k1, .inl (ty 1, 4, .inr (.inl (zM T))))] (by rw [zfl_0]) ?_
  have L2 : ∀ (fu2 : Nat) (i : Nat) (hi : i ≤ 4), (4 - i) < fu2 → gW pg l en r_X2_allFrom s0 mi ag bl mth cd 3 D AA HH QQ 2 [(0, .ref h0), (1, .ref k0), (2, .int (nI i))] [] [(h0, .inr (0, [.ref h1])), (h1, .inl (ty 1, 4, .inr (.inl (zfl (zM (foll T)) (zM S) i)))), (k0, .inr (0, [.ref k1])), (k1, .inl (ty 1, 4, .inr (.inl (zM T))))] 0 0 := by
    intro fu2
    induction fu2 with
    | zero => intro i hi hfu; exact absurd hfu (Nat.not_lt_zero _)
    | succ fu2 ih2 =>
      intro i hi hfu2
      refine g_iload_n C 2 rfl dX2_allFrom_2 ?_
      refine g_aload_n C 0 rfl dX2_allFrom_3 ?_
      refine g_getf C wu_X2 0 rfl rfl 0 (by decide) wf_X2_9 rfl rfl dX2_allFrom_4 ?_
      refine g_alen C 1 1 rfl rfl (nI 4) rfl dX2_allFrom_7 ?_
      refine g_icmp_geN C i 4 39 rfl rfl (by omega) (by omega) dX2_allFrom_8 rfl (fun c8 => ?_) (fun c8 => ?_)
      · skip
        refine g_extJ 1 rfl (zM (foll T)) (fun j hj => zfl_in _ _ (show j < i by omega)) [(h0, .inr (0, [.ref h1])), (h1, .inl (ty 1, 4, .inr (.inl (zM (foll T))))), (k0, .inr (0, [.ref k1])), (k1, .inl (ty 1, 4, .inr (.inl (zM T))))] rfl ?_
        exact g_vret E dX2_allFrom_39 (by decide) (by decide) ⟨rfl, rfl⟩
      · skip
        refine g_aload_n C 0 rfl dX2_allFrom_11 ?_
        refine g_getf C wu_X2 0 rfl rfl 0 (by decide) wf_X2_9 rfl rfl dX2_allFrom_12 ?_
        refine g_iload_n C 2 rfl dX2_allFrom_15 ?_
        refine g_aload_n C 1 rfl dX2_allFrom_16 ?_
        refine g_getf C wu_X2 2 rfl rfl 0 (by decide) wf_X2_9 rfl rfl dX2_allFrom_17 ?_
        refine g_iload_n C 2 rfl dX2_allFrom_20 ?_
        refine g_lald C 3 rfl i rfl (by omega) (by decide) ((zM T) i) rfl dX2_allFrom_21 ?_
        refine g_aload_n C 1 rfl dX2_allFrom_22 ?_
        refine g_getf C wu_X2 2 rfl rfl 0 (by decide) wf_X2_9 rfl rfl dX2_allFrom_23 ?_
        refine g_iload_n C 2 rfl dX2_allFrom_26 ?_
        refine g_lald C 3 rfl i rfl (by omega) (by decide) ((zM T) i) rfl dX2_allFrom_27 ?_
        refine g_callS0 C (nA := 1) (k_X2_weakerPairs l D ty ((zM T) i) T i rfl) wm_X2_40 ws_X2_weakerPairs wi_X2 wc_X2_weakerPairs rfl (by decide +kernel) ⟨(Nat.le_of_ble_eq_true rfl), (Nat.le_of_ble_eq_true rfl)⟩ ⟨rfl, rfl⟩ dX2_allFrom_28 (fun _ _ h => h.2) (Nat.le_of_ble_eq_true rfl) rfl ⟨Nat.zero_le _, Nat.zero_le _⟩ (fun r hp => ?_)
        obtain ⟨rfl, -⟩ := hp
        refine g_st [.long (zM (wk T) i), .long ((zM T) i), .int (nI i), .ref h1] rfl ?_
        refine g_lor C (((zM T) i) ||| (zM (wk T) i)) dX2_allFrom_31 rfl ?_
        refine g_last C 1 rfl i rfl (by omega) (by decide) dX2_allFrom_32 (zfl (zM (foll T)) (zM S) (i + 1)) (zfl_L _ _ _ (zM_fo T i)) [(h0, .inr (0, [.ref h1])), (h1, .inl (ty 1, 4, .inr (.inl (zfl (zM (foll T)) (zM S) (i + 1))))), (k0, .inr (0, [.ref k1])), (k1, .inl (ty 1, 4, .inr (.inl (zM T))))] rfl ?_
        refine g_iinc C (nI (i + 1)) [(2, .int (nI (i + 1))), (0, .ref h0), (1, .ref k0)] 2 dX2_allFrom_33 rfl (ii_1 _) (by decide) rfl ?_
        refine g_goto C 2 dX2_allFrom_36 rfl ?_
        refine g_lo [1, 2, 0] [(0, .ref h0), (1, .ref k0), (2, .int (nI (i + 1)))] rfl ?_
        exact ih2 (i + 1) (by omega) (by omega)
  exact L2 (4 - 0 + 1) 0 (by omega) (Nat.lt_succ_self _)
def r_X2_instancesWith : Room := { frames := 2, cells := 0, slots := 0, locals := 42 }
set_option maxRecDepth 100000 in
set_option maxHeartbeats 4000000 in
theorem k_X2_instancesWith (l : Launch) (D : va_G) (ty : Nat → ClassId) (h0 : Nat) (h1 : Nat) (S : Nat → Bool) (q : Nat) (hq : q < 4) : gM l D ty yX2_instancesWith cX2_instancesWith 4 (some (FieldType.int : FieldType)) r_X2_instancesWith 0 0 [.ref h0, .int (nI q)] [(h0, .inr (0, [.ref h1])), (h1, .inl (ty 1, 4, .inr (.inl (zM S))))] (fun (zr : Option Value) (zW : va_W) => zr = some (.int (nI (imp S q 38))) ∧ zW = [(h0, .inr (0, [.ref h1])), (h1, .inl (ty 1, 4, .inr (.inl (zM S))))]) := by
  refine gM_of RX2 rfl (by decide +kernel) (Nat.le_of_ble_eq_true rfl) ?_
  intro pg en s0 mi ag bl mth cd AA HH QQ C E hnm
  show gW pg l en r_X2_instancesWith s0 mi ag bl mth cd 4 D AA HH QQ 0 [(0, .ref h0), (1, .int (nI q))] [] [(h0, .inr (0, [.ref h1])), (h1, .inl (ty 1, 4, .inr (.inl (zM S))))] 0 0
  refine g_iload_n C 1 rfl dX2_instancesWith_0 ?_
  refine g_if_lt C 13 dX2_instancesWith_1 rfl (fun c1 => ?_) (fun c1 => ?_)
  · skip
    exact absurd c1 (nI_pos (by omega))
  · skip
    refine g_iload_n C 1 rfl dX2_instancesWith_4 ?_
    refine g_aload_n C 0 rfl dX2_instancesWith_5 ?_
    refine g_getf C wu_X2 0 rfl rfl 0 (by decide) wf_X2_9 rfl rfl dX2_instancesWith_6 ?_
    refine g_alen C 1 1 rfl rfl (nI 4) rfl dX2_instancesWith_9 ?_
    refine g_icmp_ltN C q 4 15 rfl rfl (by omega) (by omega) dX2_instancesWith_10 rfl (fun c10 => ?_) (fun c10 => ?_)
    · skip
      refine g_iconst C (nI 0) ic_0 dX2_instancesWith_15 ?_
      refine g_istore_n C [(2, .int (nI 0)), (0, .ref h0), (1, .int (nI q))] dX2_instancesWith_16 rfl (by decide) rfl ?_
      refine g_iconst C (nI 0) ic_0 dX2_instancesWith_17 ?_
      refine g_istore_n C [(3, .int (nI 0)), (2, .int (nI 0)), (0, .ref h0), (1, .int (nI q))] dX2_instancesWith_18 rfl (by decide) rfl ?_
      refine g_lo [2, 3, 1, 0] [(0, .ref h0), (1, .int (nI q)), (2, .int (nI 0)), (3, .int (nI 0))] rfl ?_
      have L19 : ∀ (fu19 : Nat) (i : Nat) (hi : i ≤ 38), (38 - i) < fu19 → gW pg l en r_X2_instancesWith s0 mi ag bl mth cd 4 D AA HH QQ 19 [(0, .ref h0), (1, .int (nI q)), (2, .int (nI (imp S q i))), (3, .int (nI i))] [] [(h0, .inr (0, [.ref h1])), (h1, .inl (ty 1, 4, .inr (.inl (zM S))))] 0 0 := by
        intro fu19
        induction fu19 with
        | zero => intro i hi hfu; exact absurd hfu (Nat.not_lt_zero _)
        | succ fu19 ih19 =>
          intro i hi hfu19
          refine g_iload_n C 3 rfl dX2_instancesWith_19 ?_
          refine g_bipush C (nI 38) bp_38 dX2_instancesWith_20 ?_
          refine g_icmp_geN C i 38 53 rfl rfl (by omega) (by omega) dX2_instancesWith_22 rfl (fun c22 => ?_) (fun c22 => ?_)
          · skip
            refine g_iload_n C 2 rfl dX2_instancesWith_53 ?_
            exact g_iret E dX2_instancesWith_54 (by decide) (by decide) ⟨(by rw [show i = 38 by omega]), rfl⟩
          · skip
            refine g_aload_n C 0 rfl dX2_instancesWith_25 ?_
            refine g_getf C wu_X2 0 rfl rfl 0 (by decide) wf_X2_9 rfl rfl dX2_instancesWith_26 ?_
            refine g_iload_n C 1 rfl dX2_instancesWith_29 ?_
            refine g_lald C 1 rfl q rfl (by omega) (by decide) ((zM S) q) rfl dX2_instancesWith_30 ?_
            refine g_iload_n C 3 rfl dX2_instancesWith_31 ?_
            refine g_lushr C ((((zM S) q).toUInt64 >>> ((nI i).toInt64.toUInt64 &&& Int64.toUInt64 63)).toInt64) rfl dX2_instancesWith_32 ?_
            refine g_lconst C (lN 1) lc_1 dX2_instancesWith_33 ?_
            refine g_land C (((((zM S) q).toUInt64 >>> ((nI i).toInt64.toUInt64 &&& Int64.toUInt64 63)).toInt64) &&& (lN 1)) dX2_instancesWith_34 rfl ?_
            refine g_lconst C (lN 0) lc_0 dX2_instancesWith_35 ?_
            refine g_lcmp C (bI (S (64 * q + i))) (zM_has S (64 * q + i) (by omega) (by omega)) dX2_instancesWith_36 ?_
            refine g_if_eqB C (S (64 * q + i)) 47 rfl dX2_instancesWith_37 rfl (fun c37 => ?_) (fun c37 => ?_)
            · skip
              refine g_lo2 [(0, .ref h0), (1, .int (nI q)), (2, .int (nI (imp S q (i + 1)))), (3, .int (nI i))] (by rw [imp, c37]; rfl) ?_
              refine g_iinc C (nI (i + 1)) [(3, .int (nI (i + 1))), (0, .ref h0), (1, .int (nI q)), (2, .int (nI (imp S q (i + 1))))] 3 dX2_instancesWith_47 rfl (ii_1 _) (by decide) rfl ?_
              refine g_goto C 19 dX2_instancesWith_50 rfl ?_
              refine g_lo [1, 2, 3, 0] [(0, .ref h0), (1, .int (nI q)), (2, .int (nI (imp S q (i + 1)))), (3, .int (nI (i + 1)))] rfl ?_
              exact ih19 (i + 1) (by omega) (by omega)
            · skip
              refine g_iload_n C 2 rfl dX2_instancesWith_40 ?_
              refine g_iload_n C 3 rfl dX2_instancesWith_41 ?_
              refine g_callS0 C (nA := 1) (k_X1_instanceMask l D ty i (by omega)) wm_X2_48 ws_X1_instanceMask wi_X1 wc_X1_instanceMask rfl (by decide +kernel) ⟨(Nat.le_of_ble_eq_true rfl), (Nat.le_of_ble_eq_true rfl)⟩ ⟨rfl, rfl⟩ dX2_instancesWith_42 (fun _ _ h => h.2) (Nat.le_of_ble_eq_true rfl) rfl ⟨Nat.zero_le _, Nat.zero_le _⟩ (fun r hp => ?_)
              obtain ⟨rfl, -⟩ := hp
              refine g_st [.int (nI (iM i)), .int (nI (imp S q i))] rfl ?_
              refine g_ior C (nI (imp S q (i + 1))) dX2_instancesWith_45 ((nI_orw _ _).trans (congrArg nI (by rw [imp, c37]; rfl))) ?_
              refine g_istore_n C [(2, .int (nI (imp S q (i + 1)))), (0, .ref h0), (1, .int (nI q)), (3, .int (nI i))] dX2_instancesWith_46 rfl (by decide) rfl ?_
              refine g_iinc C (nI (i + 1)) [(3, .int (nI (i + 1))), (2, .int (nI (imp S q (i + 1)))), (0, .ref h0), (1, .int (nI q))] 3 dX2_instancesWith_47 rfl (ii_1 _) (by decide) rfl ?_
              refine g_goto C 19 dX2_instancesWith_50 rfl ?_
              refine g_lo [2, 3, 1, 0] [(0, .ref h0), (1, .int (nI q)), (2, .int (nI (imp S q (i + 1)))), (3, .int (nI (i + 1)))] rfl ?_
              exact ih19 (i + 1) (by omega) (by omega)
      exact L19 (38 - 0 + 1) 0 (by omega) (Nat.lt_succ_self _)
    · skip
      exact absurd c10 (by omega)
def r_X2_instanceCount : Room := { frames := 3, cells := 0, slots := 0, locals := 65 }
set_option maxRecDepth 100000 in
set_option maxHeartbeats 4000000 in
theorem k_X2_instanceCount (l : Launch) (D : va_G) (ty : Nat → ClassId) (h0 : Nat) (h1 : Nat) (S : Nat → Bool)  : gM l D ty yX2_instanceCount cX2_instanceCount 3 (some (FieldType.int : FieldType)) r_X2_instanceCount 0 0 [.ref h0] [(h0, .inr (0, [.ref h1])), (h1, .inl (ty 1, 4, .inr (.inl (zM S))))] (fun (zr : Option Value) (zW : va_W) => zr = some (.int (nI (insU S 4))) ∧ zW = [(h0, .inr (0, [.ref h1])), (h1, .inl (ty 1, 4, .inr (.inl (zM S))))]) := by
  refine gM_of RX2 rfl (by decide +kernel) (Nat.le_of_ble_eq_true rfl) ?_
  intro pg en s0 mi ag bl mth cd AA HH QQ C E hnm
  show gW pg l en r_X2_instanceCount s0 mi ag bl mth cd 3 D AA HH QQ 0 [(0, .ref h0)] [] [(h0, .inr (0, [.ref h1])), (h1, .inl (ty 1, 4, .inr (.inl (zM S))))] 0 0
  refine g_iconst C (nI 0) ic_0 dX2_instanceCount_0 ?_
  refine g_istore_n C [(1, .int (nI 0)), (0, .ref h0)] dX2_instanceCount_1 rfl (by decide) rfl ?_
  refine g_iconst C (nI 0) ic_0 dX2_instanceCount_2 ?_
  refine g_istore_n C [(2, .int (nI 0)), (1, .int (nI 0)), (0, .ref h0)] dX2_instanceCount_3 rfl (by decide) rfl ?_
  refine g_lo [2, 1, 0] [(0, .ref h0), (1, .int (nI 0)), (2, .int (nI 0))] rfl ?_
  have L4 : ∀ (fu4 : Nat) (i : Nat) (hi : i ≤ 4), (4 - i) < fu4 → gW pg l en r_X2_instanceCount s0 mi ag bl mth cd 3 D AA HH QQ 4 [(0, .ref h0), (1, .int (nI (insU S i))), (2, .int (nI i))] [] [(h0, .inr (0, [.ref h1])), (h1, .inl (ty 1, 4, .inr (.inl (zM S))))] 0 0 := by
    intro fu4
    induction fu4 with
    | zero => intro i hi hfu; exact absurd hfu (Nat.not_lt_zero _)
    | succ fu4 ih4 =>
      intro i hi hfu4
      refine g_iload_n C 2 rfl dX2_instanceCount_4 ?_
      refine g_aload_n C 0 rfl dX2_instanceCount_5 ?_
      refine g_getf C wu_X2 0 rfl rfl 0 (by decide) wf_X2_9 rfl rfl dX2_instanceCount_6 ?_
      refine g_alen C 1 1 rfl rfl (nI 4) rfl dX2_instanceCount_9 ?_
      refine g_icmp_geN C i 4 30 rfl rfl (by omega) (by omega) dX2_instanceCount_10 rfl (fun c10 => ?_) (fun c10 => ?_)
      · skip
        refine g_iload_n C 1 rfl dX2_instanceCount_30 ?_
        exact g_iret E dX2_instanceCount_31 (by decide) (by decide) ⟨(by rw [show i = 4 by omega]), rfl⟩
      · skip
        refine g_iload_n C 1 rfl dX2_instanceCount_13 ?_
        refine g_aload_n C 0 rfl dX2_instanceCount_14 ?_
        refine g_iload_n C 2 rfl dX2_instanceCount_15 ?_
        refine g_callV C (nA := 1) (ci := 0) (q0 := 0) (As := [.int (nI i)]) (wr := []) (k_X2_instancesWith l D ty h0 h1 S i (by omega)) wm_X2_51 wn_X2_instancesWith wv_X2_instancesWith wi_X2 wc_X2_instancesWith rfl (by decide +kernel) ⟨(Nat.le_of_ble_eq_true rfl), (Nat.le_of_ble_eq_true rfl)⟩ ⟨rfl, rfl⟩ dX2_instanceCount_16 ⟨Nat.zero_le _, Nat.zero_le _⟩ rfl rfl rfl [0, 1] [] rfl rfl rfl rfl (by decide) (Nat.le_of_ble_eq_true rfl) rfl (fun r W1 hp => ?_)
        obtain ⟨rfl, rfl⟩ := hp
        refine g_fix [.int (nI (imp S i 38)), .int (nI (insU S i))] [(h0, .inr (0, [.ref h1])), (h1, .inl (ty 1, 4, .inr (.inl (zM S))))] [0, 1] rfl rfl rfl ?_
        refine g_callS0 C (nA := 1) (k_J6_bitCount_0f7a4 l D ty ((nI (imp S i 38))) (fun k => (imp S i 38).testBit k) (by rw [zmsk_of (Nat.lt_of_lt_of_le (imp_lt S i 38 (by decide)) (by decide))])) wm_X2_54 ws_J6_bitCount_0f7a4 wi_J6 wc_J6_bitCount_0f7a4 rfl (by decide +kernel) ⟨(Nat.le_of_ble_eq_true rfl), (Nat.le_of_ble_eq_true rfl)⟩ ⟨rfl, rfl⟩ dX2_instanceCount_19 (fun _ _ h => h.2) (Nat.le_of_ble_eq_true rfl) rfl ⟨Nat.zero_le _, Nat.zero_le _⟩ (fun r hp => ?_)
        obtain ⟨rfl, -⟩ := hp
        refine g_st [.int (nI (zcnt (fun k => (imp S i 38).testBit k) 32)), .int (nI (insU S i))] rfl ?_
        refine g_iadd C (nI (insU S (i + 1))) dX2_instanceCount_22 (nI_add _ _) ?_
        refine g_istore_n C [(1, .int (nI (insU S (i + 1)))), (0, .ref h0), (2, .int (nI i))] dX2_instanceCount_23 rfl (by decide) rfl ?_
        refine g_iinc C (nI (i + 1)) [(2, .int (nI (i + 1))), (1, .int (nI (insU S (i + 1)))), (0, .ref h0)] 2 dX2_instanceCount_24 rfl (ii_1 _) (by decide) rfl ?_
        refine g_goto C 4 dX2_instanceCount_27 rfl ?_
        refine g_lo [2, 1, 0] [(0, .ref h0), (1, .int (nI (insU S (i + 1)))), (2, .int (nI (i + 1)))] rfl ?_
        exact ih4 (i + 1) (by omega) (by omega)
  exact L4 (4 - 0 + 1) 0 (by omega) (Nat.lt_succ_self _)
