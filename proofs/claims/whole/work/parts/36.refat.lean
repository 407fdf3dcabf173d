theorem zcnt_1 (p : Nat → Bool) (n : Nat) : zcnt p (n + 1) = zcnt p n + (if p n then 1 else 0) := rfl
theorem zcnt_t {p : Nat → Bool} {n : Nat} (h : p n = true) : zcnt p (n + 1) = zcnt p n + 1 := by rw [zcnt_1, h]; rfl
theorem zcnt_f {p : Nat → Bool} {n : Nat} (h : p n = false) : zcnt p (n + 1) = zcnt p n := by rw [zcnt_1, h]; rfl
theorem nth_t {S : Nat → Bool} {k n : Nat} (h : nth S k n = none) (h1 : S n = true) (h2 : zcnt S n = k) : nth S k (n + 1) = some n := by rw [nth_s h, h1, h2]; simp
theorem nth_f {S : Nat → Bool} {k n : Nat} (h : nth S k n = none) (h1 : ¬ (S n = true ∧ zcnt S n = k)) : nth S k (n + 1) = none := by
  rw [nth_s h, if_neg]
  intro z
  rw [Bool.and_eq_true, beq_iff_eq] at z
  exact h1 z
/-- the instances of all facts that follow, as the reference counts them -/
def alI (F : Nat → Bool) (a : Nat) : Bool := decide (a / 8 % 8 < 4) && (decide (a % 8 < 4) && foll F a)
theorem w3 {S : Nat → Bool} {i k : Nat} (hz : zcnt S i ≤ k) : (S i = false ∧ zcnt S (i + 1) = zcnt S i) ∨ (S i = true ∧ zcnt S i = k ∧ zcnt S (i + 1) = zcnt S i + 1) ∨ (S i = true ∧ zcnt S i < k ∧ zcnt S (i + 1) = zcnt S i + 1) := by
  cases hb : S i with
  | false => exact Or.inl ⟨rfl, zcnt_f hb⟩
  | true =>
    rcases Nat.lt_or_eq_of_le hz with z | z
    · exact Or.inr (Or.inr ⟨rfl, z, zcnt_t hb⟩)
    · exact Or.inr (Or.inl ⟨rfl, z, zcnt_t hb⟩)

def r_X8_toldAt : Room := { frames := 0, cells := 0, slots := 0, locals := 0 }
set_option maxRecDepth 100000 in
set_option maxHeartbeats 4000000 in
theorem k_X8_toldAt (l : Launch) (D : va_G) (ty : Nat → ClassId) (x0 : Nat) (th : Nat) (i1 : Nat) (i2 : Nat) (sd : Nat) (i3 : Nat) (ln : Nat) (j1 : Nat) (j2 : Nat) (j3 : Nat) (j4 : Nat) (j5 : Nat) (j6 : Nat) (fm : Nat) (rd : Nat) (mt : Nat) (dr : Nat) (j7 : Nat) (j8 : Nat) (tt : Nat) (wl : Bool) (j9 : Nat) (lm : Nat) (hs : Int64) (T : Nat → Bool) (q : Nat → Nat) (nr : Nat) (k : Nat) (hk : k < 2 ^ 31) : gM l D ty yX8_toldAt cX8_toldAt 4 (some (FieldType.int : FieldType)) r_X8_toldAt 0 0 [.ref x0, .int (nI k)] [(x0, .inr (6, [.int (nI th), .ref i1, .ref i2, .int (nI sd), .ref i3, .int (nI ln), .ref j1, .ref j2, .ref j3, .ref j4, .ref j5, .ref j6, .int (nI fm), .int (nI rd), .int (nI mt), .int (nI dr), .ref j7, .ref j8, .int (nI tt), .int (bI (wl)), .ref j9, .int (nI lm), .long (hs)])), (i1, .inl (ty 0, 275, .inl (eR (sM T q nr))))] (fun (zr : Option Value) (zW : va_W) => zr = some (.int (eO (nth T k 256))) ∧ zW = [(x0, .inr (6, [.int (nI th), .ref i1, .ref i2, .int (nI sd), .ref i3, .int (nI ln), .ref j1, .ref j2, .ref j3, .ref j4, .ref j5, .ref j6, .int (nI fm), .int (nI rd), .int (nI mt), .int (nI dr), .ref j7, .ref j8, .int (nI tt), .int (bI (wl)), .ref j9, .int (nI lm), .long (hs)])), (i1, .inl (ty 0, 275, .inl (eR (sM T q nr))))]) := by
  refine gM_of RX8 rfl (by decide +kernel) (Nat.le_of_ble_eq_true rfl) ?_
  intro pg en s0 mi ag bl mth cd AA HH QQ C E hnm
  show gW pg l en r_X8_toldAt s0 mi ag bl mth cd 4 D AA HH QQ 0 [(0, .ref x0), (1, .int (nI k))] [] [(x0, .inr (6, [.int (nI th), .ref i1, .ref i2, .int (nI sd), .ref i3, .int (nI ln), .ref j1, .ref j2, .ref j3, .ref j4, .ref j5, .ref j6, .int (nI fm), .int (nI rd), .int (nI mt), .int (nI dr), .ref j7, .ref j8, .int (nI tt), .int (bI (wl)), .ref j9, .int (nI lm), .long (hs)])), (i1, .inl (ty 0, 275, .inl (eR (sM T q nr))))] 0 0
  refine g_iload_n C 1 rfl dX8_toldAt_0 ?_
  refine g_istore_n C [(2, .int (nI k)), (0, .ref x0), (1, .int (nI k))] dX8_toldAt_1 rfl (by decide) rfl ?_
  refine g_iconst C (nI 0) ic_0 dX8_toldAt_2 ?_
  refine g_istore_n C [(3, .int (nI 0)), (2, .int (nI k)), (0, .ref x0), (1, .int (nI k))] dX8_toldAt_3 rfl (by decide) rfl ?_
  refine g_lo [2, 3, 1, 0] [(0, .ref x0), (1, .int (nI k)), (2, .int (nI k)), (3, .int (nI 0))] rfl ?_
  have L4 : ∀ (fu4 : Nat) (i : Nat) (hi : i ≤ 256) (hn : nth T k i = none) (hz : zcnt T i ≤ k), (256 - i) < fu4 → gW pg l en r_X8_toldAt s0 mi ag bl mth cd 4 D AA HH QQ 4 [(0, .ref x0), (1, .int (nI k)), (2, .int (nI (k - zcnt T i))), (3, .int (nI i))] [] [(x0, .inr (6, [.int (nI th), .ref i1, .ref i2, .int (nI sd), .ref i3, .int (nI ln), .ref j1, .ref j2, .ref j3, .ref j4, .ref j5, .ref j6, .int (nI fm), .int (nI rd), .int (nI mt), .int (nI dr), .ref j7, .ref j8, .int (nI tt), .int (bI (wl)), .ref j9, .int (nI lm), .long (hs)])), (i1, .inl (ty 0, 275, .inl (eR (sM T q nr))))] 0 0 := by
    intro fu4
    induction fu4 with
    | zero => intro i hi hn hz hfu; exact absurd hfu (Nat.not_lt_zero _)
    | succ fu4 ih4 =>
      intro i hi hn hz hfu4
      refine g_iload_n C 3 rfl dX8_toldAt_4 ?_
      refine g_sipush C (nI 256) sp_256 dX8_toldAt_5 ?_
      refine g_icmp_geN C i 256 32 rfl rfl (by omega) (by omega) dX8_toldAt_8 rfl (fun c8 => ?_) (fun c8 => ?_)
      · skip
        refine g_iconst C (-1) ic_m1 dX8_toldAt_32 ?_
        exact g_iret E dX8_toldAt_33 (by decide) (by decide) ⟨(by rw [show nth T k 256 = none by rw [← show i = 256 by omega]; exact hn]; rfl), rfl⟩
      · skip
        refine g_iload_n C 2 rfl dX8_toldAt_11 ?_
        refine g_aload_n C 0 rfl dX8_toldAt_12 ?_
        refine g_getf C wu_X8 0 rfl rfl 1 (by decide) wf_X8_7 rfl rfl dX8_toldAt_13 ?_
        refine g_iload_n C 3 rfl dX8_toldAt_16 ?_
        rcases (show (T i = false ∧ zcnt T (i + 1) = zcnt T i) ∨ (T i = true ∧ zcnt T i = k ∧ zcnt T (i + 1) = zcnt T i + 1) ∨ (T i = true ∧ zcnt T i < k ∧ zcnt T (i + 1) = zcnt T i + 1) from w3 hz) with hb | hb | hb
        · skip
          have hn1 : nth T k (i + 1) = none := nth_f hn (fun z => absurd (hb.1.symm.trans z.1) (by decide))
          have hz1 : zcnt T (i + 1) ≤ k := by have := hb.2; omega
          refine g_iald C 1 rfl i rfl (by omega) (by decide) (nI 0) ((sM_T (by omega)).trans (by rw [hb.1]; rfl)) dX8_toldAt_17 ?_
          refine g_isub C (nI (k - zcnt T (i + 1))) dX8_toldAt_18 (by rw [hb.2]; exact pk_sub (b := 0) (by omega)) ?_
          refine g_istore_n C [(2, .int (nI (k - zcnt T (i + 1)))), (0, .ref x0), (1, .int (nI k)), (3, .int (nI i))] dX8_toldAt_19 rfl (by decide) rfl ?_
          refine g_iload_n C 0 rfl dX8_toldAt_20 ?_
          refine g_if_ge C 26 dX8_toldAt_21 rfl (fun c21 => ?_) (fun c21 => ?_)
          · skip
            refine g_iinc C (nI (i + 1)) [(3, .int (nI (i + 1))), (2, .int (nI (k - zcnt T (i + 1)))), (0, .ref x0), (1, .int (nI k))] 3 dX8_toldAt_26 rfl (ii_1 _) (by decide) rfl ?_
            refine g_goto C 4 dX8_toldAt_29 rfl ?_
            refine g_lo [2, 3, 1, 0] [(0, .ref x0), (1, .int (nI k)), (2, .int (nI (k - zcnt T (i + 1)))), (3, .int (nI (i + 1)))] rfl ?_
            exact ih4 (i + 1) (by omega) hn1 hz1 (by omega)
          · skip
            exact absurd (nI_pos' (by omega)) c21
        · skip
          have hn1 : nth T k (i + 1) = some i := nth_t hn hb.1 hb.2.1
          refine g_iald C 1 rfl i rfl (by omega) (by decide) (nI 1) ((sM_T (by omega)).trans (by rw [hb.1]; rfl)) dX8_toldAt_17 ?_
          refine g_isub C (-1) dX8_toldAt_18 (by rw [show k - zcnt T i = 0 by have := hb.2.1; omega]; decide +kernel) ?_
          refine g_istore_n C [(2, .int (-1)), (0, .ref x0), (1, .int (nI k)), (3, .int (nI i))] dX8_toldAt_19 rfl (by decide) rfl ?_
          refine g_iload_n C 0 rfl dX8_toldAt_20 ?_
          refine g_if_ge C 26 dX8_toldAt_21 rfl (fun c21 => ?_) (fun c21 => ?_)
          · skip
            exact absurd c21 (by decide)
          · skip
            refine g_iload_n C 3 rfl dX8_toldAt_24 ?_
            exact g_iret E dX8_toldAt_25 (by decide) (by decide) ⟨(by rw [show nth T k 256 = some i by rw [show 256 = (i + 1) + (255 - i) by omega]; exact nth_le hn1 _]; rfl), rfl⟩
        · skip
          have hn1 : nth T k (i + 1) = none := nth_f hn (fun z => by have := hb.2.1; have := z.2; omega)
          have hz1 : zcnt T (i + 1) ≤ k := by have := hb.2.1; have := hb.2.2; omega
          refine g_iald C 1 rfl i rfl (by omega) (by decide) (nI 1) ((sM_T (by omega)).trans (by rw [hb.1]; rfl)) dX8_toldAt_17 ?_
          refine g_isub C (nI (k - zcnt T (i + 1))) dX8_toldAt_18 (by rw [show k - zcnt T (i + 1) = k - zcnt T i - 1 by have := hb.2.2; omega]; exact pk_sub (by have := hb.2.1; omega)) ?_
          refine g_istore_n C [(2, .int (nI (k - zcnt T (i + 1)))), (0, .ref x0), (1, .int (nI k)), (3, .int (nI i))] dX8_toldAt_19 rfl (by decide) rfl ?_
          refine g_iload_n C 0 rfl dX8_toldAt_20 ?_
          refine g_if_ge C 26 dX8_toldAt_21 rfl (fun c21 => ?_) (fun c21 => ?_)
          · skip
            refine g_iinc C (nI (i + 1)) [(3, .int (nI (i + 1))), (2, .int (nI (k - zcnt T (i + 1)))), (0, .ref x0), (1, .int (nI k))] 3 dX8_toldAt_26 rfl (ii_1 _) (by decide) rfl ?_
            refine g_goto C 4 dX8_toldAt_29 rfl ?_
            refine g_lo [2, 3, 1, 0] [(0, .ref x0), (1, .int (nI k)), (2, .int (nI (k - zcnt T (i + 1)))), (3, .int (nI (i + 1)))] rfl ?_
            exact ih4 (i + 1) (by omega) hn1 hz1 (by omega)
          · skip
            exact absurd (nI_pos' (by omega)) c21
  exact L4 (256 - 0 + 1) 0 (by omega) rfl (Nat.zero_le _) (Nat.lt_succ_self _)
def r_X8_foundAt : Room := { frames := 0, cells := 0, slots := 0, locals := 0 }
set_option maxRecDepth 100000 in
set_option maxHeartbeats 4000000 in
theorem k_X8_foundAt (l : Launch) (D : va_G) (ty : Nat → ClassId) (x0 : Nat) (th : Nat) (i1 : Nat) (i2 : Nat) (sd : Nat) (i3 : Nat) (ln : Nat) (j1 : Nat) (j2 : Nat) (j3 : Nat) (j4 : Nat) (j5 : Nat) (j6 : Nat) (fm : Nat) (rd : Nat) (mt : Nat) (dr : Nat) (j7 : Nat) (j8 : Nat) (tt : Nat) (wl : Bool) (j9 : Nat) (lm : Nat) (hs : Int64) (F : Nat → Bool) (k : Nat) (hk : k < 2 ^ 31) : gM l D ty yX8_foundAt cX8_foundAt 4 (some (FieldType.int : FieldType)) r_X8_foundAt 0 0 [.ref x0, .int (nI k)] [(x0, .inr (6, [.int (nI th), .ref i1, .ref i2, .int (nI sd), .ref i3, .int (nI ln), .ref j1, .ref j2, .ref j3, .ref j4, .ref j5, .ref j6, .int (nI fm), .int (nI rd), .int (nI mt), .int (nI dr), .ref j7, .ref j8, .int (nI tt), .int (bI (wl)), .ref j9, .int (nI lm), .long (hs)])), (j1, .inl (ty 2, 256, .inl (zB F)))] (fun (zr : Option Value) (zW : va_W) => zr = some (.int (eO (nth F k 256))) ∧ zW = [(x0, .inr (6, [.int (nI th), .ref i1, .ref i2, .int (nI sd), .ref i3, .int (nI ln), .ref j1, .ref j2, .ref j3, .ref j4, .ref j5, .ref j6, .int (nI fm), .int (nI rd), .int (nI mt), .int (nI dr), .ref j7, .ref j8, .int (nI tt), .int (bI (wl)), .ref j9, .int (nI lm), .long (hs)])), (j1, .inl (ty 2, 256, .inl (zB F)))]) := by
  refine gM_of RX8 rfl (by decide +kernel) (Nat.le_of_ble_eq_true rfl) ?_
  intro pg en s0 mi ag bl mth cd AA HH QQ C E hnm
  show gW pg l en r_X8_foundAt s0 mi ag bl mth cd 4 D AA HH QQ 0 [(0, .ref x0), (1, .int (nI k))] [] [(x0, .inr (6, [.int (nI th), .ref i1, .ref i2, .int (nI sd), .ref i3, .int (nI ln), .ref j1, .ref j2, .ref j3, .ref j4, .ref j5, .ref j6, .int (nI fm), .int (nI rd), .int (nI mt), .int (nI dr), .ref j7, .ref j8, .int (nI tt), .int (bI (wl)), .ref j9, .int (nI lm), .long (hs)])), (j1, .inl (ty 2, 256, .inl (zB F)))] 0 0
  refine g_iload_n C 1 rfl dX8_foundAt_0 ?_
  refine g_istore_n C [(2, .int (nI k)), (0, .ref x0), (1, .int (nI k))] dX8_foundAt_1 rfl (by decide) rfl ?_
  refine g_iconst C (nI 0) ic_0 dX8_foundAt_2 ?_
  refine g_istore_n C [(3, .int (nI 0)), (2, .int (nI k)), (0, .ref x0), (1, .int (nI k))] dX8_foundAt_3 rfl (by decide) rfl ?_
  refine g_lo [2, 3, 1, 0] [(0, .ref x0), (1, .int (nI k)), (2, .int (nI k)), (3, .int (nI 0))] rfl ?_
  have L4 : ∀ (fu4 : Nat) (i : Nat) (hi : i ≤ 256) (hn : nth F k i = none) (hz : zcnt F i ≤ k), (256 - i) < fu4 → gW pg l en r_X8_foundAt s0 mi ag bl mth cd 4 D AA HH QQ 4 [(0, .ref x0), (1, .int (nI k)), (2, .int (nI (k - zcnt F i))), (3, .int (nI i))] [] [(x0, .inr (6, [.int (nI th), .ref i1, .ref i2, .int (nI sd), .ref i3, .int (nI ln), .ref j1, .ref j2, .ref j3, .ref j4, .ref j5, .ref j6, .int (nI fm), .int (nI rd), .int (nI mt), .int (nI dr), .ref j7, .ref j8, .int (nI tt), .int (bI (wl)), .ref j9, .int (nI lm), .long (hs)])), (j1, .inl (ty 2, 256, .inl (zB F)))] 0 0 := by
    intro fu4
    induction fu4 with
    | zero => intro i hi hn hz hfu; exact absurd hfu (Nat.not_lt_zero _)
    | succ fu4 ih4 =>
      intro i hi hn hz hfu4
      refine g_iload_n C 3 rfl dX8_foundAt_4 ?_
      refine g_sipush C (nI 256) sp_256 dX8_foundAt_5 ?_
      refine g_icmp_geN C i 256 40 rfl rfl (by omega) (by omega) dX8_foundAt_8 rfl (fun c8 => ?_) (fun c8 => ?_)
      · skip
        refine g_iconst C (-1) ic_m1 dX8_foundAt_40 ?_
        exact g_iret E dX8_foundAt_41 (by decide) (by decide) ⟨(by rw [show nth F k 256 = none by rw [← show i = 256 by omega]; exact hn]; rfl), rfl⟩
      · skip
        refine g_iload_n C 2 rfl dX8_foundAt_11 ?_
        refine g_aload_n C 0 rfl dX8_foundAt_12 ?_
        refine g_getf C wu_X8 0 rfl rfl 6 (by decide) wf_X8_19 rfl rfl dX8_foundAt_13 ?_
        refine g_iload_n C 3 rfl dX8_foundAt_16 ?_
        rcases (show (F i = false ∧ zcnt F (i + 1) = zcnt F i) ∨ (F i = true ∧ zcnt F i = k ∧ zcnt F (i + 1) = zcnt F i + 1) ∨ (F i = true ∧ zcnt F i < k ∧ zcnt F (i + 1) = zcnt F i + 1) from w3 hz) with hb | hb | hb
        · skip
          have hn1 : nth F k (i + 1) = none := nth_f hn (fun z => absurd (hb.1.symm.trans z.1) (by decide))
          have hz1 : zcnt F (i + 1) ≤ k := by have := hb.2; omega
          refine g_zald C 1 rfl i rfl (by omega) (by decide) (bI (F i)) rfl dX8_foundAt_17 ?_
          refine g_if_eqB C (F i) 25 rfl dX8_foundAt_18 rfl (fun c18 => ?_) (fun c18 => ?_)
          · skip
            refine g_iconst C (nI 0) ic_0 dX8_foundAt_25 ?_
            refine g_isub C (nI (k - zcnt F (i + 1))) dX8_foundAt_26 (by rw [hb.2]; exact pk_sub (b := 0) (by omega)) ?_
            refine g_istore_n C [(2, .int (nI (k - zcnt F (i + 1)))), (0, .ref x0), (1, .int (nI k)), (3, .int (nI i))] dX8_foundAt_27 rfl (by decide) rfl ?_
            refine g_iload_n C 0 rfl dX8_foundAt_28 ?_
            refine g_if_ge C 34 dX8_foundAt_29 rfl (fun c29 => ?_) (fun c29 => ?_)
            · skip
              refine g_iinc C (nI (i + 1)) [(3, .int (nI (i + 1))), (2, .int (nI (k - zcnt F (i + 1)))), (0, .ref x0), (1, .int (nI k))] 3 dX8_foundAt_34 rfl (ii_1 _) (by decide) rfl ?_
              refine g_goto C 4 dX8_foundAt_37 rfl ?_
              refine g_lo [2, 3, 1, 0] [(0, .ref x0), (1, .int (nI k)), (2, .int (nI (k - zcnt F (i + 1)))), (3, .int (nI (i + 1)))] rfl ?_
              exact ih4 (i + 1) (by omega) hn1 hz1 (by omega)
            · skip
              exact absurd (nI_pos' (by omega)) c29
          · skip
            exact absurd (c18.symm.trans hb.1) (by decide)
        · skip
          have hn1 : nth F k (i + 1) = some i := nth_t hn hb.1 hb.2.1
          refine g_zald C 1 rfl i rfl (by omega) (by decide) (bI (F i)) rfl dX8_foundAt_17 ?_
          refine g_if_eqB C (F i) 25 rfl dX8_foundAt_18 rfl (fun c18 => ?_) (fun c18 => ?_)
          · skip
            exact absurd (c18.symm.trans hb.1) (by decide)
          · skip
            refine g_iconst C (nI 1) ic_1 dX8_foundAt_21 ?_
            refine g_goto C 26 dX8_foundAt_22 rfl ?_
            refine g_isub C (-1) dX8_foundAt_26 (by rw [show k - zcnt F i = 0 by have := hb.2.1; omega]; decide +kernel) ?_
            refine g_istore_n C [(2, .int (-1)), (0, .ref x0), (1, .int (nI k)), (3, .int (nI i))] dX8_foundAt_27 rfl (by decide) rfl ?_
            refine g_iload_n C 0 rfl dX8_foundAt_28 ?_
            refine g_if_ge C 34 dX8_foundAt_29 rfl (fun c29 => ?_) (fun c29 => ?_)
            · skip
              exact absurd c29 (by decide)
            · skip
              refine g_iload_n C 3 rfl dX8_foundAt_32 ?_
              exact g_iret E dX8_foundAt_33 (by decide) (by decide) ⟨(by rw [show nth F k 256 = some i by rw [show 256 = (i + 1) + (255 - i) by omega]; exact nth_le hn1 _]; rfl), rfl⟩
        · skip
          have hn1 : nth F k (i + 1) = none := nth_f hn (fun z => by have := hb.2.1; have := z.2; omega)
          have hz1 : zcnt F (i + 1) ≤ k := by have := hb.2.1; have := hb.2.2; omega
          refine g_zald C 1 rfl i rfl (by omega) (by decide) (bI (F i)) rfl dX8_foundAt_17 ?_
          refine g_if_eqB C (F i) 25 rfl dX8_foundAt_18 rfl (fun c18 => ?_) (fun c18 => ?_)
          · skip
            exact absurd (c18.symm.trans hb.1) (by decide)
          · skip
            refine g_iconst C (nI 1) ic_1 dX8_foundAt_21 ?_
            refine g_goto C 26 dX8_foundAt_22 rfl ?_
            refine g_isub C (nI (k - zcnt F (i + 1))) dX8_foundAt_26 (by rw [show k - zcnt F (i + 1) = k - zcnt F i - 1 by have := hb.2.2; omega]; exact pk_sub (by have := hb.2.1; omega)) ?_
            refine g_istore_n C [(2, .int (nI (k - zcnt F (i + 1)))), (0, .ref x0), (1, .int (nI k)), (3, .int (nI i))] dX8_foundAt_27 rfl (by decide) rfl ?_
            refine g_iload_n C 0 rfl dX8_foundAt_28 ?_
            refine g_if_ge C 34 dX8_foundAt_29 rfl (fun c29 => ?_) (fun c29 => ?_)
            · skip
              refine g_iinc C (nI (i + 1)) [(3, .int (nI (i + 1))), (2, .int (nI (k - zcnt F (i + 1)))), (0, .ref x0), (1, .int (nI k))] 3 dX8_foundAt_34 rfl (ii_1 _) (by decide) rfl ?_
              refine g_goto C 4 dX8_foundAt_37 rfl ?_
              refine g_lo [2, 3, 1, 0] [(0, .ref x0), (1, .int (nI k)), (2, .int (nI (k - zcnt F (i + 1)))), (3, .int (nI (i + 1)))] rfl ?_
              exact ih4 (i + 1) (by omega) hn1 hz1 (by omega)
            · skip
              exact absurd (nI_pos' (by omega)) c29
  exact L4 (256 - 0 + 1) 0 (by omega) rfl (Nat.zero_le _) (Nat.lt_succ_self _)
def r_X8_allInstances : Room := { frames := 3, cells := 0, slots := 0, locals := 69 }
set_option maxRecDepth 100000 in
set_option maxHeartbeats 4000000 in
theorem k_X8_allInstances (l : Launch) (D : va_G) (ty : Nat → ClassId) (x0 : Nat) (th : Nat) (i1 : Nat) (i2 : Nat) (sd : Nat) (i3 : Nat) (ln : Nat) (j1 : Nat) (j2 : Nat) (j3 : Nat) (j4 : Nat) (j5 : Nat) (j6 : Nat) (fm : Nat) (rd : Nat) (mt : Nat) (dr : Nat) (j7 : Nat) (j8 : Nat) (tt : Nat) (wl : Bool) (j9 : Nat) (lm : Nat) (hs : Int64) (F : Nat → Bool) (hF : okF F) : gM l D ty yX8_allInstances cX8_allInstances 3 (some (FieldType.int : FieldType)) r_X8_allInstances 0 0 [.ref x0] [(x0, .inr (6, [.int (nI th), .ref i1, .ref i2, .int (nI sd), .ref i3, .int (nI ln), .ref j1, .ref j2, .ref j3, .ref j4, .ref j5, .ref j6, .int (nI fm), .int (nI rd), .int (nI mt), .int (nI dr), .ref j7, .ref j8, .int (nI tt), .int (bI (wl)), .ref j9, .int (nI lm), .long (hs)])), (j1, .inl (ty 2, 256, .inl (zB F)))] (fun (zr : Option Value) (zW : va_W) => zr = some (.int (nI (zcnt (alI F) 256))) ∧ zW = [(x0, .inr (6, [.int (nI th), .ref i1, .ref i2, .int (nI sd), .ref i3, .int (nI ln), .ref j1, .ref j2, .ref j3, .ref j4, .ref j5, .ref j6, .int (nI fm), .int (nI rd), .int (nI mt), .int (nI dr), .ref j7, .ref j8, .int (nI tt), .int (bI (wl)), .ref j9, .int (nI lm), .long (hs)])), (j1, .inl (ty 2, 256, .inl (zB F)))]) := by
  refine gM_of RX8 rfl (by decide +kernel) (Nat.le_of_ble_eq_true rfl) ?_
  intro pg en s0 mi ag bl mth cd AA HH QQ C E hnm
  show gW pg l en r_X8_allInstances s0 mi ag bl mth cd 3 D AA HH QQ 0 [(0, .ref x0)] [] [(x0, .inr (6, [.int (nI th), .ref i1, .ref i2, .int (nI sd), .ref i3, .int (nI ln), .ref j1, .ref j2, .ref j3, .ref j4, .ref j5, .ref j6, .int (nI fm), .int (nI rd), .int (nI mt), .int (nI dr), .ref j7, .ref j8, .int (nI tt), .int (bI (wl)), .ref j9, .int (nI lm), .long (hs)])), (j1, .inl (ty 2, 256, .inl (zB F)))] 0 0
  refine g_iconst C (nI 0) ic_0 dX8_allInstances_0 ?_
  refine g_istore_n C [(1, .int (nI 0)), (0, .ref x0)] dX8_allInstances_1 rfl (by decide) rfl ?_
  refine g_iconst C (nI 0) ic_0 dX8_allInstances_2 ?_
  refine g_istore_n C [(2, .int (nI 0)), (1, .int (nI 0)), (0, .ref x0)] dX8_allInstances_3 rfl (by decide) rfl ?_
  refine g_lo [2, 1, 0] [(0, .ref x0), (1, .int (nI 0)), (2, .int (nI 0))] rfl ?_
  have L4 : ∀ (fu4 : Nat) (i : Nat) (hi : i ≤ 256), (256 - i) < fu4 → gW pg l en r_X8_allInstances s0 mi ag bl mth cd 3 D AA HH QQ 4 [(0, .ref x0), (1, .int (nI (zcnt (alI F) i))), (2, .int (nI i))] [] [(x0, .inr (6, [.int (nI th), .ref i1, .ref i2, .int (nI sd), .ref i3, .int (nI ln), .ref j1, .ref j2, .ref j3, .ref j4, .ref j5, .ref j6, .int (nI fm), .int (nI rd), .int (nI mt), .int (nI dr), .ref j7, .ref j8, .int (nI tt), .int (bI (wl)), .ref j9, .int (nI lm), .long (hs)])), (j1, .inl (ty 2, 256, .inl (zB F)))] 0 0 := by
    intro fu4
    induction fu4 with
    | zero => intro i hi hfu; exact absurd hfu (Nat.not_lt_zero _)
    | succ fu4 ih4 =>
      intro i hi hfu4
      refine g_iload_n C 2 rfl dX8_allInstances_4 ?_
      refine g_sipush C (nI 256) sp_256 dX8_allInstances_5 ?_
      refine g_icmp_geN C i 256 52 rfl rfl (by omega) (by omega) dX8_allInstances_8 rfl (fun c8 => ?_) (fun c8 => ?_)
      · skip
        refine g_iload_n C 1 rfl dX8_allInstances_52 ?_
        exact g_iret E dX8_allInstances_53 (by decide) (by decide) ⟨(by rw [show i = 256 by omega]), rfl⟩
      · skip
        refine g_iload_n C 1 rfl dX8_allInstances_11 ?_
        refine g_iload_n C 2 rfl dX8_allInstances_12 ?_
        refine g_bipush C (nI 8) bp_8 dX8_allInstances_13 ?_
        refine g_idiv C (nI (i / 8)) (by decide +kernel) dX8_allInstances_15 (pk_div (by omega) (by omega) (by omega)) ?_
        refine g_bipush C (nI 8) bp_8 dX8_allInstances_16 ?_
        refine g_irem C (nI ((i / 8) % 8)) (by decide +kernel) dX8_allInstances_18 (pk_rem (by omega) (by omega) (by omega)) ?_
        refine g_iconst C (nI 4) ic_4 dX8_allInstances_19 ?_
        refine g_icmp_geN C ((i / 8) % 8) 4 43 rfl rfl (by omega) (by omega) dX8_allInstances_20 rfl (fun c20 => ?_) (fun c20 => ?_)
        · skip
          have ha : alI F i = false := by unfold alI; rw [decide_eq_false (by omega), Bool.false_and]
          refine g_iconst C (nI 0) ic_0 dX8_allInstances_43 ?_
          refine g_iadd C (nI (zcnt (alI F) (i + 1))) dX8_allInstances_44 (by rw [zcnt_f ha]; exact nI_add _ _) ?_
          refine g_istore_n C [(1, .int (nI (zcnt (alI F) (i + 1)))), (0, .ref x0), (2, .int (nI i))] dX8_allInstances_45 rfl (by decide) rfl ?_
          refine g_iinc C (nI (i + 1)) [(2, .int (nI (i + 1))), (1, .int (nI (zcnt (alI F) (i + 1)))), (0, .ref x0)] 2 dX8_allInstances_46 rfl (ii_1 _) (by decide) rfl ?_
          refine g_goto C 4 dX8_allInstances_49 rfl ?_
          refine g_lo [2, 1, 0] [(0, .ref x0), (1, .int (nI (zcnt (alI F) (i + 1)))), (2, .int (nI (i + 1)))] rfl ?_
          exact ih4 (i + 1) (by omega) (by omega)
        · skip
          refine g_iload_n C 2 rfl dX8_allInstances_23 ?_
          refine g_bipush C (nI 8) bp_8 dX8_allInstances_24 ?_
          refine g_irem C (nI (i % 8)) (by decide +kernel) dX8_allInstances_26 (pk_rem (by omega) (by omega) (by omega)) ?_
          refine g_iconst C (nI 4) ic_4 dX8_allInstances_27 ?_
          refine g_icmp_geN C (i % 8) 4 43 rfl rfl (by omega) (by omega) dX8_allInstances_28 rfl (fun c28 => ?_) (fun c28 => ?_)
          · skip
            have ha : alI F i = false := by unfold alI; rw [show decide (i % 8 < 4) = false from decide_eq_false (by omega), Bool.false_and, Bool.and_false]
            refine g_iconst C (nI 0) ic_0 dX8_allInstances_43 ?_
            refine g_iadd C (nI (zcnt (alI F) (i + 1))) dX8_allInstances_44 (by rw [zcnt_f ha]; exact nI_add _ _) ?_
            refine g_istore_n C [(1, .int (nI (zcnt (alI F) (i + 1)))), (0, .ref x0), (2, .int (nI i))] dX8_allInstances_45 rfl (by decide) rfl ?_
            refine g_iinc C (nI (i + 1)) [(2, .int (nI (i + 1))), (1, .int (nI (zcnt (alI F) (i + 1)))), (0, .ref x0)] 2 dX8_allInstances_46 rfl (ii_1 _) (by decide) rfl ?_
            refine g_goto C 4 dX8_allInstances_49 rfl ?_
            refine g_lo [2, 1, 0] [(0, .ref x0), (1, .int (nI (zcnt (alI F) (i + 1)))), (2, .int (nI (i + 1)))] rfl ?_
            exact ih4 (i + 1) (by omega) (by omega)
          · skip
            refine g_aload_n C 0 rfl dX8_allInstances_31 ?_
            refine g_iload_n C 2 rfl dX8_allInstances_32 ?_
            refine g_callV C (nA := 1) (ci := 6) (q0 := 0) (As := [.int (nI i)]) (wr := []) (k_X8_isFollowing l D ty x0 th i1 i2 sd i3 ln j1 j2 j3 j4 j5 j6 fm rd mt dr j7 j8 tt wl j9 lm hs F i (by omega) (by omega) (by unfold isF; exact decide_eq_true (by omega))) wm_X8_125 wn_X8_isFollowing wv_X8_isFollowing wi_X8 wc_X8_isFollowing rfl (by decide +kernel) ⟨(Nat.le_of_ble_eq_true rfl), (Nat.le_of_ble_eq_true rfl)⟩ ⟨rfl, rfl⟩ dX8_allInstances_33 ⟨Nat.zero_le _, Nat.zero_le _⟩ rfl rfl rfl [0, 1] [] rfl rfl rfl rfl (by decide) (Nat.le_of_ble_eq_true rfl) rfl (fun r W1 hp => ?_)
            obtain ⟨rfl, rfl⟩ := hp
            refine g_fix [.int (bI (foll F i)), .int (nI (zcnt (alI F) i))] [(x0, .inr (6, [.int (nI th), .ref i1, .ref i2, .int (nI sd), .ref i3, .int (nI ln), .ref j1, .ref j2, .ref j3, .ref j4, .ref j5, .ref j6, .int (nI fm), .int (nI rd), .int (nI mt), .int (nI dr), .ref j7, .ref j8, .int (nI tt), .int (bI (wl)), .ref j9, .int (nI lm), .long (hs)])), (j1, .inl (ty 2, 256, .inl (zB F)))] [0, 1] rfl rfl rfl ?_
            refine g_if_eqB C (foll F i) 43 rfl dX8_allInstances_36 rfl (fun c36 => ?_) (fun c36 => ?_)
            · skip
              have ha : alI F i = false := by unfold alI; rw [c36, Bool.and_false, Bool.and_false]
              refine g_iconst C (nI 0) ic_0 dX8_allInstances_43 ?_
              refine g_iadd C (nI (zcnt (alI F) (i + 1))) dX8_allInstances_44 (by rw [zcnt_f ha]; exact nI_add _ _) ?_
              refine g_istore_n C [(1, .int (nI (zcnt (alI F) (i + 1)))), (0, .ref x0), (2, .int (nI i))] dX8_allInstances_45 rfl (by decide) rfl ?_
              refine g_iinc C (nI (i + 1)) [(2, .int (nI (i + 1))), (1, .int (nI (zcnt (alI F) (i + 1)))), (0, .ref x0)] 2 dX8_allInstances_46 rfl (ii_1 _) (by decide) rfl ?_
              refine g_goto C 4 dX8_allInstances_49 rfl ?_
              refine g_lo [2, 1, 0] [(0, .ref x0), (1, .int (nI (zcnt (alI F) (i + 1)))), (2, .int (nI (i + 1)))] rfl ?_
              exact ih4 (i + 1) (by omega) (by omega)
            · skip
              have ha : alI F i = true := by unfold alI; rw [c36, decide_eq_true (by omega), decide_eq_true (by omega)]; rfl
              refine g_iconst C (nI 1) ic_1 dX8_allInstances_39 ?_
              refine g_goto C 44 dX8_allInstances_40 rfl ?_
              refine g_iadd C (nI (zcnt (alI F) (i + 1))) dX8_allInstances_44 (by rw [zcnt_t ha]; exact nI_add _ _) ?_
              refine g_istore_n C [(1, .int (nI (zcnt (alI F) (i + 1)))), (0, .ref x0), (2, .int (nI i))] dX8_allInstances_45 rfl (by decide) rfl ?_
              refine g_iinc C (nI (i + 1)) [(2, .int (nI (i + 1))), (1, .int (nI (zcnt (alI F) (i + 1)))), (0, .ref x0)] 2 dX8_allInstances_46 rfl (ii_1 _) (by decide) rfl ?_
              refine g_goto C 4 dX8_allInstances_49 rfl ?_
              refine g_lo [2, 1, 0] [(0, .ref x0), (1, .int (nI (zcnt (alI F) (i + 1)))), (2, .int (nI (i + 1)))] rfl ?_
              exact ih4 (i + 1) (by omega) (by omega)
  exact L4 (256 - 0 + 1) 0 (by omega) (Nat.lt_succ_self _)
