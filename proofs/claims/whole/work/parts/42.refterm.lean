theorem bI_fits (b : Bool) : fits (tyX8 19) (.int (bI b)) = true := by cases b <;> rfl
def tkM (b : Nat → Nat) (len u : Nat) (w : Bool) (c : Nat) : Bool := w && decide (sgM b len u = c)
def wtW (b : Nat → Nat) (len u : Nat) (w : Bool) : Bool := w && decide (tmc (sgM b len u) ≠ 256)
theorem sgM_lt {b : Nat → Nat} {len : Nat} (hb : ∀ j, j < len → b j < 128) (u : Nat) : sgM b len u < 128 := by
  unfold sgM
  split
  · exact hb u (by assumption)
  · omega
theorem tmc_128 {c : Nat} (h : c < 128) : tmc c ≤ 256 := by
  unfold tmc
  (repeat' split) <;> omega

def r_X8_takes : Room := { frames := 1, cells := 0, slots := 0, locals := 20 }
set_option maxRecDepth 100000 in
set_option maxHeartbeats 4000000 in
theorem k_X8_takes (l : Launch) (D : va_G) (ty : Nat → ClassId) (x0 : Nat) (th : Nat) (i1 : Nat) (i2 : Nat) (sd : Nat) (i3 : Nat) (ln : Nat) (j1 : Nat) (j2 : Nat) (j3 : Nat) (j4 : Nat) (j5 : Nat) (j6 : Nat) (fm : Nat) (rd : Nat) (mt : Nat) (dr : Nat) (j7 : Nat) (j8 : Nat) (tt : Nat) (wl : Bool) (j9 : Nat) (lm : Nat) (hs : Int64) (b : Nat → Nat) (c : Nat) (hl : ln ≤ 60) (ht : tt < 2 ^ 31) (hb : ∀ j, j < ln → b j < 128) (hc : c < 128) : gM l D ty yX8_takes cX8_takes 3 (some (FieldType.boolean : FieldType)) r_X8_takes 0 0 [.ref x0, .int (nI c)] [(x0, .inr (6, [.int (nI th), .ref i1, .ref i2, .int (nI sd), .ref i3, .int (nI ln), .ref j1, .ref j2, .ref j3, .ref j4, .ref j5, .ref j6, .int (nI fm), .int (nI rd), .int (nI mt), .int (nI dr), .ref j7, .ref j8, .int (nI tt), .int (bI (wl)), .ref j9, .int (nI lm), .long (hs)])), (i3, .inl (ty 0, 60, .inl (tI b)))] (fun (zr : Option Value) (zW : va_W) => zr = some (.int (bI (tkM b ln tt wl c))) ∧ zW = [(x0, .inr (6, [.int (nI th), .ref i1, .ref i2, .int (nI sd), .ref i3, .int (nI ln), .ref j1, .ref j2, .ref j3, .ref j4, .ref j5, .ref j6, .int (nI fm), .int (nI rd), .int (nI mt), .int (nI dr), .ref j7, .ref j8, .int (nI (if tkM b ln tt wl c = true then tt + 1 else tt)), .int (bI (wl)), .ref j9, .int (nI lm), .long (hs)])), (i3, .inl (ty 0, 60, .inl (tI b)))]) := by
  have hsg := sgM_lt hb tt
  refine gM_of RX8 rfl (by decide +kernel) (Nat.le_of_ble_eq_true rfl) ?_
  intro pg en s0 mi ag bl mth cd AA HH QQ C E hnm
  show gW pg l en r_X8_takes s0 mi ag bl mth cd 3 D AA HH QQ 0 [(0, .ref x0), (1, .int (nI c))] [] [(x0, .inr (6, [.int (nI th), .ref i1, .ref i2, .int (nI sd), .ref i3, .int (nI ln), .ref j1, .ref j2, .ref j3, .ref j4, .ref j5, .ref j6, .int (nI fm), .int (nI rd), .int (nI mt), .int (nI dr), .ref j7, .ref j8, .int (nI tt), .int (bI (wl)), .ref j9, .int (nI lm), .long (hs)])), (i3, .inl (ty 0, 60, .inl (tI b)))] 0 0
  refine g_aload_n C 0 rfl dX8_takes_0 ?_
  refine g_getf C wu_X8 0 rfl rfl 19 (by decide) wf_X8_157 rfl rfl dX8_takes_1 ?_
  refine g_if_eqB C wl 19 rfl dX8_takes_4 rfl (fun c4 => ?_) (fun c4 => ?_)
  · skip
    refine g_iconst C (nI 0) ic_0 dX8_takes_19 ?_
    refine g_st [.int (bI (tkM b ln tt wl c))] (congrArg (fun z => [Value.int z]) (by unfold tkM; first | (rw [c4]; rfl) | (rw [c4, decide_eq_true c12]; rfl) | (rw [c4, decide_eq_false c12]; rfl))) ?_
    refine g_istore_n C [(2, .int (bI (tkM b ln tt wl c))), (0, .ref x0), (1, .int (nI c))] dX8_takes_20 rfl (by decide) rfl ?_
    refine g_aload_n C 1 rfl dX8_takes_21 ?_
    refine g_dup C rfl dX8_takes_22 ?_
    refine g_getf C wu_X8 0 rfl rfl 18 (by decide) wf_X8_154 rfl rfl dX8_takes_23 ?_
    refine g_iload_n C 0 rfl dX8_takes_26 ?_
    refine g_if_eqB C (tkM b ln tt wl c) 34 rfl dX8_takes_27 rfl (fun c27 => ?_) (fun c27 => ?_)
    · skip
      refine g_iconst C (nI 0) ic_0 dX8_takes_34 ?_
      refine g_iadd C (nI (tt + 0)) dX8_takes_35 (nI_add _ _) ?_
      refine g_putf C wu_X8 tyX8 tyX8_ok nmX8 0 rfl rfl 18 (by decide) wf_X8_154 rfl rfl rfl rfl (Nat.le_of_ble_eq_true rfl) dX8_takes_36 [(x0, .inr (6, [.int (nI th), .ref i1, .ref i2, .int (nI sd), .ref i3, .int (nI ln), .ref j1, .ref j2, .ref j3, .ref j4, .ref j5, .ref j6, .int (nI fm), .int (nI rd), .int (nI mt), .int (nI dr), .ref j7, .ref j8, .int (nI (tt + 0)), .int (bI (wl)), .ref j9, .int (nI lm), .long (hs)])), (i3, .inl (ty 0, 60, .inl (tI b)))] rfl ?_
      refine g_iload_n C 0 rfl dX8_takes_39 ?_
      exact g_zret E (tkM b ln tt wl c) rfl dX8_takes_40 (by decide) (by decide) ⟨rfl, (by first | (rw [if_pos c27]; done) | (rw [if_pos c27]; rfl) | (rw [if_neg (show ¬ tkM b ln tt wl c = true by rw [c27]; decide)]; done) | (rw [if_neg (show ¬ tkM b ln tt wl c = true by rw [c27]; decide)]; rfl))⟩
    · skip
      refine g_iconst C (nI 1) ic_1 dX8_takes_30 ?_
      refine g_goto C 35 dX8_takes_31 rfl ?_
      refine g_iadd C (nI (tt + 1)) dX8_takes_35 (nI_add _ _) ?_
      refine g_putf C wu_X8 tyX8 tyX8_ok nmX8 0 rfl rfl 18 (by decide) wf_X8_154 rfl rfl rfl rfl (Nat.le_of_ble_eq_true rfl) dX8_takes_36 [(x0, .inr (6, [.int (nI th), .ref i1, .ref i2, .int (nI sd), .ref i3, .int (nI ln), .ref j1, .ref j2, .ref j3, .ref j4, .ref j5, .ref j6, .int (nI fm), .int (nI rd), .int (nI mt), .int (nI dr), .ref j7, .ref j8, .int (nI (tt + 1)), .int (bI (wl)), .ref j9, .int (nI lm), .long (hs)])), (i3, .inl (ty 0, 60, .inl (tI b)))] rfl ?_
      refine g_iload_n C 0 rfl dX8_takes_39 ?_
      exact g_zret E (tkM b ln tt wl c) rfl dX8_takes_40 (by decide) (by decide) ⟨rfl, (by first | (rw [if_pos c27]; done) | (rw [if_pos c27]; rfl) | (rw [if_neg (show ¬ tkM b ln tt wl c = true by rw [c27]; decide)]; done) | (rw [if_neg (show ¬ tkM b ln tt wl c = true by rw [c27]; decide)]; rfl))⟩
  · skip
    refine g_aload_n C 0 rfl dX8_takes_7 ?_
    refine g_callV C (nA := 0) (ci := 6) (q0 := 0) (As := []) (wr := []) (k_X8_sign l D ty x0 th i1 i2 sd i3 ln j1 j2 j3 j4 j5 j6 fm rd mt dr j7 j8 tt wl j9 lm hs b (by omega) (by omega)) wm_X8_161 wn_X8_sign wv_X8_sign wi_X8 wc_X8_sign rfl (by decide +kernel) ⟨(Nat.le_of_ble_eq_true rfl), (Nat.le_of_ble_eq_true rfl)⟩ ⟨rfl, rfl⟩ dX8_takes_8 ⟨Nat.zero_le _, Nat.zero_le _⟩ rfl rfl rfl [0, 1] [] rfl rfl rfl rfl (by decide) (Nat.le_of_ble_eq_true rfl) rfl (fun r W1 hp => ?_)
    obtain ⟨rfl, rfl⟩ := hp
    refine g_fix [.int (nI (sgM b ln tt))] [(x0, .inr (6, [.int (nI th), .ref i1, .ref i2, .int (nI sd), .ref i3, .int (nI ln), .ref j1, .ref j2, .ref j3, .ref j4, .ref j5, .ref j6, .int (nI fm), .int (nI rd), .int (nI mt), .int (nI dr), .ref j7, .ref j8, .int (nI tt), .int (bI (wl)), .ref j9, .int (nI lm), .long (hs)])), (i3, .inl (ty 0, 60, .inl (tI b)))] [0, 1] rfl rfl rfl ?_
    refine g_iload_n C 1 rfl dX8_takes_11 ?_
    refine g_icmp_neN C (sgM b ln tt) c 19 rfl rfl (by omega) (by omega) dX8_takes_12 rfl (fun c12 => ?_) (fun c12 => ?_)
    · skip
      refine g_iconst C (nI 0) ic_0 dX8_takes_19 ?_
      refine g_st [.int (bI (tkM b ln tt wl c))] (congrArg (fun z => [Value.int z]) (by unfold tkM; first | (rw [c4]; rfl) | (rw [c4, decide_eq_true c12]; rfl) | (rw [c4, decide_eq_false c12]; rfl))) ?_
      refine g_istore_n C [(2, .int (bI (tkM b ln tt wl c))), (0, .ref x0), (1, .int (nI c))] dX8_takes_20 rfl (by decide) rfl ?_
      refine g_aload_n C 1 rfl dX8_takes_21 ?_
      refine g_dup C rfl dX8_takes_22 ?_
      refine g_getf C wu_X8 0 rfl rfl 18 (by decide) wf_X8_154 rfl rfl dX8_takes_23 ?_
      refine g_iload_n C 0 rfl dX8_takes_26 ?_
      refine g_if_eqB C (tkM b ln tt wl c) 34 rfl dX8_takes_27 rfl (fun c27 => ?_) (fun c27 => ?_)
      · skip
        refine g_iconst C (nI 0) ic_0 dX8_takes_34 ?_
        refine g_iadd C (nI (tt + 0)) dX8_takes_35 (nI_add _ _) ?_
        refine g_putf C wu_X8 tyX8 tyX8_ok nmX8 0 rfl rfl 18 (by decide) wf_X8_154 rfl rfl rfl rfl (Nat.le_of_ble_eq_true rfl) dX8_takes_36 [(x0, .inr (6, [.int (nI th), .ref i1, .ref i2, .int (nI sd), .ref i3, .int (nI ln), .ref j1, .ref j2, .ref j3, .ref j4, .ref j5, .ref j6, .int (nI fm), .int (nI rd), .int (nI mt), .int (nI dr), .ref j7, .ref j8, .int (nI (tt + 0)), .int (bI (wl)), .ref j9, .int (nI lm), .long (hs)])), (i3, .inl (ty 0, 60, .inl (tI b)))] rfl ?_
        refine g_iload_n C 0 rfl dX8_takes_39 ?_
        exact g_zret E (tkM b ln tt wl c) rfl dX8_takes_40 (by decide) (by decide) ⟨rfl, (by first | (rw [if_pos c27]; done) | (rw [if_pos c27]; rfl) | (rw [if_neg (show ¬ tkM b ln tt wl c = true by rw [c27]; decide)]; done) | (rw [if_neg (show ¬ tkM b ln tt wl c = true by rw [c27]; decide)]; rfl))⟩
      · skip
        refine g_iconst C (nI 1) ic_1 dX8_takes_30 ?_
        refine g_goto C 35 dX8_takes_31 rfl ?_
        refine g_iadd C (nI (tt + 1)) dX8_takes_35 (nI_add _ _) ?_
        refine g_putf C wu_X8 tyX8 tyX8_ok nmX8 0 rfl rfl 18 (by decide) wf_X8_154 rfl rfl rfl rfl (Nat.le_of_ble_eq_true rfl) dX8_takes_36 [(x0, .inr (6, [.int (nI th), .ref i1, .ref i2, .int (nI sd), .ref i3, .int (nI ln), .ref j1, .ref j2, .ref j3, .ref j4, .ref j5, .ref j6, .int (nI fm), .int (nI rd), .int (nI mt), .int (nI dr), .ref j7, .ref j8, .int (nI (tt + 1)), .int (bI (wl)), .ref j9, .int (nI lm), .long (hs)])), (i3, .inl (ty 0, 60, .inl (tI b)))] rfl ?_
        refine g_iload_n C 0 rfl dX8_takes_39 ?_
        exact g_zret E (tkM b ln tt wl c) rfl dX8_takes_40 (by decide) (by decide) ⟨rfl, (by first | (rw [if_pos c27]; done) | (rw [if_pos c27]; rfl) | (rw [if_neg (show ¬ tkM b ln tt wl c = true by rw [c27]; decide)]; done) | (rw [if_neg (show ¬ tkM b ln tt wl c = true by rw [c27]; decide)]; rfl))⟩
    · skip
      refine g_iconst C (nI 1) ic_1 dX8_takes_15 ?_
      refine g_goto C 20 dX8_takes_16 rfl ?_
      refine g_st [.int (bI (tkM b ln tt wl c))] (congrArg (fun z => [Value.int z]) (by unfold tkM; first | (rw [c4]; rfl) | (rw [c4, decide_eq_true c12]; rfl) | (rw [c4, decide_eq_false c12]; rfl))) ?_
      refine g_istore_n C [(2, .int (bI (tkM b ln tt wl c))), (0, .ref x0), (1, .int (nI c))] dX8_takes_20 rfl (by decide) rfl ?_
      refine g_aload_n C 1 rfl dX8_takes_21 ?_
      refine g_dup C rfl dX8_takes_22 ?_
      refine g_getf C wu_X8 0 rfl rfl 18 (by decide) wf_X8_154 rfl rfl dX8_takes_23 ?_
      refine g_iload_n C 0 rfl dX8_takes_26 ?_
      refine g_if_eqB C (tkM b ln tt wl c) 34 rfl dX8_takes_27 rfl (fun c27 => ?_) (fun c27 => ?_)
      · skip
        refine g_iconst C (nI 0) ic_0 dX8_takes_34 ?_
        refine g_iadd C (nI (tt + 0)) dX8_takes_35 (nI_add _ _) ?_
        refine g_putf C wu_X8 tyX8 tyX8_ok nmX8 0 rfl rfl 18 (by decide) wf_X8_154 rfl rfl rfl rfl (Nat.le_of_ble_eq_true rfl) dX8_takes_36 [(x0, .inr (6, [.int (nI th), .ref i1, .ref i2, .int (nI sd), .ref i3, .int (nI ln), .ref j1, .ref j2, .ref j3, .ref j4, .ref j5, .ref j6, .int (nI fm), .int (nI rd), .int (nI mt), .int (nI dr), .ref j7, .ref j8, .int (nI (tt + 0)), .int (bI (wl)), .ref j9, .int (nI lm), .long (hs)])), (i3, .inl (ty 0, 60, .inl (tI b)))] rfl ?_
        refine g_iload_n C 0 rfl dX8_takes_39 ?_
        exact g_zret E (tkM b ln tt wl c) rfl dX8_takes_40 (by decide) (by decide) ⟨rfl, (by first | (rw [if_pos c27]; done) | (rw [if_pos c27]; rfl) | (rw [if_neg (show ¬ tkM b ln tt wl c = true by rw [c27]; decide)]; done) | (rw [if_neg (show ¬ tkM b ln tt wl c = true by rw [c27]; decide)]; rfl))⟩
      · skip
        refine g_iconst C (nI 1) ic_1 dX8_takes_30 ?_
        refine g_goto C 35 dX8_takes_31 rfl ?_
        refine g_iadd C (nI (tt + 1)) dX8_takes_35 (nI_add _ _) ?_
        refine g_putf C wu_X8 tyX8 tyX8_ok nmX8 0 rfl rfl 18 (by decide) wf_X8_154 rfl rfl rfl rfl (Nat.le_of_ble_eq_true rfl) dX8_takes_36 [(x0, .inr (6, [.int (nI th), .ref i1, .ref i2, .int (nI sd), .ref i3, .int (nI ln), .ref j1, .ref j2, .ref j3, .ref j4, .ref j5, .ref j6, .int (nI fm), .int (nI rd), .int (nI mt), .int (nI dr), .ref j7, .ref j8, .int (nI (tt + 1)), .int (bI (wl)), .ref j9, .int (nI lm), .long (hs)])), (i3, .inl (ty 0, 60, .inl (tI b)))] rfl ?_
        refine g_iload_n C 0 rfl dX8_takes_39 ?_
        exact g_zret E (tkM b ln tt wl c) rfl dX8_takes_40 (by decide) (by decide) ⟨rfl, (by first | (rw [if_pos c27]; done) | (rw [if_pos c27]; rfl) | (rw [if_neg (show ¬ tkM b ln tt wl c = true by rw [c27]; decide)]; done) | (rw [if_neg (show ¬ tkM b ln tt wl c = true by rw [c27]; decide)]; rfl))⟩
def r_X8_wantsTerm : Room := { frames := 1, cells := 0, slots := 0, locals := 22 }
set_option maxRecDepth 100000 in
set_option maxHeartbeats 4000000 in
theorem k_X8_wantsTerm (l : Launch) (D : va_G) (ty : Nat → ClassId) (x0 : Nat) (th : Nat) (i1 : Nat) (i2 : Nat) (sd : Nat) (i3 : Nat) (ln : Nat) (j1 : Nat) (j2 : Nat) (j3 : Nat) (j4 : Nat) (j5 : Nat) (j6 : Nat) (fm : Nat) (rd : Nat) (mt : Nat) (dr : Nat) (j7 : Nat) (j8 : Nat) (tt : Nat) (wl : Bool) (j9 : Nat) (lm : Nat) (hs : Int64) (b : Nat → Nat) (hl : ln ≤ 60) (ht : tt < 2 ^ 31) (hb : ∀ j, j < ln → b j < 128) : gM l D ty yX8_wantsTerm cX8_wantsTerm 3 (some (FieldType.int : FieldType)) r_X8_wantsTerm 0 0 [.ref x0] [(x0, .inr (6, [.int (nI th), .ref i1, .ref i2, .int (nI sd), .ref i3, .int (nI ln), .ref j1, .ref j2, .ref j3, .ref j4, .ref j5, .ref j6, .int (nI fm), .int (nI rd), .int (nI mt), .int (nI dr), .ref j7, .ref j8, .int (nI tt), .int (bI (wl)), .ref j9, .int (nI lm), .long (hs)])), (i3, .inl (ty 0, 60, .inl (tI b)))] (fun (zr : Option Value) (zW : va_W) => zr = some (.int (eA (tmc (sgM b ln tt)))) ∧ zW = [(x0, .inr (6, [.int (nI th), .ref i1, .ref i2, .int (nI sd), .ref i3, .int (nI ln), .ref j1, .ref j2, .ref j3, .ref j4, .ref j5, .ref j6, .int (nI fm), .int (nI rd), .int (nI mt), .int (nI dr), .ref j7, .ref j8, .int (nI (if wtW b ln tt wl = true then tt + 1 else tt)), .int (bI (wtW b ln tt wl)), .ref j9, .int (nI lm), .long (hs)])), (i3, .inl (ty 0, 60, .inl (tI b)))]) := by
  have hsg := sgM_lt hb tt
  have h256 := tmc_128 hsg
  refine gM_of RX8 rfl (by decide +kernel) (Nat.le_of_ble_eq_true rfl) ?_
  intro pg en s0 mi ag bl mth cd AA HH QQ C E hnm
  show gW pg l en r_X8_wantsTerm s0 mi ag bl mth cd 3 D AA HH QQ 0 [(0, .ref x0)] [] [(x0, .inr (6, [.int (nI th), .ref i1, .ref i2, .int (nI sd), .ref i3, .int (nI ln), .ref j1, .ref j2, .ref j3, .ref j4, .ref j5, .ref j6, .int (nI fm), .int (nI rd), .int (nI mt), .int (nI dr), .ref j7, .ref j8, .int (nI tt), .int (bI (wl)), .ref j9, .int (nI lm), .long (hs)])), (i3, .inl (ty 0, 60, .inl (tI b)))] 0 0
  refine g_aload_n C 0 rfl dX8_wantsTerm_0 ?_
  refine g_callV C (nA := 0) (ci := 6) (q0 := 0) (As := []) (wr := []) (k_X8_sign l D ty x0 th i1 i2 sd i3 ln j1 j2 j3 j4 j5 j6 fm rd mt dr j7 j8 tt wl j9 lm hs b (by omega) (by omega)) wm_X8_161 wn_X8_sign wv_X8_sign wi_X8 wc_X8_sign rfl (by decide +kernel) ⟨(Nat.le_of_ble_eq_true rfl), (Nat.le_of_ble_eq_true rfl)⟩ ⟨rfl, rfl⟩ dX8_wantsTerm_1 ⟨Nat.zero_le _, Nat.zero_le _⟩ rfl rfl rfl [0, 1] [] rfl rfl rfl rfl (by decide) (Nat.le_of_ble_eq_true rfl) rfl (fun r W1 hp => ?_)
  obtain ⟨rfl, rfl⟩ := hp
  refine g_fix [.int (nI (sgM b ln tt))] [(x0, .inr (6, [.int (nI th), .ref i1, .ref i2, .int (nI sd), .ref i3, .int (nI ln), .ref j1, .ref j2, .ref j3, .ref j4, .ref j5, .ref j6, .int (nI fm), .int (nI rd), .int (nI mt), .int (nI dr), .ref j7, .ref j8, .int (nI tt), .int (bI (wl)), .ref j9, .int (nI lm), .long (hs)])), (i3, .inl (ty 0, 60, .inl (tI b)))] [0, 1] rfl rfl rfl ?_
  refine g_istore_n C [(1, .int (nI (sgM b ln tt))), (0, .ref x0)] dX8_wantsTerm_4 rfl (by decide) rfl ?_
  refine g_iload_n C 0 rfl dX8_wantsTerm_5 ?_
  refine g_bipush C (nI 48) bp_48 dX8_wantsTerm_6 ?_
  refine g_bipush C (nI 51) bp_51 dX8_wantsTerm_8 ?_
  refine g_callS0 C (nA := 3) (k_X8_in l D ty ((nI (sgM b ln tt))) ((nI 48)) ((nI 51)) ) wm_X8_54 ws_X8_in wi_X8 wc_X8_in rfl (by decide +kernel) ⟨(Nat.le_of_ble_eq_true rfl), (Nat.le_of_ble_eq_true rfl)⟩ ⟨rfl, rfl⟩ dX8_wantsTerm_10 (fun _ _ h => h.2) (Nat.le_of_ble_eq_true rfl) rfl ⟨Nat.zero_le _, Nat.zero_le _⟩ (fun r hp => ?_)
  obtain ⟨rfl, -⟩ := hp
  refine g_st [.int (bI (inI ((nI (sgM b ln tt))) ((nI 48)) ((nI 51))))] rfl ?_
  refine g_if_eqB C (inI ((nI (sgM b ln tt))) ((nI 48)) ((nI 51))) 23 rfl dX8_wantsTerm_13 rfl (fun c13 => ?_) (fun c13 => ?_)
  · skip
    refine g_iload_n C 0 rfl dX8_wantsTerm_23 ?_
    refine g_bipush C (nI 120) bp_120 dX8_wantsTerm_24 ?_
    refine g_icmp_neN C (sgM b ln tt) 120 33 rfl rfl (by omega) (by omega) dX8_wantsTerm_26 rfl (fun c26 => ?_) (fun c26 => ?_)
    · skip
      refine g_iload_n C 0 rfl dX8_wantsTerm_33 ?_
      refine g_bipush C (nI 121) bp_121 dX8_wantsTerm_34 ?_
      refine g_icmp_neN C (sgM b ln tt) 121 43 rfl rfl (by omega) (by omega) dX8_wantsTerm_36 rfl (fun c36 => ?_) (fun c36 => ?_)
      · skip
        refine g_iload_n C 0 rfl dX8_wantsTerm_43 ?_
        refine g_bipush C (nI 122) bp_122 dX8_wantsTerm_44 ?_
        refine g_icmp_neN C (sgM b ln tt) 122 54 rfl rfl (by omega) (by omega) dX8_wantsTerm_46 rfl (fun c46 => ?_) (fun c46 => ?_)
        · skip
          refine g_iload_n C 0 rfl dX8_wantsTerm_54 ?_
          refine g_bipush C (nI 119) bp_119 dX8_wantsTerm_55 ?_
          refine g_icmp_neN C (sgM b ln tt) 119 65 rfl rfl (by omega) (by omega) dX8_wantsTerm_57 rfl (fun c57 => ?_) (fun c57 => ?_)
          · skip
            refine g_iconst C (-1) ic_m1 dX8_wantsTerm_65 ?_
            refine g_st [.int (eA (tmc (sgM b ln tt)))] (congrArg (fun z => [Value.int z]) (by have hd := c13; rw [inI_N (by omega) (by omega) (by omega)] at hd; simp only [decide_eq_true_eq, decide_eq_false_iff_not] at hd; rw [show tmc (sgM b ln tt) = 256 from by unfold tmc; (repeat' split) <;> omega]; rfl)) ?_
            refine g_istore_n C [(2, .int (eA (tmc (sgM b ln tt)))), (1, .int (nI (sgM b ln tt))), (0, .ref x0)] dX8_wantsTerm_66 rfl (by decide) rfl ?_
            refine g_aload_n C 2 rfl dX8_wantsTerm_67 ?_
            refine g_aload_n C 2 rfl dX8_wantsTerm_68 ?_
            refine g_getf C wu_X8 0 rfl rfl 19 (by decide) wf_X8_157 rfl rfl dX8_wantsTerm_69 ?_
            refine g_if_eqB C wl 84 rfl dX8_wantsTerm_72 rfl (fun c72 => ?_) (fun c72 => ?_)
            · skip
              refine g_iconst C (nI 0) ic_0 dX8_wantsTerm_84 ?_
              refine g_st [.int (bI (wtW b ln tt wl)), .ref x0] (by rw [show wtW b ln tt wl = (wl && decide (tmc (sgM b ln tt) ≠ 256)) from rfl]; first | (rw [c72]; rfl) | (rw [c72, decide_eq_true (show tmc (sgM b ln tt) ≠ 256 from fun z => c77 ((eA_m1 h256).mpr z))]; rfl) | (rw [c72, decide_eq_false (show ¬ tmc (sgM b ln tt) ≠ 256 from fun z => z ((eA_m1 h256).mp c77))]; rfl)) ?_
              refine g_putf C wu_X8 tyX8 tyX8_ok nmX8 0 rfl rfl 19 (by decide) wf_X8_157 rfl rfl (bI_nar _) (bI_fits _) (Nat.le_of_ble_eq_true rfl) dX8_wantsTerm_85 [(x0, .inr (6, [.int (nI th), .ref i1, .ref i2, .int (nI sd), .ref i3, .int (nI ln), .ref j1, .ref j2, .ref j3, .ref j4, .ref j5, .ref j6, .int (nI fm), .int (nI rd), .int (nI mt), .int (nI dr), .ref j7, .ref j8, .int (nI tt), .int (bI (wtW b ln tt wl)), .ref j9, .int (nI lm), .long (hs)])), (i3, .inl (ty 0, 60, .inl (tI b)))] rfl ?_
              refine g_aload_n C 2 rfl dX8_wantsTerm_88 ?_
              refine g_dup C rfl dX8_wantsTerm_89 ?_
              refine g_getf C wu_X8 0 rfl rfl 18 (by decide) wf_X8_154 rfl rfl dX8_wantsTerm_90 ?_
              refine g_aload_n C 2 rfl dX8_wantsTerm_93 ?_
              refine g_getf C wu_X8 0 rfl rfl 19 (by decide) wf_X8_157 rfl rfl dX8_wantsTerm_94 ?_
              refine g_if_eqB C (wtW b ln tt wl) 104 rfl dX8_wantsTerm_97 rfl (fun c97 => ?_) (fun c97 => ?_)
              · skip
                refine g_iconst C (nI 0) ic_0 dX8_wantsTerm_104 ?_
                refine g_iadd C (nI (tt + 0)) dX8_wantsTerm_105 (nI_add _ _) ?_
                refine g_putf C wu_X8 tyX8 tyX8_ok nmX8 0 rfl rfl 18 (by decide) wf_X8_154 rfl rfl rfl rfl (Nat.le_of_ble_eq_true rfl) dX8_wantsTerm_106 [(x0, .inr (6, [.int (nI th), .ref i1, .ref i2, .int (nI sd), .ref i3, .int (nI ln), .ref j1, .ref j2, .ref j3, .ref j4, .ref j5, .ref j6, .int (nI fm), .int (nI rd), .int (nI mt), .int (nI dr), .ref j7, .ref j8, .int (nI (tt + 0)), .int (bI (wtW b ln tt wl)), .ref j9, .int (nI lm), .long (hs)])), (i3, .inl (ty 0, 60, .inl (tI b)))] rfl ?_
                refine g_iload_n C 0 rfl dX8_wantsTerm_109 ?_
                exact g_iret E dX8_wantsTerm_110 (by decide) (by decide) ⟨rfl, (by first | (rw [if_pos c97]; done) | (rw [if_pos c97]; rfl) | (rw [if_neg (show ¬ wtW b ln tt wl = true by rw [c97]; decide)]; done) | (rw [if_neg (show ¬ wtW b ln tt wl = true by rw [c97]; decide)]; rfl))⟩
              · skip
                refine g_iconst C (nI 1) ic_1 dX8_wantsTerm_100 ?_
                refine g_goto C 105 dX8_wantsTerm_101 rfl ?_
                refine g_iadd C (nI (tt + 1)) dX8_wantsTerm_105 (nI_add _ _) ?_
                refine g_putf C wu_X8 tyX8 tyX8_ok nmX8 0 rfl rfl 18 (by decide) wf_X8_154 rfl rfl rfl rfl (Nat.le_of_ble_eq_true rfl) dX8_wantsTerm_106 [(x0, .inr (6, [.int (nI th), .ref i1, .ref i2, .int (nI sd), .ref i3, .int (nI ln), .ref j1, .ref j2, .ref j3, .ref j4, .ref j5, .ref j6, .int (nI fm), .int (nI rd), .int (nI mt), .int (nI dr), .ref j7, .ref j8, .int (nI (tt + 1)), .int (bI (wtW b ln tt wl)), .ref j9, .int (nI lm), .long (hs)])), (i3, .inl (ty 0, 60, .inl (tI b)))] rfl ?_
                refine g_iload_n C 0 rfl dX8_wantsTerm_109 ?_
                exact g_iret E dX8_wantsTerm_110 (by decide) (by decide) ⟨rfl, (by first | (rw [if_pos c97]; done) | (rw [if_pos c97]; rfl) | (rw [if_neg (show ¬ wtW b ln tt wl = true by rw [c97]; decide)]; done) | (rw [if_neg (show ¬ wtW b ln tt wl = true by rw [c97]; decide)]; rfl))⟩
            · skip
              refine g_iload_n C 0 rfl dX8_wantsTerm_75 ?_
              refine g_iconst C (-1) ic_m1 dX8_wantsTerm_76 ?_
              refine g_icmp_eq C 84 dX8_wantsTerm_77 rfl (fun c77 => ?_) (fun c77 => ?_)
              · skip
                refine g_iconst C (nI 0) ic_0 dX8_wantsTerm_84 ?_
                refine g_st [.int (bI (wtW b ln tt wl)), .ref x0] (by rw [show wtW b ln tt wl = (wl && decide (tmc (sgM b ln tt) ≠ 256)) from rfl]; first | (rw [c72]; rfl) | (rw [c72, decide_eq_true (show tmc (sgM b ln tt) ≠ 256 from fun z => c77 ((eA_m1 h256).mpr z))]; rfl) | (rw [c72, decide_eq_false (show ¬ tmc (sgM b ln tt) ≠ 256 from fun z => z ((eA_m1 h256).mp c77))]; rfl)) ?_
                refine g_putf C wu_X8 tyX8 tyX8_ok nmX8 0 rfl rfl 19 (by decide) wf_X8_157 rfl rfl (bI_nar _) (bI_fits _) (Nat.le_of_ble_eq_true rfl) dX8_wantsTerm_85 [(x0, .inr (6, [.int (nI th), .ref i1, .ref i2, .int (nI sd), .ref i3, .int (nI ln), .ref j1, .ref j2, .ref j3, .ref j4, .ref j5, .ref j6, .int (nI fm), .int (nI rd), .int (nI mt), .int (nI dr), .ref j7, .ref j8, .int (nI tt), .int (bI (wtW b ln tt wl)), .ref j9, .int (nI lm), .long (hs)])), (i3, .inl (ty 0, 60, .inl (tI b)))] rfl ?_
                refine g_aload_n C 2 rfl dX8_wantsTerm_88 ?_
                refine g_dup C rfl dX8_wantsTerm_89 ?_
                refine g_getf C wu_X8 0 rfl rfl 18 (by decide) wf_X8_154 rfl rfl dX8_wantsTerm_90 ?_
                refine g_aload_n C 2 rfl dX8_wantsTerm_93 ?_
                refine g_getf C wu_X8 0 rfl rfl 19 (by decide) wf_X8_157 rfl rfl dX8_wantsTerm_94 ?_
                refine g_if_eqB C (wtW b ln tt wl) 104 rfl dX8_wantsTerm_97 rfl (fun c97 => ?_) (fun c97 => ?_)
                · skip
                  refine g_iconst C (nI 0) ic_0 dX8_wantsTerm_104 ?_
                  refine g_iadd C (nI (tt + 0)) dX8_wantsTerm_105 (nI_add _ _) ?_
                  refine g_putf C wu_X8 tyX8 tyX8_ok nmX8 0 rfl rfl 18 (by decide) wf_X8_154 rfl rfl rfl rfl (Nat.le_of_ble_eq_true rfl) dX8_wantsTerm_106 [(x0, .inr (6, [.int (nI th), .ref i1, .ref i2, .int (nI sd), .ref i3, .int (nI ln), .ref j1, .ref j2, .ref j3, .ref j4, .ref j5, .ref j6, .int (nI fm), .int (nI rd), .int (nI mt), .int (nI dr), .ref j7, .ref j8, .int (nI (tt + 0)), .int (bI (wtW b ln tt wl)), .ref j9, .int (nI lm), .long (hs)])), (i3, .inl (ty 0, 60, .inl (tI b)))] rfl ?_
                  refine g_iload_n C 0 rfl dX8_wantsTerm_109 ?_
                  exact g_iret E dX8_wantsTerm_110 (by decide) (by decide) ⟨rfl, (by first | (rw [if_pos c97]; done) | (rw [if_pos c97]; rfl) | (rw [if_neg (show ¬ wtW b ln tt wl = true by rw [c97]; decide)]; done) | (rw [if_neg (show ¬ wtW b ln tt wl = true by rw [c97]; decide)]; rfl))⟩
                · skip
                  refine g_iconst C (nI 1) ic_1 dX8_wantsTerm_100 ?_
                  refine g_goto C 105 dX8_wantsTerm_101 rfl ?_
                  refine g_iadd C (nI (tt + 1)) dX8_wantsTerm_105 (nI_add _ _) ?_
                  refine g_putf C wu_X8 tyX8 tyX8_ok nmX8 0 rfl rfl 18 (by decide) wf_X8_154 rfl rfl rfl rfl (Nat.le_of_ble_eq_true rfl) dX8_wantsTerm_106 [(x0, .inr (6, [.int (nI th), .ref i1, .ref i2, .int (nI sd), .ref i3, .int (nI ln), .ref j1, .ref j2, .ref j3, .ref j4, .ref j5, .ref j6, .int (nI fm), .int (nI rd), .int (nI mt), .int (nI dr), .ref j7, .ref j8, .int (nI (tt + 1)), .int (bI (wtW b ln tt wl)), .ref j9, .int (nI lm), .long (hs)])), (i3, .inl (ty 0, 60, .inl (tI b)))] rfl ?_
                  refine g_iload_n C 0 rfl dX8_wantsTerm_109 ?_
                  exact g_iret E dX8_wantsTerm_110 (by decide) (by decide) ⟨rfl, (by first | (rw [if_pos c97]; done) | (rw [if_pos c97]; rfl) | (rw [if_neg (show ¬ wtW b ln tt wl = true by rw [c97]; decide)]; done) | (rw [if_neg (show ¬ wtW b ln tt wl = true by rw [c97]; decide)]; rfl))⟩
              · skip
                refine g_iconst C (nI 1) ic_1 dX8_wantsTerm_80 ?_
                refine g_goto C 85 dX8_wantsTerm_81 rfl ?_
                refine g_st [.int (bI (wtW b ln tt wl)), .ref x0] (by rw [show wtW b ln tt wl = (wl && decide (tmc (sgM b ln tt) ≠ 256)) from rfl]; first | (rw [c72]; rfl) | (rw [c72, decide_eq_true (show tmc (sgM b ln tt) ≠ 256 from fun z => c77 ((eA_m1 h256).mpr z))]; rfl) | (rw [c72, decide_eq_false (show ¬ tmc (sgM b ln tt) ≠ 256 from fun z => z ((eA_m1 h256).mp c77))]; rfl)) ?_
                refine g_putf C wu_X8 tyX8 tyX8_ok nmX8 0 rfl rfl 19 (by decide) wf_X8_157 rfl rfl (bI_nar _) (bI_fits _) (Nat.le_of_ble_eq_true rfl) dX8_wantsTerm_85 [(x0, .inr (6, [.int (nI th), .ref i1, .ref i2, .int (nI sd), .ref i3, .int (nI ln), .ref j1, .ref j2, .ref j3, .ref j4, .ref j5, .ref j6, .int (nI fm), .int (nI rd), .int (nI mt), .int (nI dr), .ref j7, .ref j8, .int (nI tt), .int (bI (wtW b ln tt wl)), .ref j9, .int (nI lm), .long (hs)])), (i3, .inl (ty 0, 60, .inl (tI b)))] rfl ?_
                refine g_aload_n C 2 rfl dX8_wantsTerm_88 ?_
                refine g_dup C rfl dX8_wantsTerm_89 ?_
                refine g_getf C wu_X8 0 rfl rfl 18 (by decide) wf_X8_154 rfl rfl dX8_wantsTerm_90 ?_
                refine g_aload_n C 2 rfl dX8_wantsTerm_93 ?_
                refine g_getf C wu_X8 0 rfl rfl 19 (by decide) wf_X8_157 rfl rfl dX8_wantsTerm_94 ?_
                refine g_if_eqB C (wtW b ln tt wl) 104 rfl dX8_wantsTerm_97 rfl (fun c97 => ?_) (fun c97 => ?_)
                · skip
                  refine g_iconst C (nI 0) ic_0 dX8_wantsTerm_104 ?_
                  refine g_iadd C (nI (tt + 0)) dX8_wantsTerm_105 (nI_add _ _) ?_
                  refine g_putf C wu_X8 tyX8 tyX8_ok nmX8 0 rfl rfl 18 (by decide) wf_X8_154 rfl rfl rfl rfl (Nat.le_of_ble_eq_true rfl) dX8_wantsTerm_106 [(x0, .inr (6, [.int (nI th), .ref i1, .ref i2, .int (nI sd), .ref i3, .int (nI ln), .ref j1, .ref j2, .ref j3, .ref j4, .ref j5, .ref j6, .int (nI fm), .int (nI rd), .int (nI mt), .int (nI dr), .ref j7, .ref j8, .int (nI (tt + 0)), .int (bI (wtW b ln tt wl)), .ref j9, .int (nI lm), .long (hs)])), (i3, .inl (ty 0, 60, .inl (tI b)))] rfl ?_
                  refine g_iload_n C 0 rfl dX8_wantsTerm_109 ?_
                  exact g_iret E dX8_wantsTerm_110 (by decide) (by decide) ⟨rfl, (by first | (rw [if_pos c97]; done) | (rw [if_pos c97]; rfl) | (rw [if_neg (show ¬ wtW b ln tt wl = true by rw [c97]; decide)]; done) | (rw [if_neg (show ¬ wtW b ln tt wl = true by rw [c97]; decide)]; rfl))⟩
                · skip
                  refine g_iconst C (nI 1) ic_1 dX8_wantsTerm_100 ?_
                  refine g_goto C 105 dX8_wantsTerm_101 rfl ?_
                  refine g_iadd C (nI (tt + 1)) dX8_wantsTerm_105 (nI_add _ _) ?_
                  refine g_putf C wu_X8 tyX8 tyX8_ok nmX8 0 rfl rfl 18 (by decide) wf_X8_154 rfl rfl rfl rfl (Nat.le_of_ble_eq_true rfl) dX8_wantsTerm_106 [(x0, .inr (6, [.int (nI th), .ref i1, .ref i2, .int (nI sd), .ref i3, .int (nI ln), .ref j1, .ref j2, .ref j3, .ref j4, .ref j5, .ref j6, .int (nI fm), .int (nI rd), .int (nI mt), .int (nI dr), .ref j7, .ref j8, .int (nI (tt + 1)), .int (bI (wtW b ln tt wl)), .ref j9, .int (nI lm), .long (hs)])), (i3, .inl (ty 0, 60, .inl (tI b)))] rfl ?_
                  refine g_iload_n C 0 rfl dX8_wantsTerm_109 ?_
                  exact g_iret E dX8_wantsTerm_110 (by decide) (by decide) ⟨rfl, (by first | (rw [if_pos c97]; done) | (rw [if_pos c97]; rfl) | (rw [if_neg (show ¬ wtW b ln tt wl = true by rw [c97]; decide)]; done) | (rw [if_neg (show ¬ wtW b ln tt wl = true by rw [c97]; decide)]; rfl))⟩
          · skip
            refine g_bipush C (nI 7) bp_7 dX8_wantsTerm_60 ?_
            refine g_goto C 66 dX8_wantsTerm_62 rfl ?_
            refine g_st [.int (eA (tmc (sgM b ln tt)))] (congrArg (fun z => [Value.int z]) (by have hd := c13; rw [inI_N (by omega) (by omega) (by omega)] at hd; simp only [decide_eq_true_eq, decide_eq_false_iff_not] at hd; rw [show tmc (sgM b ln tt) = 7 from by unfold tmc; (repeat' split) <;> omega]; rfl)) ?_
            refine g_istore_n C [(2, .int (eA (tmc (sgM b ln tt)))), (1, .int (nI (sgM b ln tt))), (0, .ref x0)] dX8_wantsTerm_66 rfl (by decide) rfl ?_
            refine g_aload_n C 2 rfl dX8_wantsTerm_67 ?_
            refine g_aload_n C 2 rfl dX8_wantsTerm_68 ?_
            refine g_getf C wu_X8 0 rfl rfl 19 (by decide) wf_X8_157 rfl rfl dX8_wantsTerm_69 ?_
            refine g_if_eqB C wl 84 rfl dX8_wantsTerm_72 rfl (fun c72 => ?_) (fun c72 => ?_)
            · skip
              refine g_iconst C (nI 0) ic_0 dX8_wantsTerm_84 ?_
              refine g_st [.int (bI (wtW b ln tt wl)), .ref x0] (by rw [show wtW b ln tt wl = (wl && decide (tmc (sgM b ln tt) ≠ 256)) from rfl]; first | (rw [c72]; rfl) | (rw [c72, decide_eq_true (show tmc (sgM b ln tt) ≠ 256 from fun z => c77 ((eA_m1 h256).mpr z))]; rfl) | (rw [c72, decide_eq_false (show ¬ tmc (sgM b ln tt) ≠ 256 from fun z => z ((eA_m1 h256).mp c77))]; rfl)) ?_
              refine g_putf C wu_X8 tyX8 tyX8_ok nmX8 0 rfl rfl 19 (by decide) wf_X8_157 rfl rfl (bI_nar _) (bI_fits _) (Nat.le_of_ble_eq_true rfl) dX8_wantsTerm_85 [(x0, .inr (6, [.int (nI th), .ref i1, .ref i2, .int (nI sd), .ref i3, .int (nI ln), .ref j1, .ref j2, .ref j3, .ref j4, .ref j5, .ref j6, .int (nI fm), .int (nI rd), .int (nI mt), .int (nI dr), .ref j7, .ref j8, .int (nI tt), .int (bI (wtW b ln tt wl)), .ref j9, .int (nI lm), .long (hs)])), (i3, .inl (ty 0, 60, .inl (tI b)))] rfl ?_
              refine g_aload_n C 2 rfl dX8_wantsTerm_88 ?_
              refine g_dup C rfl dX8_wantsTerm_89 ?_
              refine g_getf C wu_X8 0 rfl rfl 18 (by decide) wf_X8_154 rfl rfl dX8_wantsTerm_90 ?_
              refine g_aload_n C 2 rfl dX8_wantsTerm_93 ?_
              refine g_getf C wu_X8 0 rfl rfl 19 (by decide) wf_X8_157 rfl rfl dX8_wantsTerm_94 ?_
              refine g_if_eqB C (wtW b ln tt wl) 104 rfl dX8_wantsTerm_97 rfl (fun c97 => ?_) (fun c97 => ?_)
              · skip
                refine g_iconst C (nI 0) ic_0 dX8_wantsTerm_104 ?_
                refine g_iadd C (nI (tt + 0)) dX8_wantsTerm_105 (nI_add _ _) ?_
                refine g_putf C wu_X8 tyX8 tyX8_ok nmX8 0 rfl rfl 18 (by decide) wf_X8_154 rfl rfl rfl rfl (Nat.le_of_ble_eq_true rfl) dX8_wantsTerm_106 [(x0, .inr (6, [.int (nI th), .ref i1, .ref i2, .int (nI sd), .ref i3, .int (nI ln), .ref j1, .ref j2, .ref j3, .ref j4, .ref j5, .ref j6, .int (nI fm), .int (nI rd), .int (nI mt), .int (nI dr), .ref j7, .ref j8, .int (nI (tt + 0)), .int (bI (wtW b ln tt wl)), .ref j9, .int (nI lm), .long (hs)])), (i3, .inl (ty 0, 60, .inl (tI b)))] rfl ?_
                refine g_iload_n C 0 rfl dX8_wantsTerm_109 ?_
                exact g_iret E dX8_wantsTerm_110 (by decide) (by decide) ⟨rfl, (by first | (rw [if_pos c97]; done) | (rw [if_pos c97]; rfl) | (rw [if_neg (show ¬ wtW b ln tt wl = true by rw [c97]; decide)]; done) | (rw [if_neg (show ¬ wtW b ln tt wl = true by rw [c97]; decide)]; rfl))⟩
              · skip
                refine g_iconst C (nI 1) ic_1 dX8_wantsTerm_100 ?_
                refine g_goto C 105 dX8_wantsTerm_101 rfl ?_
                refine g_iadd C (nI (tt + 1)) dX8_wantsTerm_105 (nI_add _ _) ?_
                refine g_putf C wu_X8 tyX8 tyX8_ok nmX8 0 rfl rfl 18 (by decide) wf_X8_154 rfl rfl rfl rfl (Nat.le_of_ble_eq_true rfl) dX8_wantsTerm_106 [(x0, .inr (6, [.int (nI th), .ref i1, .ref i2, .int (nI sd), .ref i3, .int (nI ln), .ref j1, .ref j2, .ref j3, .ref j4, .ref j5, .ref j6, .int (nI fm), .int (nI rd), .int (nI mt), .int (nI dr), .ref j7, .ref j8, .int (nI (tt + 1)), .int (bI (wtW b ln tt wl)), .ref j9, .int (nI lm), .long (hs)])), (i3, .inl (ty 0, 60, .inl (tI b)))] rfl ?_
                refine g_iload_n C 0 rfl dX8_wantsTerm_109 ?_
                exact g_iret E dX8_wantsTerm_110 (by decide) (by decide) ⟨rfl, (by first | (rw [if_pos c97]; done) | (rw [if_pos c97]; rfl) | (rw [if_neg (show ¬ wtW b ln tt wl = true by rw [c97]; decide)]; done) | (rw [if_neg (show ¬ wtW b ln tt wl = true by rw [c97]; decide)]; rfl))⟩
            · skip
              refine g_iload_n C 0 rfl dX8_wantsTerm_75 ?_
              refine g_iconst C (-1) ic_m1 dX8_wantsTerm_76 ?_
              refine g_icmp_eq C 84 dX8_wantsTerm_77 rfl (fun c77 => ?_) (fun c77 => ?_)
              · skip
                refine g_iconst C (nI 0) ic_0 dX8_wantsTerm_84 ?_
                refine g_st [.int (bI (wtW b ln tt wl)), .ref x0] (by rw [show wtW b ln tt wl = (wl && decide (tmc (sgM b ln tt) ≠ 256)) from rfl]; first | (rw [c72]; rfl) | (rw [c72, decide_eq_true (show tmc (sgM b ln tt) ≠ 256 from fun z => c77 ((eA_m1 h256).mpr z))]; rfl) | (rw [c72, decide_eq_false (show ¬ tmc (sgM b ln tt) ≠ 256 from fun z => z ((eA_m1 h256).mp c77))]; rfl)) ?_
                refine g_putf C wu_X8 tyX8 tyX8_ok nmX8 0 rfl rfl 19 (by decide) wf_X8_157 rfl rfl (bI_nar _) (bI_fits _) (Nat.le_of_ble_eq_true rfl) dX8_wantsTerm_85 [(x0, .inr (6, [.int (nI th), .ref i1, .ref i2, .int (nI sd), .ref i3, .int (nI ln), .ref j1, .ref j2, .ref j3, .ref j4, .ref j5, .ref j6, .int (nI fm), .int (nI rd), .int (nI mt), .int (nI dr), .ref j7, .ref j8, .int (nI tt), .int (bI (wtW b ln tt wl)), .ref j9, .int (nI lm), .long (hs)])), (i3, .inl (ty 0, 60, .inl (tI b)))] rfl ?_
                refine g_aload_n C 2 rfl dX8_wantsTerm_88 ?_
                refine g_dup C rfl dX8_wantsTerm_89 ?_
                refine g_getf C wu_X8 0 rfl rfl 18 (by decide) wf_X8_154 rfl rfl dX8_wantsTerm_90 ?_
                refine g_aload_n C 2 rfl dX8_wantsTerm_93 ?_
                refine g_getf C wu_X8 0 rfl rfl 19 (by decide) wf_X8_157 rfl rfl dX8_wantsTerm_94 ?_
                refine g_if_eqB C (wtW b ln tt wl) 104 rfl dX8_wantsTerm_97 rfl (fun c97 => ?_) (fun c97 => ?_)
                · skip
                  refine g_iconst C (nI 0) ic_0 dX8_wantsTerm_104 ?_
                  refine g_iadd C (nI (tt + 0)) dX8_wantsTerm_105 (nI_add _ _) ?_
                  refine g_putf C wu_X8 tyX8 tyX8_ok nmX8 0 rfl rfl 18 (by decide) wf_X8_154 rfl rfl rfl rfl (Nat.le_of_ble_eq_true rfl) dX8_wantsTerm_106 [(x0, .inr (6, [.int (nI th), .ref i1, .ref i2, .int (nI sd), .ref i3, .int (nI ln), .ref j1, .ref j2, .ref j3, .ref j4, .ref j5, .ref j6, .int (nI fm), .int (nI rd), .int (nI mt), .int (nI dr), .ref j7, .ref j8, .int (nI (tt + 0)), .int (bI (wtW b ln tt wl)), .ref j9, .int (nI lm), .long (hs)])), (i3, .inl (ty 0, 60, .inl (tI b)))] rfl ?_
                  refine g_iload_n C 0 rfl dX8_wantsTerm_109 ?_
                  exact g_iret E dX8_wantsTerm_110 (by decide) (by decide) ⟨rfl, (by first | (rw [if_pos c97]; done) | (rw [if_pos c97]; rfl) | (rw [if_neg (show ¬ wtW b ln tt wl = true by rw [c97]; decide)]; done) | (rw [if_neg (show ¬ wtW b ln tt wl = true by rw [c97]; decide)]; rfl))⟩
                · skip
                  refine g_iconst C (nI 1) ic_1 dX8_wantsTerm_100 ?_
                  refine g_goto C 105 dX8_wantsTerm_101 rfl ?_
                  refine g_iadd C (nI (tt + 1)) dX8_wantsTerm_105 (nI_add _ _) ?_
                  refine g_putf C wu_X8 tyX8 tyX8_ok nmX8 0 rfl rfl 18 (by decide) wf_X8_154 rfl rfl rfl rfl (Nat.le_of_ble_eq_true rfl) dX8_wantsTerm_106 [(x0, .inr (6, [.int (nI th), .ref i1, .ref i2, .int (nI sd), .ref i3, .int (nI ln), .ref j1, .ref j2, .ref j3, .ref j4, .ref j5, .ref j6, .int (nI fm), .int (nI rd), .int (nI mt), .int (nI dr), .ref j7, .ref j8, .int (nI (tt + 1)), .int (bI (wtW b ln tt wl)), .ref j9, .int (nI lm), .long (hs)])), (i3, .inl (ty 0, 60, .inl (tI b)))] rfl ?_
                  refine g_iload_n C 0 rfl dX8_wantsTerm_109 ?_
                  exact g_iret E dX8_wantsTerm_110 (by decide) (by decide) ⟨rfl, (by first | (rw [if_pos c97]; done) | (rw [if_pos c97]; rfl) | (rw [if_neg (show ¬ wtW b ln tt wl = true by rw [c97]; decide)]; done) | (rw [if_neg (show ¬ wtW b ln tt wl = true by rw [c97]; decide)]; rfl))⟩
              · skip
                refine g_iconst C (nI 1) ic_1 dX8_wantsTerm_80 ?_
                refine g_goto C 85 dX8_wantsTerm_81 rfl ?_
                refine g_st [.int (bI (wtW b ln tt wl)), .ref x0] (by rw [show wtW b ln tt wl = (wl && decide (tmc (sgM b ln tt) ≠ 256)) from rfl]; first | (rw [c72]; rfl) | (rw [c72, decide_eq_true (show tmc (sgM b ln tt) ≠ 256 from fun z => c77 ((eA_m1 h256).mpr z))]; rfl) | (rw [c72, decide_eq_false (show ¬ tmc (sgM b ln tt) ≠ 256 from fun z => z ((eA_m1 h256).mp c77))]; rfl)) ?_
                refine g_putf C wu_X8 tyX8 tyX8_ok nmX8 0 rfl rfl 19 (by decide) wf_X8_157 rfl rfl (bI_nar _) (bI_fits _) (Nat.le_of_ble_eq_true rfl) dX8_wantsTerm_85 [(x0, .inr (6, [.int (nI th), .ref i1, .ref i2, .int (nI sd), .ref i3, .int (nI ln), .ref j1, .ref j2, .ref j3, .ref j4, .ref j5, .ref j6, .int (nI fm), .int (nI rd), .int (nI mt), .int (nI dr), .ref j7, .ref j8, .int (nI tt), .int (bI (wtW b ln tt wl)), .ref j9, .int (nI lm), .long (hs)])), (i3, .inl (ty 0, 60, .inl (tI b)))] rfl ?_
                refine g_aload_n C 2 rfl dX8_wantsTerm_88 ?_
                refine g_dup C rfl dX8_wantsTerm_89 ?_
                refine g_getf C wu_X8 0 rfl rfl 18 (by decide) wf_X8_154 rfl rfl dX8_wantsTerm_90 ?_
                refine g_aload_n C 2 rfl dX8_wantsTerm_93 ?_
                refine g_getf C wu_X8 0 rfl rfl 19 (by decide) wf_X8_157 rfl rfl dX8_wantsTerm_94 ?_
                refine g_if_eqB C (wtW b ln tt wl) 104 rfl dX8_wantsTerm_97 rfl (fun c97 => ?_) (fun c97 => ?_)
                · skip
                  refine g_iconst C (nI 0) ic_0 dX8_wantsTerm_104 ?_
                  refine g_iadd C (nI (tt + 0)) dX8_wantsTerm_105 (nI_add _ _) ?_
                  refine g_putf C wu_X8 tyX8 tyX8_ok nmX8 0 rfl rfl 18 (by decide) wf_X8_154 rfl rfl rfl rfl (Nat.le_of_ble_eq_true rfl) dX8_wantsTerm_106 [(x0, .inr (6, [.int (nI th), .ref i1, .ref i2, .int (nI sd), .ref i3, .int (nI ln), .ref j1, .ref j2, .ref j3, .ref j4, .ref j5, .ref j6, .int (nI fm), .int (nI rd), .int (nI mt), .int (nI dr), .ref j7, .ref j8, .int (nI (tt + 0)), .int (bI (wtW b ln tt wl)), .ref j9, .int (nI lm), .long (hs)])), (i3, .inl (ty 0, 60, .inl (tI b)))] rfl ?_
                  refine g_iload_n C 0 rfl dX8_wantsTerm_109 ?_
                  exact g_iret E dX8_wantsTerm_110 (by decide) (by decide) ⟨rfl, (by first | (rw [if_pos c97]; done) | (rw [if_pos c97]; rfl) | (rw [if_neg (show ¬ wtW b ln tt wl = true by rw [c97]; decide)]; done) | (rw [if_neg (show ¬ wtW b ln tt wl = true by rw [c97]; decide)]; rfl))⟩
                · skip
                  refine g_iconst C (nI 1) ic_1 dX8_wantsTerm_100 ?_
                  refine g_goto C 105 dX8_wantsTerm_101 rfl ?_
                  refine g_iadd C (nI (tt + 1)) dX8_wantsTerm_105 (nI_add _ _) ?_
                  refine g_putf C wu_X8 tyX8 tyX8_ok nmX8 0 rfl rfl 18 (by decide) wf_X8_154 rfl rfl rfl rfl (Nat.le_of_ble_eq_true rfl) dX8_wantsTerm_106 [(x0, .inr (6, [.int (nI th), .ref i1, .ref i2, .int (nI sd), .ref i3, .int (nI ln), .ref j1, .ref j2, .ref j3, .ref j4, .ref j5, .ref j6, .int (nI fm), .int (nI rd), .int (nI mt), .int (nI dr), .ref j7, .ref j8, .int (nI (tt + 1)), .int (bI (wtW b ln tt wl)), .ref j9, .int (nI lm), .long (hs)])), (i3, .inl (ty 0, 60, .inl (tI b)))] rfl ?_
                  refine g_iload_n C 0 rfl dX8_wantsTerm_109 ?_
                  exact g_iret E dX8_wantsTerm_110 (by decide) (by decide) ⟨rfl, (by first | (rw [if_pos c97]; done) | (rw [if_pos c97]; rfl) | (rw [if_neg (show ¬ wtW b ln tt wl = true by rw [c97]; decide)]; done) | (rw [if_neg (show ¬ wtW b ln tt wl = true by rw [c97]; decide)]; rfl))⟩
        · skip
          refine g_bipush C (nI 6) bp_6 dX8_wantsTerm_49 ?_
          refine g_goto C 66 dX8_wantsTerm_51 rfl ?_
          refine g_st [.int (eA (tmc (sgM b ln tt)))] (congrArg (fun z => [Value.int z]) (by have hd := c13; rw [inI_N (by omega) (by omega) (by omega)] at hd; simp only [decide_eq_true_eq, decide_eq_false_iff_not] at hd; rw [show tmc (sgM b ln tt) = 6 from by unfold tmc; (repeat' split) <;> omega]; rfl)) ?_
          refine g_istore_n C [(2, .int (eA (tmc (sgM b ln tt)))), (1, .int (nI (sgM b ln tt))), (0, .ref x0)] dX8_wantsTerm_66 rfl (by decide) rfl ?_
          refine g_aload_n C 2 rfl dX8_wantsTerm_67 ?_
          refine g_aload_n C 2 rfl dX8_wantsTerm_68 ?_
          refine g_getf C wu_X8 0 rfl rfl 19 (by decide) wf_X8_157 rfl rfl dX8_wantsTerm_69 ?_
          refine g_if_eqB C wl 84 rfl dX8_wantsTerm_72 rfl (fun c72 => ?_) (fun c72 => ?_)
          · skip
            refine g_iconst C (nI 0) ic_0 dX8_wantsTerm_84 ?_
            refine g_st [.int (bI (wtW b ln tt wl)), .ref x0] (by rw [show wtW b ln tt wl = (wl && decide (tmc (sgM b ln tt) ≠ 256)) from rfl]; first | (rw [c72]; rfl) | (rw [c72, decide_eq_true (show tmc (sgM b ln tt) ≠ 256 from fun z => c77 ((eA_m1 h256).mpr z))]; rfl) | (rw [c72, decide_eq_false (show ¬ tmc (sgM b ln tt) ≠ 256 from fun z => z ((eA_m1 h256).mp c77))]; rfl)) ?_
            refine g_putf C wu_X8 tyX8 tyX8_ok nmX8 0 rfl rfl 19 (by decide) wf_X8_157 rfl rfl (bI_nar _) (bI_fits _) (Nat.le_of_ble_eq_true rfl) dX8_wantsTerm_85 [(x0, .inr (6, [.int (nI th), .ref i1, .ref i2, .int (nI sd), .ref i3, .int (nI ln), .ref j1, .ref j2, .ref j3, .ref j4, .ref j5, .ref j6, .int (nI fm), .int (nI rd), .int (nI mt), .int (nI dr), .ref j7, .ref j8, .int (nI tt), .int (bI (wtW b ln tt wl)), .ref j9, .int (nI lm), .long (hs)])), (i3, .inl (ty 0, 60, .inl (tI b)))] rfl ?_
            refine g_aload_n C 2 rfl dX8_wantsTerm_88 ?_
            refine g_dup C rfl dX8_wantsTerm_89 ?_
            refine g_getf C wu_X8 0 rfl rfl 18 (by decide) wf_X8_154 rfl rfl dX8_wantsTerm_90 ?_
            refine g_aload_n C 2 rfl dX8_wantsTerm_93 ?_
            refine g_getf C wu_X8 0 rfl rfl 19 (by decide) wf_X8_157 rfl rfl dX8_wantsTerm_94 ?_
            refine g_if_eqB C (wtW b ln tt wl) 104 rfl dX8_wantsTerm_97 rfl (fun c97 => ?_) (fun c97 => ?_)
            · skip
              refine g_iconst C (nI 0) ic_0 dX8_wantsTerm_104 ?_
              refine g_iadd C (nI (tt + 0)) dX8_wantsTerm_105 (nI_add _ _) ?_
              refine g_putf C wu_X8 tyX8 tyX8_ok nmX8 0 rfl rfl 18 (by decide) wf_X8_154 rfl rfl rfl rfl (Nat.le_of_ble_eq_true rfl) dX8_wantsTerm_106 [(x0, .inr (6, [.int (nI th), .ref i1, .ref i2, .int (nI sd), .ref i3, .int (nI ln), .ref j1, .ref j2, .ref j3, .ref j4, .ref j5, .ref j6, .int (nI fm), .int (nI rd), .int (nI mt), .int (nI dr), .ref j7, .ref j8, .int (nI (tt + 0)), .int (bI (wtW b ln tt wl)), .ref j9, .int (nI lm), .long (hs)])), (i3, .inl (ty 0, 60, .inl (tI b)))] rfl ?_
              refine g_iload_n C 0 rfl dX8_wantsTerm_109 ?_
              exact g_iret E dX8_wantsTerm_110 (by decide) (by decide) ⟨rfl, (by first | (rw [if_pos c97]; done) | (rw [if_pos c97]; rfl) | (rw [if_neg (show ¬ wtW b ln tt wl = true by rw [c97]; decide)]; done) | (rw [if_neg (show ¬ wtW b ln tt wl = true by rw [c97]; decide)]; rfl))⟩
            · skip
              refine g_iconst C (nI 1) ic_1 dX8_wantsTerm_100 ?_
              refine g_goto C 105 dX8_wantsTerm_101 rfl ?_
              refine g_iadd C (nI (tt + 1)) dX8_wantsTerm_105 (nI_add _ _) ?_
              refine g_putf C wu_X8 tyX8 tyX8_ok nmX8 0 rfl rfl 18 (by decide) wf_X8_154 rfl rfl rfl rfl (Nat.le_of_ble_eq_true rfl) dX8_wantsTerm_106 [(x0, .inr (6, [.int (nI th), .ref i1, .ref i2, .int (nI sd), .ref i3, .int (nI ln), .ref j1, .ref j2, .ref j3, .ref j4, .ref j5, .ref j6, .int (nI fm), .int (nI rd), .int (nI mt), .int (nI dr), .ref j7, .ref j8, .int (nI (tt + 1)), .int (bI (wtW b ln tt wl)), .ref j9, .int (nI lm), .long (hs)])), (i3, .inl (ty 0, 60, .inl (tI b)))] rfl ?_
              refine g_iload_n C 0 rfl dX8_wantsTerm_109 ?_
              exact g_iret E dX8_wantsTerm_110 (by decide) (by decide) ⟨rfl, (by first | (rw [if_pos c97]; done) | (rw [if_pos c97]; rfl) | (rw [if_neg (show ¬ wtW b ln tt wl = true by rw [c97]; decide)]; done) | (rw [if_neg (show ¬ wtW b ln tt wl = true by rw [c97]; decide)]; rfl))⟩
          · skip
            refine g_iload_n C 0 rfl dX8_wantsTerm_75 ?_
            refine g_iconst C (-1) ic_m1 dX8_wantsTerm_76 ?_
            refine g_icmp_eq C 84 dX8_wantsTerm_77 rfl (fun c77 => ?_) (fun c77 => ?_)
            · skip
              refine g_iconst C (nI 0) ic_0 dX8_wantsTerm_84 ?_
              refine g_st [.int (bI (wtW b ln tt wl)), .ref x0] (by rw [show wtW b ln tt wl = (wl && decide (tmc (sgM b ln tt) ≠ 256)) from rfl]; first | (rw [c72]; rfl) | (rw [c72, decide_eq_true (show tmc (sgM b ln tt) ≠ 256 from fun z => c77 ((eA_m1 h256).mpr z))]; rfl) | (rw [c72, decide_eq_false (show ¬ tmc (sgM b ln tt) ≠ 256 from fun z => z ((eA_m1 h256).mp c77))]; rfl)) ?_
              refine g_putf C wu_X8 tyX8 tyX8_ok nmX8 0 rfl rfl 19 (by decide) wf_X8_157 rfl rfl (bI_nar _) (bI_fits _) (Nat.le_of_ble_eq_true rfl) dX8_wantsTerm_85 [(x0, .inr (6, [.int (nI th), .ref i1, .ref i2, .int (nI sd), .ref i3, .int (nI ln), .ref j1, .ref j2, .ref j3, .ref j4, .ref j5, .ref j6, .int (nI fm), .int (nI rd), .int (nI mt), .int (nI dr), .ref j7, .ref j8, .int (nI tt), .int (bI (wtW b ln tt wl)), .ref j9, .int (nI lm), .long (hs)])), (i3, .inl (ty 0, 60, .inl (tI b)))] rfl ?_
              refine g_aload_n C 2 rfl dX8_wantsTerm_88 ?_
              refine g_dup C rfl dX8_wantsTerm_89 ?_
              refine g_getf C wu_X8 0 rfl rfl 18 (by decide) wf_X8_154 rfl rfl dX8_wantsTerm_90 ?_
              refine g_aload_n C 2 rfl dX8_wantsTerm_93 ?_
              refine g_getf C wu_X8 0 rfl rfl 19 (by decide) wf_X8_157 rfl rfl dX8_wantsTerm_94 ?_
              refine g_if_eqB C (wtW b ln tt wl) 104 rfl dX8_wantsTerm_97 rfl (fun c97 => ?_) (fun c97 => ?_)
              · skip
                refine g_iconst C (nI 0) ic_0 dX8_wantsTerm_104 ?_
                refine g_iadd C (nI (tt + 0)) dX8_wantsTerm_105 (nI_add _ _) ?_
                refine g_putf C wu_X8 tyX8 tyX8_ok nmX8 0 rfl rfl 18 (by decide) wf_X8_154 rfl rfl rfl rfl (Nat.le_of_ble_eq_true rfl) dX8_wantsTerm_106 [(x0, .inr (6, [.int (nI th), .ref i1, .ref i2, .int (nI sd), .ref i3, .int (nI ln), .ref j1, .ref j2, .ref j3, .ref j4, .ref j5, .ref j6, .int (nI fm), .int (nI rd), .int (nI mt), .int (nI dr), .ref j7, .ref j8, .int (nI (tt + 0)), .int (bI (wtW b ln tt wl)), .ref j9, .int (nI lm), .long (hs)])), (i3, .inl (ty 0, 60, .inl (tI b)))] rfl ?_
                refine g_iload_n C 0 rfl dX8_wantsTerm_109 ?_
                exact g_iret E dX8_wantsTerm_110 (by decide) (by decide) ⟨rfl, (by first | (rw [if_pos c97]; done) | (rw [if_pos c97]; rfl) | (rw [if_neg (show ¬ wtW b ln tt wl = true by rw [c97]; decide)]; done) | (rw [if_neg (show ¬ wtW b ln tt wl = true by rw [c97]; decide)]; rfl))⟩
              · skip
                refine g_iconst C (nI 1) ic_1 dX8_wantsTerm_100 ?_
                refine g_goto C 105 dX8_wantsTerm_101 rfl ?_
                refine g_iadd C (nI (tt + 1)) dX8_wantsTerm_105 (nI_add _ _) ?_
                refine g_putf C wu_X8 tyX8 tyX8_ok nmX8 0 rfl rfl 18 (by decide) wf_X8_154 rfl rfl rfl rfl (Nat.le_of_ble_eq_true rfl) dX8_wantsTerm_106 [(x0, .inr (6, [.int (nI th), .ref i1, .ref i2, .int (nI sd), .ref i3, .int (nI ln), .ref j1, .ref j2, .ref j3, .ref j4, .ref j5, .ref j6, .int (nI fm), .int (nI rd), .int (nI mt), .int (nI dr), .ref j7, .ref j8, .int (nI (tt + 1)), .int (bI (wtW b ln tt wl)), .ref j9, .int (nI lm), .long (hs)])), (i3, .inl (ty 0, 60, .inl (tI b)))] rfl ?_
                refine g_iload_n C 0 rfl dX8_wantsTerm_109 ?_
                exact g_iret E dX8_wantsTerm_110 (by decide) (by decide) ⟨rfl, (by first | (rw [if_pos c97]; done) | (rw [if_pos c97]; rfl) | (rw [if_neg (show ¬ wtW b ln tt wl = true by rw [c97]; decide)]; done) | (rw [if_neg (show ¬ wtW b ln tt wl = true by rw [c97]; decide)]; rfl))⟩
            · skip
              refine g_iconst C (nI 1) ic_1 dX8_wantsTerm_80 ?_
              refine g_goto C 85 dX8_wantsTerm_81 rfl ?_
              refine g_st [.int (bI (wtW b ln tt wl)), .ref x0] (by rw [show wtW b ln tt wl = (wl && decide (tmc (sgM b ln tt) ≠ 256)) from rfl]; first | (rw [c72]; rfl) | (rw [c72, decide_eq_true (show tmc (sgM b ln tt) ≠ 256 from fun z => c77 ((eA_m1 h256).mpr z))]; rfl) | (rw [c72, decide_eq_false (show ¬ tmc (sgM b ln tt) ≠ 256 from fun z => z ((eA_m1 h256).mp c77))]; rfl)) ?_
              refine g_putf C wu_X8 tyX8 tyX8_ok nmX8 0 rfl rfl 19 (by decide) wf_X8_157 rfl rfl (bI_nar _) (bI_fits _) (Nat.le_of_ble_eq_true rfl) dX8_wantsTerm_85 [(x0, .inr (6, [.int (nI th), .ref i1, .ref i2, .int (nI sd), .ref i3, .int (nI ln), .ref j1, .ref j2, .ref j3, .ref j4, .ref j5, .ref j6, .int (nI fm), .int (nI rd), .int (nI mt), .int (nI dr), .ref j7, .ref j8, .int (nI tt), .int (bI (wtW b ln tt wl)), .ref j9, .int (nI lm), .long (hs)])), (i3, .inl (ty 0, 60, .inl (tI b)))] rfl ?_
              refine g_aload_n C 2 rfl dX8_wantsTerm_88 ?_
              refine g_dup C rfl dX8_wantsTerm_89 ?_
              refine g_getf C wu_X8 0 rfl rfl 18 (by decide) wf_X8_154 rfl rfl dX8_wantsTerm_90 ?_
              refine g_aload_n C 2 rfl dX8_wantsTerm_93 ?_
              refine g_getf C wu_X8 0 rfl rfl 19 (by decide) wf_X8_157 rfl rfl dX8_wantsTerm_94 ?_
              refine g_if_eqB C (wtW b ln tt wl) 104 rfl dX8_wantsTerm_97 rfl (fun c97 => ?_) (fun c97 => ?_)
              · skip
                refine g_iconst C (nI 0) ic_0 dX8_wantsTerm_104 ?_
                refine g_iadd C (nI (tt + 0)) dX8_wantsTerm_105 (nI_add _ _) ?_
                refine g_putf C wu_X8 tyX8 tyX8_ok nmX8 0 rfl rfl 18 (by decide) wf_X8_154 rfl rfl rfl rfl (Nat.le_of_ble_eq_true rfl) dX8_wantsTerm_106 [(x0, .inr (6, [.int (nI th), .ref i1, .ref i2, .int (nI sd), .ref i3, .int (nI ln), .ref j1, .ref j2, .ref j3, .ref j4, .ref j5, .ref j6, .int (nI fm), .int (nI rd), .int (nI mt), .int (nI dr), .ref j7, .ref j8, .int (nI (tt + 0)), .int (bI (wtW b ln tt wl)), .ref j9, .int (nI lm), .long (hs)])), (i3, .inl (ty 0, 60, .inl (tI b)))] rfl ?_
                refine g_iload_n C 0 rfl dX8_wantsTerm_109 ?_
                exact g_iret E dX8_wantsTerm_110 (by decide) (by decide) ⟨rfl, (by first | (rw [if_pos c97]; done) | (rw [if_pos c97]; rfl) | (rw [if_neg (show ¬ wtW b ln tt wl = true by rw [c97]; decide)]; done) | (rw [if_neg (show ¬ wtW b ln tt wl = true by rw [c97]; decide)]; rfl))⟩
              · skip
                refine g_iconst C (nI 1) ic_1 dX8_wantsTerm_100 ?_
                refine g_goto C 105 dX8_wantsTerm_101 rfl ?_
                refine g_iadd C (nI (tt + 1)) dX8_wantsTerm_105 (nI_add _ _) ?_
                refine g_putf C wu_X8 tyX8 tyX8_ok nmX8 0 rfl rfl 18 (by decide) wf_X8_154 rfl rfl rfl rfl (Nat.le_of_ble_eq_true rfl) dX8_wantsTerm_106 [(x0, .inr (6, [.int (nI th), .ref i1, .ref i2, .int (nI sd), .ref i3, .int (nI ln), .ref j1, .ref j2, .ref j3, .ref j4, .ref j5, .ref j6, .int (nI fm), .int (nI rd), .int (nI mt), .int (nI dr), .ref j7, .ref j8, .int (nI (tt + 1)), .int (bI (wtW b ln tt wl)), .ref j9, .int (nI lm), .long (hs)])), (i3, .inl (ty 0, 60, .inl (tI b)))] rfl ?_
                refine g_iload_n C 0 rfl dX8_wantsTerm_109 ?_
                exact g_iret E dX8_wantsTerm_110 (by decide) (by decide) ⟨rfl, (by first | (rw [if_pos c97]; done) | (rw [if_pos c97]; rfl) | (rw [if_neg (show ¬ wtW b ln tt wl = true by rw [c97]; decide)]; done) | (rw [if_neg (show ¬ wtW b ln tt wl = true by rw [c97]; decide)]; rfl))⟩
      · skip
        refine g_iconst C (nI 5) ic_5 dX8_wantsTerm_39 ?_
        refine g_goto C 66 dX8_wantsTerm_40 rfl ?_
        refine g_st [.int (eA (tmc (sgM b ln tt)))] (congrArg (fun z => [Value.int z]) (by have hd := c13; rw [inI_N (by omega) (by omega) (by omega)] at hd; simp only [decide_eq_true_eq, decide_eq_false_iff_not] at hd; rw [show tmc (sgM b ln tt) = 5 from by unfold tmc; (repeat' split) <;> omega]; rfl)) ?_
        refine g_istore_n C [(2, .int (eA (tmc (sgM b ln tt)))), (1, .int (nI (sgM b ln tt))), (0, .ref x0)] dX8_wantsTerm_66 rfl (by decide) rfl ?_
        refine g_aload_n C 2 rfl dX8_wantsTerm_67 ?_
        refine g_aload_n C 2 rfl dX8_wantsTerm_68 ?_
        refine g_getf C wu_X8 0 rfl rfl 19 (by decide) wf_X8_157 rfl rfl dX8_wantsTerm_69 ?_
        refine g_if_eqB C wl 84 rfl dX8_wantsTerm_72 rfl (fun c72 => ?_) (fun c72 => ?_)
        · skip
          refine g_iconst C (nI 0) ic_0 dX8_wantsTerm_84 ?_
          refine g_st [.int (bI (wtW b ln tt wl)), .ref x0] (by rw [show wtW b ln tt wl = (wl && decide (tmc (sgM b ln tt) ≠ 256)) from rfl]; first | (rw [c72]; rfl) | (rw [c72, decide_eq_true (show tmc (sgM b ln tt) ≠ 256 from fun z => c77 ((eA_m1 h256).mpr z))]; rfl) | (rw [c72, decide_eq_false (show ¬ tmc (sgM b ln tt) ≠ 256 from fun z => z ((eA_m1 h256).mp c77))]; rfl)) ?_
          refine g_putf C wu_X8 tyX8 tyX8_ok nmX8 0 rfl rfl 19 (by decide) wf_X8_157 rfl rfl (bI_nar _) (bI_fits _) (Nat.le_of_ble_eq_true rfl) dX8_wantsTerm_85 [(x0, .inr (6, [.int (nI th), .ref i1, .ref i2, .int (nI sd), .ref i3, .int (nI ln), .ref j1, .ref j2, .ref j3, .ref j4, .ref j5, .ref j6, .int (nI fm), .int (nI rd), .int (nI mt), .int (nI dr), .ref j7, .ref j8, .int (nI tt), .int (bI (wtW b ln tt wl)), .ref j9, .int (nI lm), .long (hs)])), (i3, .inl (ty 0, 60, .inl (tI b)))] rfl ?_
          refine g_aload_n C 2 rfl dX8_wantsTerm_88 ?_
          refine g_dup C rfl dX8_wantsTerm_89 ?_
          refine g_getf C wu_X8 0 rfl rfl 18 (by decide) wf_X8_154 rfl rfl dX8_wantsTerm_90 ?_
          refine g_aload_n C 2 rfl dX8_wantsTerm_93 ?_
          refine g_getf C wu_X8 0 rfl rfl 19 (by decide) wf_X8_157 rfl rfl dX8_wantsTerm_94 ?_
          refine g_if_eqB C (wtW b ln tt wl) 104 rfl dX8_wantsTerm_97 rfl (fun c97 => ?_) (fun c97 => ?_)
          · skip
            refine g_iconst C (nI 0) ic_0 dX8_wantsTerm_104 ?_
            refine g_iadd C (nI (tt + 0)) dX8_wantsTerm_105 (nI_add _ _) ?_
            refine g_putf C wu_X8 tyX8 tyX8_ok nmX8 0 rfl rfl 18 (by decide) wf_X8_154 rfl rfl rfl rfl (Nat.le_of_ble_eq_true rfl) dX8_wantsTerm_106 [(x0, .inr (6, [.int (nI th), .ref i1, .ref i2, .int (nI sd), .ref i3, .int (nI ln), .ref j1, .ref j2, .ref j3, .ref j4, .ref j5, .ref j6, .int (nI fm), .int (nI rd), .int (nI mt), .int (nI dr), .ref j7, .ref j8, .int (nI (tt + 0)), .int (bI (wtW b ln tt wl)), .ref j9, .int (nI lm), .long (hs)])), (i3, .inl (ty 0, 60, .inl (tI b)))] rfl ?_
            refine g_iload_n C 0 rfl dX8_wantsTerm_109 ?_
            exact g_iret E dX8_wantsTerm_110 (by decide) (by decide) ⟨rfl, (by first | (rw [if_pos c97]; done) | (rw [if_pos c97]; rfl) | (rw [if_neg (show ¬ wtW b ln tt wl = true by rw [c97]; decide)]; done) | (rw [if_neg (show ¬ wtW b ln tt wl = true by rw [c97]; decide)]; rfl))⟩
          · skip
            refine g_iconst C (nI 1) ic_1 dX8_wantsTerm_100 ?_
            refine g_goto C 105 dX8_wantsTerm_101 rfl ?_
            refine g_iadd C (nI (tt + 1)) dX8_wantsTerm_105 (nI_add _ _) ?_
            refine g_putf C wu_X8 tyX8 tyX8_ok nmX8 0 rfl rfl 18 (by decide) wf_X8_154 rfl rfl rfl rfl (Nat.le_of_ble_eq_true rfl) dX8_wantsTerm_106 [(x0, .inr (6, [.int (nI th), .ref i1, .ref i2, .int (nI sd), .ref i3, .int (nI ln), .ref j1, .ref j2, .ref j3, .ref j4, .ref j5, .ref j6, .int (nI fm), .int (nI rd), .int (nI mt), .int (nI dr), .ref j7, .ref j8, .int (nI (tt + 1)), .int (bI (wtW b ln tt wl)), .ref j9, .int (nI lm), .long (hs)])), (i3, .inl (ty 0, 60, .inl (tI b)))] rfl ?_
            refine g_iload_n C 0 rfl dX8_wantsTerm_109 ?_
            exact g_iret E dX8_wantsTerm_110 (by decide) (by decide) ⟨rfl, (by first | (rw [if_pos c97]; done) | (rw [if_pos c97]; rfl) | (rw [if_neg (show ¬ wtW b ln tt wl = true by rw [c97]; decide)]; done) | (rw [if_neg (show ¬ wtW b ln tt wl = true by rw [c97]; decide)]; rfl))⟩
        · skip
          refine g_iload_n C 0 rfl dX8_wantsTerm_75 ?_
          refine g_iconst C (-1) ic_m1 dX8_wantsTerm_76 ?_
          refine g_icmp_eq C 84 dX8_wantsTerm_77 rfl (fun c77 => ?_) (fun c77 => ?_)
          · skip
            refine g_iconst C (nI 0) ic_0 dX8_wantsTerm_84 ?_
            refine g_st [.int (bI (wtW b ln tt wl)), .ref x0] (by rw [show wtW b ln tt wl = (wl && decide (tmc (sgM b ln tt) ≠ 256)) from rfl]; first | (rw [c72]; rfl) | (rw [c72, decide_eq_true (show tmc (sgM b ln tt) ≠ 256 from fun z => c77 ((eA_m1 h256).mpr z))]; rfl) | (rw [c72, decide_eq_false (show ¬ tmc (sgM b ln tt) ≠ 256 from fun z => z ((eA_m1 h256).mp c77))]; rfl)) ?_
            refine g_putf C wu_X8 tyX8 tyX8_ok nmX8 0 rfl rfl 19 (by decide) wf_X8_157 rfl rfl (bI_nar _) (bI_fits _) (Nat.le_of_ble_eq_true rfl) dX8_wantsTerm_85 [(x0, .inr (6, [.int (nI th), .ref i1, .ref i2, .int (nI sd), .ref i3, .int (nI ln), .ref j1, .ref j2, .ref j3, .ref j4, .ref j5, .ref j6, .int (nI fm), .int (nI rd), .int (nI mt), .int (nI dr), .ref j7, .ref j8, .int (nI tt), .int (bI (wtW b ln tt wl)), .ref j9, .int (nI lm), .long (hs)])), (i3, .inl (ty 0, 60, .inl (tI b)))] rfl ?_
            refine g_aload_n C 2 rfl dX8_wantsTerm_88 ?_
            refine g_dup C rfl dX8_wantsTerm_89 ?_
            refine g_getf C wu_X8 0 rfl rfl 18 (by decide) wf_X8_154 rfl rfl dX8_wantsTerm_90 ?_
            refine g_aload_n C 2 rfl dX8_wantsTerm_93 ?_
            refine g_getf C wu_X8 0 rfl rfl 19 (by decide) wf_X8_157 rfl rfl dX8_wantsTerm_94 ?_
            refine g_if_eqB C (wtW b ln tt wl) 104 rfl dX8_wantsTerm_97 rfl (fun c97 => ?_) (fun c97 => ?_)
            · skip
              refine g_iconst C (nI 0) ic_0 dX8_wantsTerm_104 ?_
              refine g_iadd C (nI (tt + 0)) dX8_wantsTerm_105 (nI_add _ _) ?_
              refine g_putf C wu_X8 tyX8 tyX8_ok nmX8 0 rfl rfl 18 (by decide) wf_X8_154 rfl rfl rfl rfl (Nat.le_of_ble_eq_true rfl) dX8_wantsTerm_106 [(x0, .inr (6, [.int (nI th), .ref i1, .ref i2, .int (nI sd), .ref i3, .int (nI ln), .ref j1, .ref j2, .ref j3, .ref j4, .ref j5, .ref j6, .int (nI fm), .int (nI rd), .int (nI mt), .int (nI dr), .ref j7, .ref j8, .int (nI (tt + 0)), .int (bI (wtW b ln tt wl)), .ref j9, .int (nI lm), .long (hs)])), (i3, .inl (ty 0, 60, .inl (tI b)))] rfl ?_
              refine g_iload_n C 0 rfl dX8_wantsTerm_109 ?_
              exact g_iret E dX8_wantsTerm_110 (by decide) (by decide) ⟨rfl, (by first | (rw [if_pos c97]; done) | (rw [if_pos c97]; rfl) | (rw [if_neg (show ¬ wtW b ln tt wl = true by rw [c97]; decide)]; done) | (rw [if_neg (show ¬ wtW b ln tt wl = true by rw [c97]; decide)]; rfl))⟩
            · skip
              refine g_iconst C (nI 1) ic_1 dX8_wantsTerm_100 ?_
              refine g_goto C 105 dX8_wantsTerm_101 rfl ?_
              refine g_iadd C (nI (tt + 1)) dX8_wantsTerm_105 (nI_add _ _) ?_
              refine g_putf C wu_X8 tyX8 tyX8_ok nmX8 0 rfl rfl 18 (by decide) wf_X8_154 rfl rfl rfl rfl (Nat.le_of_ble_eq_true rfl) dX8_wantsTerm_106 [(x0, .inr (6, [.int (nI th), .ref i1, .ref i2, .int (nI sd), .ref i3, .int (nI ln), .ref j1, .ref j2, .ref j3, .ref j4, .ref j5, .ref j6, .int (nI fm), .int (nI rd), .int (nI mt), .int (nI dr), .ref j7, .ref j8, .int (nI (tt + 1)), .int (bI (wtW b ln tt wl)), .ref j9, .int (nI lm), .long (hs)])), (i3, .inl (ty 0, 60, .inl (tI b)))] rfl ?_
              refine g_iload_n C 0 rfl dX8_wantsTerm_109 ?_
              exact g_iret E dX8_wantsTerm_110 (by decide) (by decide) ⟨rfl, (by first | (rw [if_pos c97]; done) | (rw [if_pos c97]; rfl) | (rw [if_neg (show ¬ wtW b ln tt wl = true by rw [c97]; decide)]; done) | (rw [if_neg (show ¬ wtW b ln tt wl = true by rw [c97]; decide)]; rfl))⟩
          · skip
            refine g_iconst C (nI 1) ic_1 dX8_wantsTerm_80 ?_
            refine g_goto C 85 dX8_wantsTerm_81 rfl ?_
            refine g_st [.int (bI (wtW b ln tt wl)), .ref x0] (by rw [show wtW b ln tt wl = (wl && decide (tmc (sgM b ln tt) ≠ 256)) from rfl]; first | (rw [c72]; rfl) | (rw [c72, decide_eq_true (show tmc (sgM b ln tt) ≠ 256 from fun z => c77 ((eA_m1 h256).mpr z))]; rfl) | (rw [c72, decide_eq_false (show ¬ tmc (sgM b ln tt) ≠ 256 from fun z => z ((eA_m1 h256).mp c77))]; rfl)) ?_
            refine g_putf C wu_X8 tyX8 tyX8_ok nmX8 0 rfl rfl 19 (by decide) wf_X8_157 rfl rfl (bI_nar _) (bI_fits _) (Nat.le_of_ble_eq_true rfl) dX8_wantsTerm_85 [(x0, .inr (6, [.int (nI th), .ref i1, .ref i2, .int (nI sd), .ref i3, .int (nI ln), .ref j1, .ref j2, .ref j3, .ref j4, .ref j5, .ref j6, .int (nI fm), .int (nI rd), .int (nI mt), .int (nI dr), .ref j7, .ref j8, .int (nI tt), .int (bI (wtW b ln tt wl)), .ref j9, .int (nI lm), .long (hs)])), (i3, .inl (ty 0, 60, .inl (tI b)))] rfl ?_
            refine g_aload_n C 2 rfl dX8_wantsTerm_88 ?_
            refine g_dup C rfl dX8_wantsTerm_89 ?_
            refine g_getf C wu_X8 0 rfl rfl 18 (by decide) wf_X8_154 rfl rfl dX8_wantsTerm_90 ?_
            refine g_aload_n C 2 rfl dX8_wantsTerm_93 ?_
            refine g_getf C wu_X8 0 rfl rfl 19 (by decide) wf_X8_157 rfl rfl dX8_wantsTerm_94 ?_
            refine g_if_eqB C (wtW b ln tt wl) 104 rfl dX8_wantsTerm_97 rfl (fun c97 => ?_) (fun c97 => ?_)
            · skip
              refine g_iconst C (nI 0) ic_0 dX8_wantsTerm_104 ?_
              refine g_iadd C (nI (tt + 0)) dX8_wantsTerm_105 (nI_add _ _) ?_
              refine g_putf C wu_X8 tyX8 tyX8_ok nmX8 0 rfl rfl 18 (by decide) wf_X8_154 rfl rfl rfl rfl (Nat.le_of_ble_eq_true rfl) dX8_wantsTerm_106 [(x0, .inr (6, [.int (nI th), .ref i1, .ref i2, .int (nI sd), .ref i3, .int (nI ln), .ref j1, .ref j2, .ref j3, .ref j4, .ref j5, .ref j6, .int (nI fm), .int (nI rd), .int (nI mt), .int (nI dr), .ref j7, .ref j8, .int (nI (tt + 0)), .int (bI (wtW b ln tt wl)), .ref j9, .int (nI lm), .long (hs)])), (i3, .inl (ty 0, 60, .inl (tI b)))] rfl ?_
              refine g_iload_n C 0 rfl dX8_wantsTerm_109 ?_
              exact g_iret E dX8_wantsTerm_110 (by decide) (by decide) ⟨rfl, (by first | (rw [if_pos c97]; done) | (rw [if_pos c97]; rfl) | (rw [if_neg (show ¬ wtW b ln tt wl = true by rw [c97]; decide)]; done) | (rw [if_neg (show ¬ wtW b ln tt wl = true by rw [c97]; decide)]; rfl))⟩
            · skip
              refine g_iconst C (nI 1) ic_1 dX8_wantsTerm_100 ?_
              refine g_goto C 105 dX8_wantsTerm_101 rfl ?_
              refine g_iadd C (nI (tt + 1)) dX8_wantsTerm_105 (nI_add _ _) ?_
              refine g_putf C wu_X8 tyX8 tyX8_ok nmX8 0 rfl rfl 18 (by decide) wf_X8_154 rfl rfl rfl rfl (Nat.le_of_ble_eq_true rfl) dX8_wantsTerm_106 [(x0, .inr (6, [.int (nI th), .ref i1, .ref i2, .int (nI sd), .ref i3, .int (nI ln), .ref j1, .ref j2, .ref j3, .ref j4, .ref j5, .ref j6, .int (nI fm), .int (nI rd), .int (nI mt), .int (nI dr), .ref j7, .ref j8, .int (nI (tt + 1)), .int (bI (wtW b ln tt wl)), .ref j9, .int (nI lm), .long (hs)])), (i3, .inl (ty 0, 60, .inl (tI b)))] rfl ?_
              refine g_iload_n C 0 rfl dX8_wantsTerm_109 ?_
              exact g_iret E dX8_wantsTerm_110 (by decide) (by decide) ⟨rfl, (by first | (rw [if_pos c97]; done) | (rw [if_pos c97]; rfl) | (rw [if_neg (show ¬ wtW b ln tt wl = true by rw [c97]; decide)]; done) | (rw [if_neg (show ¬ wtW b ln tt wl = true by rw [c97]; decide)]; rfl))⟩
    · skip
      refine g_iconst C (nI 4) ic_4 dX8_wantsTerm_29 ?_
      refine g_goto C 66 dX8_wantsTerm_30 rfl ?_
      refine g_st [.int (eA (tmc (sgM b ln tt)))] (congrArg (fun z => [Value.int z]) (by have hd := c13; rw [inI_N (by omega) (by omega) (by omega)] at hd; simp only [decide_eq_true_eq, decide_eq_false_iff_not] at hd; rw [show tmc (sgM b ln tt) = 4 from by unfold tmc; (repeat' split) <;> omega]; rfl)) ?_
      refine g_istore_n C [(2, .int (eA (tmc (sgM b ln tt)))), (1, .int (nI (sgM b ln tt))), (0, .ref x0)] dX8_wantsTerm_66 rfl (by decide) rfl ?_
      refine g_aload_n C 2 rfl dX8_wantsTerm_67 ?_
      refine g_aload_n C 2 rfl dX8_wantsTerm_68 ?_
      refine g_getf C wu_X8 0 rfl rfl 19 (by decide) wf_X8_157 rfl rfl dX8_wantsTerm_69 ?_
      refine g_if_eqB C wl 84 rfl dX8_wantsTerm_72 rfl (fun c72 => ?_) (fun c72 => ?_)
      · skip
        refine g_iconst C (nI 0) ic_0 dX8_wantsTerm_84 ?_
        refine g_st [.int (bI (wtW b ln tt wl)), .ref x0] (by rw [show wtW b ln tt wl = (wl && decide (tmc (sgM b ln tt) ≠ 256)) from rfl]; first | (rw [c72]; rfl) | (rw [c72, decide_eq_true (show tmc (sgM b ln tt) ≠ 256 from fun z => c77 ((eA_m1 h256).mpr z))]; rfl) | (rw [c72, decide_eq_false (show ¬ tmc (sgM b ln tt) ≠ 256 from fun z => z ((eA_m1 h256).mp c77))]; rfl)) ?_
        refine g_putf C wu_X8 tyX8 tyX8_ok nmX8 0 rfl rfl 19 (by decide) wf_X8_157 rfl rfl (bI_nar _) (bI_fits _) (Nat.le_of_ble_eq_true rfl) dX8_wantsTerm_85 [(x0, .inr (6, [.int (nI th), .ref i1, .ref i2, .int (nI sd), .ref i3, .int (nI ln), .ref j1, .ref j2, .ref j3, .ref j4, .ref j5, .ref j6, .int (nI fm), .int (nI rd), .int (nI mt), .int (nI dr), .ref j7, .ref j8, .int (nI tt), .int (bI (wtW b ln tt wl)), .ref j9, .int (nI lm), .long (hs)])), (i3, .inl (ty 0, 60, .inl (tI b)))] rfl ?_
        refine g_aload_n C 2 rfl dX8_wantsTerm_88 ?_
        refine g_dup C rfl dX8_wantsTerm_89 ?_
        refine g_getf C wu_X8 0 rfl rfl 18 (by decide) wf_X8_154 rfl rfl dX8_wantsTerm_90 ?_
        refine g_aload_n C 2 rfl dX8_wantsTerm_93 ?_
        refine g_getf C wu_X8 0 rfl rfl 19 (by decide) wf_X8_157 rfl rfl dX8_wantsTerm_94 ?_
        refine g_if_eqB C (wtW b ln tt wl) 104 rfl dX8_wantsTerm_97 rfl (fun c97 => ?_) (fun c97 => ?_)
        · skip
          refine g_iconst C (nI 0) ic_0 dX8_wantsTerm_104 ?_
          refine g_iadd C (nI (tt + 0)) dX8_wantsTerm_105 (nI_add _ _) ?_
          refine g_putf C wu_X8 tyX8 tyX8_ok nmX8 0 rfl rfl 18 (by decide) wf_X8_154 rfl rfl rfl rfl (Nat.le_of_ble_eq_true rfl) dX8_wantsTerm_106 [(x0, .inr (6, [.int (nI th), .ref i1, .ref i2, .int (nI sd), .ref i3, .int (nI ln), .ref j1, .ref j2, .ref j3, .ref j4, .ref j5, .ref j6, .int (nI fm), .int (nI rd), .int (nI mt), .int (nI dr), .ref j7, .ref j8, .int (nI (tt + 0)), .int (bI (wtW b ln tt wl)), .ref j9, .int (nI lm), .long (hs)])), (i3, .inl (ty 0, 60, .inl (tI b)))] rfl ?_
          refine g_iload_n C 0 rfl dX8_wantsTerm_109 ?_
          exact g_iret E dX8_wantsTerm_110 (by decide) (by decide) ⟨rfl, (by first | (rw [if_pos c97]; done) | (rw [if_pos c97]; rfl) | (rw [if_neg (show ¬ wtW b ln tt wl = true by rw [c97]; decide)]; done) | (rw [if_neg (show ¬ wtW b ln tt wl = true by rw [c97]; decide)]; rfl))⟩
        · skip
          refine g_iconst C (nI 1) ic_1 dX8_wantsTerm_100 ?_
          refine g_goto C 105 dX8_wantsTerm_101 rfl ?_
          refine g_iadd C (nI (tt + 1)) dX8_wantsTerm_105 (nI_add _ _) ?_
          refine g_putf C wu_X8 tyX8 tyX8_ok nmX8 0 rfl rfl 18 (by decide) wf_X8_154 rfl rfl rfl rfl (Nat.le_of_ble_eq_true rfl) dX8_wantsTerm_106 [(x0, .inr (6, [.int (nI th), .ref i1, .ref i2, .int (nI sd), .ref i3, .int (nI ln), .ref j1, .ref j2, .ref j3, .ref j4, .ref j5, .ref j6, .int (nI fm), .int (nI rd), .int (nI mt), .int (nI dr), .ref j7, .ref j8, .int (nI (tt + 1)), .int (bI (wtW b ln tt wl)), .ref j9, .int (nI lm), .long (hs)])), (i3, .inl (ty 0, 60, .inl (tI b)))] rfl ?_
          refine g_iload_n C 0 rfl dX8_wantsTerm_109 ?_
          exact g_iret E dX8_wantsTerm_110 (by decide) (by decide) ⟨rfl, (by first | (rw [if_pos c97]; done) | (rw [if_pos c97]; rfl) | (rw [if_neg (show ¬ wtW b ln tt wl = true by rw [c97]; decide)]; done) | (rw [if_neg (show ¬ wtW b ln tt wl = true by rw [c97]; decide)]; rfl))⟩
      · skip
        refine g_iload_n C 0 rfl dX8_wantsTerm_75 ?_
        refine g_iconst C (-1) ic_m1 dX8_wantsTerm_76 ?_
        refine g_icmp_eq C 84 dX8_wantsTerm_77 rfl (fun c77 => ?_) (fun c77 => ?_)
        · skip
          refine g_iconst C (nI 0) ic_0 dX8_wantsTerm_84 ?_
          refine g_st [.int (bI (wtW b ln tt wl)), .ref x0] (by rw [show wtW b ln tt wl = (wl && decide (tmc (sgM b ln tt) ≠ 256)) from rfl]; first | (rw [c72]; rfl) | (rw [c72, decide_eq_true (show tmc (sgM b ln tt) ≠ 256 from fun z => c77 ((eA_m1 h256).mpr z))]; rfl) | (rw [c72, decide_eq_false (show ¬ tmc (sgM b ln tt) ≠ 256 from fun z => z ((eA_m1 h256).mp c77))]; rfl)) ?_
          refine g_putf C wu_X8 tyX8 tyX8_ok nmX8 0 rfl rfl 19 (by decide) wf_X8_157 rfl rfl (bI_nar _) (bI_fits _) (Nat.le_of_ble_eq_true rfl) dX8_wantsTerm_85 [(x0, .inr (6, [.int (nI th), .ref i1, .ref i2, .int (nI sd), .ref i3, .int (nI ln), .ref j1, .ref j2, .ref j3, .ref j4, .ref j5, .ref j6, .int (nI fm), .int (nI rd), .int (nI mt), .int (nI dr), .ref j7, .ref j8, .int (nI tt), .int (bI (wtW b ln tt wl)), .ref j9, .int (nI lm), .long (hs)])), (i3, .inl (ty 0, 60, .inl (tI b)))] rfl ?_
          refine g_aload_n C 2 rfl dX8_wantsTerm_88 ?_
          refine g_dup C rfl dX8_wantsTerm_89 ?_
          refine g_getf C wu_X8 0 rfl rfl 18 (by decide) wf_X8_154 rfl rfl dX8_wantsTerm_90 ?_
          refine g_aload_n C 2 rfl dX8_wantsTerm_93 ?_
          refine g_getf C wu_X8 0 rfl rfl 19 (by decide) wf_X8_157 rfl rfl dX8_wantsTerm_94 ?_
          refine g_if_eqB C (wtW b ln tt wl) 104 rfl dX8_wantsTerm_97 rfl (fun c97 => ?_) (fun c97 => ?_)
          · skip
            refine g_iconst C (nI 0) ic_0 dX8_wantsTerm_104 ?_
            refine g_iadd C (nI (tt + 0)) dX8_wantsTerm_105 (nI_add _ _) ?_
            refine g_putf C wu_X8 tyX8 tyX8_ok nmX8 0 rfl rfl 18 (by decide) wf_X8_154 rfl rfl rfl rfl (Nat.le_of_ble_eq_true rfl) dX8_wantsTerm_106 [(x0, .inr (6, [.int (nI th), .ref i1, .ref i2, .int (nI sd), .ref i3, .int (nI ln), .ref j1, .ref j2, .ref j3, .ref j4, .ref j5, .ref j6, .int (nI fm), .int (nI rd), .int (nI mt), .int (nI dr), .ref j7, .ref j8, .int (nI (tt + 0)), .int (bI (wtW b ln tt wl)), .ref j9, .int (nI lm), .long (hs)])), (i3, .inl (ty 0, 60, .inl (tI b)))] rfl ?_
            refine g_iload_n C 0 rfl dX8_wantsTerm_109 ?_
            exact g_iret E dX8_wantsTerm_110 (by decide) (by decide) ⟨rfl, (by first | (rw [if_pos c97]; done) | (rw [if_pos c97]; rfl) | (rw [if_neg (show ¬ wtW b ln tt wl = true by rw [c97]; decide)]; done) | (rw [if_neg (show ¬ wtW b ln tt wl = true by rw [c97]; decide)]; rfl))⟩
          · skip
            refine g_iconst C (nI 1) ic_1 dX8_wantsTerm_100 ?_
            refine g_goto C 105 dX8_wantsTerm_101 rfl ?_
            refine g_iadd C (nI (tt + 1)) dX8_wantsTerm_105 (nI_add _ _) ?_
            refine g_putf C wu_X8 tyX8 tyX8_ok nmX8 0 rfl rfl 18 (by decide) wf_X8_154 rfl rfl rfl rfl (Nat.le_of_ble_eq_true rfl) dX8_wantsTerm_106 [(x0, .inr (6, [.int (nI th), .ref i1, .ref i2, .int (nI sd), .ref i3, .int (nI ln), .ref j1, .ref j2, .ref j3, .ref j4, .ref j5, .ref j6, .int (nI fm), .int (nI rd), .int (nI mt), .int (nI dr), .ref j7, .ref j8, .int (nI (tt + 1)), .int (bI (wtW b ln tt wl)), .ref j9, .int (nI lm), .long (hs)])), (i3, .inl (ty 0, 60, .inl (tI b)))] rfl ?_
            refine g_iload_n C 0 rfl dX8_wantsTerm_109 ?_
            exact g_iret E dX8_wantsTerm_110 (by decide) (by decide) ⟨rfl, (by first | (rw [if_pos c97]; done) | (rw [if_pos c97]; rfl) | (rw [if_neg (show ¬ wtW b ln tt wl = true by rw [c97]; decide)]; done) | (rw [if_neg (show ¬ wtW b ln tt wl = true by rw [c97]; decide)]; rfl))⟩
        · skip
          refine g_iconst C (nI 1) ic_1 dX8_wantsTerm_80 ?_
          refine g_goto C 85 dX8_wantsTerm_81 rfl ?_
          refine g_st [.int (bI (wtW b ln tt wl)), .ref x0] (by rw [show wtW b ln tt wl = (wl && decide (tmc (sgM b ln tt) ≠ 256)) from rfl]; first | (rw [c72]; rfl) | (rw [c72, decide_eq_true (show tmc (sgM b ln tt) ≠ 256 from fun z => c77 ((eA_m1 h256).mpr z))]; rfl) | (rw [c72, decide_eq_false (show ¬ tmc (sgM b ln tt) ≠ 256 from fun z => z ((eA_m1 h256).mp c77))]; rfl)) ?_
          refine g_putf C wu_X8 tyX8 tyX8_ok nmX8 0 rfl rfl 19 (by decide) wf_X8_157 rfl rfl (bI_nar _) (bI_fits _) (Nat.le_of_ble_eq_true rfl) dX8_wantsTerm_85 [(x0, .inr (6, [.int (nI th), .ref i1, .ref i2, .int (nI sd), .ref i3, .int (nI ln), .ref j1, .ref j2, .ref j3, .ref j4, .ref j5, .ref j6, .int (nI fm), .int (nI rd), .int (nI mt), .int (nI dr), .ref j7, .ref j8, .int (nI tt), .int (bI (wtW b ln tt wl)), .ref j9, .int (nI lm), .long (hs)])), (i3, .inl (ty 0, 60, .inl (tI b)))] rfl ?_
          refine g_aload_n C 2 rfl dX8_wantsTerm_88 ?_
          refine g_dup C rfl dX8_wantsTerm_89 ?_
          refine g_getf C wu_X8 0 rfl rfl 18 (by decide) wf_X8_154 rfl rfl dX8_wantsTerm_90 ?_
          refine g_aload_n C 2 rfl dX8_wantsTerm_93 ?_
          refine g_getf C wu_X8 0 rfl rfl 19 (by decide) wf_X8_157 rfl rfl dX8_wantsTerm_94 ?_
          refine g_if_eqB C (wtW b ln tt wl) 104 rfl dX8_wantsTerm_97 rfl (fun c97 => ?_) (fun c97 => ?_)
          · skip
            refine g_iconst C (nI 0) ic_0 dX8_wantsTerm_104 ?_
            refine g_iadd C (nI (tt + 0)) dX8_wantsTerm_105 (nI_add _ _) ?_
            refine g_putf C wu_X8 tyX8 tyX8_ok nmX8 0 rfl rfl 18 (by decide) wf_X8_154 rfl rfl rfl rfl (Nat.le_of_ble_eq_true rfl) dX8_wantsTerm_106 [(x0, .inr (6, [.int (nI th), .ref i1, .ref i2, .int (nI sd), .ref i3, .int (nI ln), .ref j1, .ref j2, .ref j3, .ref j4, .ref j5, .ref j6, .int (nI fm), .int (nI rd), .int (nI mt), .int (nI dr), .ref j7, .ref j8, .int (nI (tt + 0)), .int (bI (wtW b ln tt wl)), .ref j9, .int (nI lm), .long (hs)])), (i3, .inl (ty 0, 60, .inl (tI b)))] rfl ?_
            refine g_iload_n C 0 rfl dX8_wantsTerm_109 ?_
            exact g_iret E dX8_wantsTerm_110 (by decide) (by decide) ⟨rfl, (by first | (rw [if_pos c97]; done) | (rw [if_pos c97]; rfl) | (rw [if_neg (show ¬ wtW b ln tt wl = true by rw [c97]; decide)]; done) | (rw [if_neg (show ¬ wtW b ln tt wl = true by rw [c97]; decide)]; rfl))⟩
          · skip
            refine g_iconst C (nI 1) ic_1 dX8_wantsTerm_100 ?_
            refine g_goto C 105 dX8_wantsTerm_101 rfl ?_
            refine g_iadd C (nI (tt + 1)) dX8_wantsTerm_105 (nI_add _ _) ?_
            refine g_putf C wu_X8 tyX8 tyX8_ok nmX8 0 rfl rfl 18 (by decide) wf_X8_154 rfl rfl rfl rfl (Nat.le_of_ble_eq_true rfl) dX8_wantsTerm_106 [(x0, .inr (6, [.int (nI th), .ref i1, .ref i2, .int (nI sd), .ref i3, .int (nI ln), .ref j1, .ref j2, .ref j3, .ref j4, .ref j5, .ref j6, .int (nI fm), .int (nI rd), .int (nI mt), .int (nI dr), .ref j7, .ref j8, .int (nI (tt + 1)), .int (bI (wtW b ln tt wl)), .ref j9, .int (nI lm), .long (hs)])), (i3, .inl (ty 0, 60, .inl (tI b)))] rfl ?_
            refine g_iload_n C 0 rfl dX8_wantsTerm_109 ?_
            exact g_iret E dX8_wantsTerm_110 (by decide) (by decide) ⟨rfl, (by first | (rw [if_pos c97]; done) | (rw [if_pos c97]; rfl) | (rw [if_neg (show ¬ wtW b ln tt wl = true by rw [c97]; decide)]; done) | (rw [if_neg (show ¬ wtW b ln tt wl = true by rw [c97]; decide)]; rfl))⟩
  · skip
    refine g_iload_n C 0 rfl dX8_wantsTerm_16 ?_
    refine g_bipush C (nI 48) bp_48 dX8_wantsTerm_17 ?_
    refine g_isub C (nI (sgM b ln tt - 48)) dX8_wantsTerm_19 (pk_sub (by have hd := c13; rw [inI_N (by omega) (by omega) (by omega)] at hd; simp only [decide_eq_true_eq] at hd; omega)) ?_
    refine g_goto C 66 dX8_wantsTerm_20 rfl ?_
    refine g_st [.int (eA (tmc (sgM b ln tt)))] (congrArg (fun z => [Value.int z]) (by have hd := c13; rw [inI_N (by omega) (by omega) (by omega)] at hd; simp only [decide_eq_true_eq, decide_eq_false_iff_not] at hd; rw [show tmc (sgM b ln tt) = sgM b ln tt - 48 from by unfold tmc; (repeat' split) <;> omega]; exact (eA_n (by omega)).symm)) ?_
    refine g_istore_n C [(2, .int (eA (tmc (sgM b ln tt)))), (1, .int (nI (sgM b ln tt))), (0, .ref x0)] dX8_wantsTerm_66 rfl (by decide) rfl ?_
    refine g_aload_n C 2 rfl dX8_wantsTerm_67 ?_
    refine g_aload_n C 2 rfl dX8_wantsTerm_68 ?_
    refine g_getf C wu_X8 0 rfl rfl 19 (by decide) wf_X8_157 rfl rfl dX8_wantsTerm_69 ?_
    refine g_if_eqB C wl 84 rfl dX8_wantsTerm_72 rfl (fun c72 => ?_) (fun c72 => ?_)
    · skip
      refine g_iconst C (nI 0) ic_0 dX8_wantsTerm_84 ?_
      refine g_st [.int (bI (wtW b ln tt wl)), .ref x0] (by rw [show wtW b ln tt wl = (wl && decide (tmc (sgM b ln tt) ≠ 256)) from rfl]; first | (rw [c72]; rfl) | (rw [c72, decide_eq_true (show tmc (sgM b ln tt) ≠ 256 from fun z => c77 ((eA_m1 h256).mpr z))]; rfl) | (rw [c72, decide_eq_false (show ¬ tmc (sgM b ln tt) ≠ 256 from fun z => z ((eA_m1 h256).mp c77))]; rfl)) ?_
      refine g_putf C wu_X8 tyX8 tyX8_ok nmX8 0 rfl rfl 19 (by decide) wf_X8_157 rfl rfl (bI_nar _) (bI_fits _) (Nat.le_of_ble_eq_true rfl) dX8_wantsTerm_85 [(x0, .inr (6, [.int (nI th), .ref i1, .ref i2, .int (nI sd), .ref i3, .int (nI ln), .ref j1, .ref j2, .ref j3, .ref j4, .ref j5, .ref j6, .int (nI fm), .int (nI rd), .int (nI mt), .int (nI dr), .ref j7, .ref j8, .int (nI tt), .int (bI (wtW b ln tt wl)), .ref j9, .int (nI lm), .long (hs)])), (i3, .inl (ty 0, 60, .inl (tI b)))] rfl ?_
      refine g_aload_n C 2 rfl dX8_wantsTerm_88 ?_
      refine g_dup C rfl dX8_wantsTerm_89 ?_
      refine g_getf C wu_X8 0 rfl rfl 18 (by decide) wf_X8_154 rfl rfl dX8_wantsTerm_90 ?_
      refine g_aload_n C 2 rfl dX8_wantsTerm_93 ?_
      refine g_getf C wu_X8 0 rfl rfl 19 (by decide) wf_X8_157 rfl rfl dX8_wantsTerm_94 ?_
      refine g_if_eqB C (wtW b ln tt wl) 104 rfl dX8_wantsTerm_97 rfl (fun c97 => ?_) (fun c97 => ?_)
      · skip
        refine g_iconst C (nI 0) ic_0 dX8_wantsTerm_104 ?_
        refine g_iadd C (nI (tt + 0)) dX8_wantsTerm_105 (nI_add _ _) ?_
        refine g_putf C wu_X8 tyX8 tyX8_ok nmX8 0 rfl rfl 18 (by decide) wf_X8_154 rfl rfl rfl rfl (Nat.le_of_ble_eq_true rfl) dX8_wantsTerm_106 [(x0, .inr (6, [.int (nI th), .ref i1, .ref i2, .int (nI sd), .ref i3, .int (nI ln), .ref j1, .ref j2, .ref j3, .ref j4, .ref j5, .ref j6, .int (nI fm), .int (nI rd), .int (nI mt), .int (nI dr), .ref j7, .ref j8, .int (nI (tt + 0)), .int (bI (wtW b ln tt wl)), .ref j9, .int (nI lm), .long (hs)])), (i3, .inl (ty 0, 60, .inl (tI b)))] rfl ?_
        refine g_iload_n C 0 rfl dX8_wantsTerm_109 ?_
        exact g_iret E dX8_wantsTerm_110 (by decide) (by decide) ⟨rfl, (by first | (rw [if_pos c97]; done) | (rw [if_pos c97]; rfl) | (rw [if_neg (show ¬ wtW b ln tt wl = true by rw [c97]; decide)]; done) | (rw [if_neg (show ¬ wtW b ln tt wl = true by rw [c97]; decide)]; rfl))⟩
      · skip
        refine g_iconst C (nI 1) ic_1 dX8_wantsTerm_100 ?_
        refine g_goto C 105 dX8_wantsTerm_101 rfl ?_
        refine g_iadd C (nI (tt + 1)) dX8_wantsTerm_105 (nI_add _ _) ?_
        refine g_putf C wu_X8 tyX8 tyX8_ok nmX8 0 rfl rfl 18 (by decide) wf_X8_154 rfl rfl rfl rfl (Nat.le_of_ble_eq_true rfl) dX8_wantsTerm_106 [(x0, .inr (6, [.int (nI th), .ref i1, .ref i2, .int (nI sd), .ref i3, .int (nI ln), .ref j1, .ref j2, .ref j3, .ref j4, .ref j5, .ref j6, .int (nI fm), .int (nI rd), .int (nI mt), .int (nI dr), .ref j7, .ref j8, .int (nI (tt + 1)), .int (bI (wtW b ln tt wl)), .ref j9, .int (nI lm), .long (hs)])), (i3, .inl (ty 0, 60, .inl (tI b)))] rfl ?_
        refine g_iload_n C 0 rfl dX8_wantsTerm_109 ?_
        exact g_iret E dX8_wantsTerm_110 (by decide) (by decide) ⟨rfl, (by first | (rw [if_pos c97]; done) | (rw [if_pos c97]; rfl) | (rw [if_neg (show ¬ wtW b ln tt wl = true by rw [c97]; decide)]; done) | (rw [if_neg (show ¬ wtW b ln tt wl = true by rw [c97]; decide)]; rfl))⟩
    · skip
      refine g_iload_n C 0 rfl dX8_wantsTerm_75 ?_
      refine g_iconst C (-1) ic_m1 dX8_wantsTerm_76 ?_
      refine g_icmp_eq C 84 dX8_wantsTerm_77 rfl (fun c77 => ?_) (fun c77 => ?_)
      · skip
        refine g_iconst C (nI 0) ic_0 dX8_wantsTerm_84 ?_
        refine g_st [.int (bI (wtW b ln tt wl)), .ref x0] (by rw [show wtW b ln tt wl = (wl && decide (tmc (sgM b ln tt) ≠ 256)) from rfl]; first | (rw [c72]; rfl) | (rw [c72, decide_eq_true (show tmc (sgM b ln tt) ≠ 256 from fun z => c77 ((eA_m1 h256).mpr z))]; rfl) | (rw [c72, decide_eq_false (show ¬ tmc (sgM b ln tt) ≠ 256 from fun z => z ((eA_m1 h256).mp c77))]; rfl)) ?_
        refine g_putf C wu_X8 tyX8 tyX8_ok nmX8 0 rfl rfl 19 (by decide) wf_X8_157 rfl rfl (bI_nar _) (bI_fits _) (Nat.le_of_ble_eq_true rfl) dX8_wantsTerm_85 [(x0, .inr (6, [.int (nI th), .ref i1, .ref i2, .int (nI sd), .ref i3, .int (nI ln), .ref j1, .ref j2, .ref j3, .ref j4, .ref j5, .ref j6, .int (nI fm), .int (nI rd), .int (nI mt), .int (nI dr), .ref j7, .ref j8, .int (nI tt), .int (bI (wtW b ln tt wl)), .ref j9, .int (nI lm), .long (hs)])), (i3, .inl (ty 0, 60, .inl (tI b)))] rfl ?_
        refine g_aload_n C 2 rfl dX8_wantsTerm_88 ?_
        refine g_dup C rfl dX8_wantsTerm_89 ?_
        refine g_getf C wu_X8 0 rfl rfl 18 (by decide) wf_X8_154 rfl rfl dX8_wantsTerm_90 ?_
        refine g_aload_n C 2 rfl dX8_wantsTerm_93 ?_
        refine g_getf C wu_X8 0 rfl rfl 19 (by decide) wf_X8_157 rfl rfl dX8_wantsTerm_94 ?_
        refine g_if_eqB C (wtW b ln tt wl) 104 rfl dX8_wantsTerm_97 rfl (fun c97 => ?_) (fun c97 => ?_)
        · skip
          refine g_iconst C (nI 0) ic_0 dX8_wantsTerm_104 ?_
          refine g_iadd C (nI (tt + 0)) dX8_wantsTerm_105 (nI_add _ _) ?_
          refine g_putf C wu_X8 tyX8 tyX8_ok nmX8 0 rfl rfl 18 (by decide) wf_X8_154 rfl rfl rfl rfl (Nat.le_of_ble_eq_true rfl) dX8_wantsTerm_106 [(x0, .inr (6, [.int (nI th), .ref i1, .ref i2, .int (nI sd), .ref i3, .int (nI ln), .ref j1, .ref j2, .ref j3, .ref j4, .ref j5, .ref j6, .int (nI fm), .int (nI rd), .int (nI mt), .int (nI dr), .ref j7, .ref j8, .int (nI (tt + 0)), .int (bI (wtW b ln tt wl)), .ref j9, .int (nI lm), .long (hs)])), (i3, .inl (ty 0, 60, .inl (tI b)))] rfl ?_
          refine g_iload_n C 0 rfl dX8_wantsTerm_109 ?_
          exact g_iret E dX8_wantsTerm_110 (by decide) (by decide) ⟨rfl, (by first | (rw [if_pos c97]; done) | (rw [if_pos c97]; rfl) | (rw [if_neg (show ¬ wtW b ln tt wl = true by rw [c97]; decide)]; done) | (rw [if_neg (show ¬ wtW b ln tt wl = true by rw [c97]; decide)]; rfl))⟩
        · skip
          refine g_iconst C (nI 1) ic_1 dX8_wantsTerm_100 ?_
          refine g_goto C 105 dX8_wantsTerm_101 rfl ?_
          refine g_iadd C (nI (tt + 1)) dX8_wantsTerm_105 (nI_add _ _) ?_
          refine g_putf C wu_X8 tyX8 tyX8_ok nmX8 0 rfl rfl 18 (by decide) wf_X8_154 rfl rfl rfl rfl (Nat.le_of_ble_eq_true rfl) dX8_wantsTerm_106 [(x0, .inr (6, [.int (nI th), .ref i1, .ref i2, .int (nI sd), .ref i3, .int (nI ln), .ref j1, .ref j2, .ref j3, .ref j4, .ref j5, .ref j6, .int (nI fm), .int (nI rd), .int (nI mt), .int (nI dr), .ref j7, .ref j8, .int (nI (tt + 1)), .int (bI (wtW b ln tt wl)), .ref j9, .int (nI lm), .long (hs)])), (i3, .inl (ty 0, 60, .inl (tI b)))] rfl ?_
          refine g_iload_n C 0 rfl dX8_wantsTerm_109 ?_
          exact g_iret E dX8_wantsTerm_110 (by decide) (by decide) ⟨rfl, (by first | (rw [if_pos c97]; done) | (rw [if_pos c97]; rfl) | (rw [if_neg (show ¬ wtW b ln tt wl = true by rw [c97]; decide)]; done) | (rw [if_neg (show ¬ wtW b ln tt wl = true by rw [c97]; decide)]; rfl))⟩
      · skip
        refine g_iconst C (nI 1) ic_1 dX8_wantsTerm_80 ?_
        refine g_goto C 85 dX8_wantsTerm_81 rfl ?_
        refine g_st [.int (bI (wtW b ln tt wl)), .ref x0] (by rw [show wtW b ln tt wl = (wl && decide (tmc (sgM b ln tt) ≠ 256)) from rfl]; first | (rw [c72]; rfl) | (rw [c72, decide_eq_true (show tmc (sgM b ln tt) ≠ 256 from fun z => c77 ((eA_m1 h256).mpr z))]; rfl) | (rw [c72, decide_eq_false (show ¬ tmc (sgM b ln tt) ≠ 256 from fun z => z ((eA_m1 h256).mp c77))]; rfl)) ?_
        refine g_putf C wu_X8 tyX8 tyX8_ok nmX8 0 rfl rfl 19 (by decide) wf_X8_157 rfl rfl (bI_nar _) (bI_fits _) (Nat.le_of_ble_eq_true rfl) dX8_wantsTerm_85 [(x0, .inr (6, [.int (nI th), .ref i1, .ref i2, .int (nI sd), .ref i3, .int (nI ln), .ref j1, .ref j2, .ref j3, .ref j4, .ref j5, .ref j6, .int (nI fm), .int (nI rd), .int (nI mt), .int (nI dr), .ref j7, .ref j8, .int (nI tt), .int (bI (wtW b ln tt wl)), .ref j9, .int (nI lm), .long (hs)])), (i3, .inl (ty 0, 60, .inl (tI b)))] rfl ?_
        refine g_aload_n C 2 rfl dX8_wantsTerm_88 ?_
        refine g_dup C rfl dX8_wantsTerm_89 ?_
        refine g_getf C wu_X8 0 rfl rfl 18 (by decide) wf_X8_154 rfl rfl dX8_wantsTerm_90 ?_
        refine g_aload_n C 2 rfl dX8_wantsTerm_93 ?_
        refine g_getf C wu_X8 0 rfl rfl 19 (by decide) wf_X8_157 rfl rfl dX8_wantsTerm_94 ?_
        refine g_if_eqB C (wtW b ln tt wl) 104 rfl dX8_wantsTerm_97 rfl (fun c97 => ?_) (fun c97 => ?_)
        · skip
          refine g_iconst C (nI 0) ic_0 dX8_wantsTerm_104 ?_
          refine g_iadd C (nI (tt + 0)) dX8_wantsTerm_105 (nI_add _ _) ?_
          refine g_putf C wu_X8 tyX8 tyX8_ok nmX8 0 rfl rfl 18 (by decide) wf_X8_154 rfl rfl rfl rfl (Nat.le_of_ble_eq_true rfl) dX8_wantsTerm_106 [(x0, .inr (6, [.int (nI th), .ref i1, .ref i2, .int (nI sd), .ref i3, .int (nI ln), .ref j1, .ref j2, .ref j3, .ref j4, .ref j5, .ref j6, .int (nI fm), .int (nI rd), .int (nI mt), .int (nI dr), .ref j7, .ref j8, .int (nI (tt + 0)), .int (bI (wtW b ln tt wl)), .ref j9, .int (nI lm), .long (hs)])), (i3, .inl (ty 0, 60, .inl (tI b)))] rfl ?_
          refine g_iload_n C 0 rfl dX8_wantsTerm_109 ?_
          exact g_iret E dX8_wantsTerm_110 (by decide) (by decide) ⟨rfl, (by first | (rw [if_pos c97]; done) | (rw [if_pos c97]; rfl) | (rw [if_neg (show ¬ wtW b ln tt wl = true by rw [c97]; decide)]; done) | (rw [if_neg (show ¬ wtW b ln tt wl = true by rw [c97]; decide)]; rfl))⟩
        · skip
          refine g_iconst C (nI 1) ic_1 dX8_wantsTerm_100 ?_
          refine g_goto C 105 dX8_wantsTerm_101 rfl ?_
          refine g_iadd C (nI (tt + 1)) dX8_wantsTerm_105 (nI_add _ _) ?_
          refine g_putf C wu_X8 tyX8 tyX8_ok nmX8 0 rfl rfl 18 (by decide) wf_X8_154 rfl rfl rfl rfl (Nat.le_of_ble_eq_true rfl) dX8_wantsTerm_106 [(x0, .inr (6, [.int (nI th), .ref i1, .ref i2, .int (nI sd), .ref i3, .int (nI ln), .ref j1, .ref j2, .ref j3, .ref j4, .ref j5, .ref j6, .int (nI fm), .int (nI rd), .int (nI mt), .int (nI dr), .ref j7, .ref j8, .int (nI (tt + 1)), .int (bI (wtW b ln tt wl)), .ref j9, .int (nI lm), .long (hs)])), (i3, .inl (ty 0, 60, .inl (tI b)))] rfl ?_
          refine g_iload_n C 0 rfl dX8_wantsTerm_109 ?_
          exact g_iret E dX8_wantsTerm_110 (by decide) (by decide) ⟨rfl, (by first | (rw [if_pos c97]; done) | (rw [if_pos c97]; rfl) | (rw [if_neg (show ¬ wtW b ln tt wl = true by rw [c97]; decide)]; done) | (rw [if_neg (show ¬ wtW b ln tt wl = true by rw [c97]; decide)]; rfl))⟩
