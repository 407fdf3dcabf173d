def r_X8_clearBuffer : Room := { frames := 0, cells := 0, slots := 0, locals := 0 }
set_option maxRecDepth 100000 in
set_option maxHeartbeats 4000000 in
theorem k_X8_clearBuffer (l : Launch) (D : va_G) (ty : Nat → ClassId) (x0 : Nat) (th : Nat) (i1 : Nat) (i2 : Nat) (sd : Nat) (i3 : Nat) (ln : Nat) (j1 : Nat) (j2 : Nat) (j3 : Nat) (j4 : Nat) (j5 : Nat) (j6 : Nat) (fm : Nat) (rd : Nat) (mt : Nat) (dr : Nat) (j7 : Nat) (j8 : Nat) (tt : Nat) (wl : Bool) (j9 : Nat) (lm : Nat) (hs : Int64)  : gM l D ty yX8_clearBuffer cX8_clearBuffer 2 (some (FieldType.int : FieldType)) r_X8_clearBuffer 0 0 [.ref x0] [(x0, .inr (6, [.int (nI th), .ref i1, .ref i2, .int (nI sd), .ref i3, .int (nI ln), .ref j1, .ref j2, .ref j3, .ref j4, .ref j5, .ref j6, .int (nI fm), .int (nI rd), .int (nI mt), .int (nI dr), .ref j7, .ref j8, .int (nI tt), .int (bI (wl)), .ref j9, .int (nI lm), .long (hs)]))] (fun (zr : Option Value) (zW : va_W) => zr = some (.int (nI ln)) ∧ zW = [(x0, .inr (6, [.int (nI 0), .ref i1, .ref i2, .int (nI sd), .ref i3, .int (nI 0), .ref j1, .ref j2, .ref j3, .ref j4, .ref j5, .ref j6, .int (nI fm), .int (nI rd), .int (nI mt), .int (nI dr), .ref j7, .ref j8, .int (nI tt), .int (bI (wl)), .ref j9, .int (nI lm), .long (hs)]))]) := by
  refine gM_of RX8 rfl (by decide +kernel) (Nat.le_of_ble_eq_true rfl) ?_
  intro pg en s0 mi ag bl mth cd AA HH QQ C E hnm
  show gW pg l en r_X8_clearBuffer s0 mi ag bl mth cd 2 D AA HH QQ 0 [(0, .ref x0)] [] [(x0, .inr (6, [.int (nI th), .ref i1, .ref i2, .int (nI sd), .ref i3, .int (nI ln), .ref j1, .ref j2, .ref j3, .ref j4, .ref j5, .ref j6, .int (nI fm), .int (nI rd), .int (nI mt), .int (nI dr), .ref j7, .ref j8, .int (nI tt), .int (bI (wl)), .ref j9, .int (nI lm), .long (hs)]))] 0 0
  refine g_aload_n C 0 rfl dX8_clearBuffer_0 ?_
  refine g_iconst C (nI 0) ic_0 dX8_clearBuffer_1 ?_
  refine g_putf C wu_X8 tyX8 tyX8_ok nmX8 0 rfl rfl 0 (by decide) wf_X8_47 rfl rfl rfl rfl (Nat.le_of_ble_eq_true rfl) dX8_clearBuffer_2 [(x0, .inr (6, [.int (nI 0), .ref i1, .ref i2, .int (nI sd), .ref i3, .int (nI ln), .ref j1, .ref j2, .ref j3, .ref j4, .ref j5, .ref j6, .int (nI fm), .int (nI rd), .int (nI mt), .int (nI dr), .ref j7, .ref j8, .int (nI tt), .int (bI (wl)), .ref j9, .int (nI lm), .long (hs)]))] rfl ?_
  refine g_aload_n C 0 rfl dX8_clearBuffer_5 ?_
  refine g_getf C wu_X8 0 rfl rfl 5 (by decide) wf_X8_151 rfl rfl dX8_clearBuffer_6 ?_
  refine g_istore_n C [(1, .int (nI ln)), (0, .ref x0)] dX8_clearBuffer_9 rfl (by decide) rfl ?_
  refine g_aload_n C 1 rfl dX8_clearBuffer_10 ?_
  refine g_iconst C (nI 0) ic_0 dX8_clearBuffer_11 ?_
  refine g_putf C wu_X8 tyX8 tyX8_ok nmX8 0 rfl rfl 5 (by decide) wf_X8_151 rfl rfl rfl rfl (Nat.le_of_ble_eq_true rfl) dX8_clearBuffer_12 [(x0, .inr (6, [.int (nI 0), .ref i1, .ref i2, .int (nI sd), .ref i3, .int (nI 0), .ref j1, .ref j2, .ref j3, .ref j4, .ref j5, .ref j6, .int (nI fm), .int (nI rd), .int (nI mt), .int (nI dr), .ref j7, .ref j8, .int (nI tt), .int (bI (wl)), .ref j9, .int (nI lm), .long (hs)]))] rfl ?_
  refine g_iload_n C 0 rfl dX8_clearBuffer_15 ?_
  exact g_iret E dX8_clearBuffer_16 (by decide) (by decide) ⟨rfl, rfl⟩
def r_X8_told_ok : Room := { frames := 1, cells := 0, slots := 0, locals := 23 }
set_option maxRecDepth 100000 in
set_option maxHeartbeats 4000000 in
theorem k_X8_told_ok (l : Launch) (D : va_G) (ty : Nat → ClassId) (x0 : Nat) (th : Nat) (i1 : Nat) (i2 : Nat) (sd : Nat) (i3 : Nat) (ln : Nat) (j1 : Nat) (j2 : Nat) (j3 : Nat) (j4 : Nat) (j5 : Nat) (j6 : Nat) (fm : Nat) (rd : Nat) (mt : Nat) (dr : Nat) (j7 : Nat) (j8 : Nat) (tt : Nat) (wl : Bool) (j9 : Nat) (lm : Nat) (hs : Int64) (T : Nat → Bool) (q : Nat → Nat) (nr : Nat) (k : Nat) (hk : k < 2 ^ 31) : gM l D ty yX8_told cX8_told 2 (some (FieldType.int : FieldType)) r_X8_told_ok 0 0 [.ref x0, .int (nI k)] [(x0, .inr (6, [.int (nI th), .ref i1, .ref i2, .int (nI sd), .ref i3, .int (nI ln), .ref j1, .ref j2, .ref j3, .ref j4, .ref j5, .ref j6, .int (nI fm), .int (nI rd), .int (nI mt), .int (nI dr), .ref j7, .ref j8, .int (nI tt), .int (bI (wl)), .ref j9, .int (nI lm), .long (hs)])), (i1, .inl (ty 0, 275, .inl (eR (sM T q nr))))] (fun (zr : Option Value) (zW : va_W) => zr = some (.int (eO (nth T k 256))) ∧ zW = [(x0, .inr (6, [.int (nI 0), .ref i1, .ref i2, .int (nI sd), .ref i3, .int (nI ln), .ref j1, .ref j2, .ref j3, .ref j4, .ref j5, .ref j6, .int (nI fm), .int (nI rd), .int (nI mt), .int (nI dr), .ref j7, .ref j8, .int (nI tt), .int (bI (wl)), .ref j9, .int (nI lm), .long (hs)])), (i1, .inl (ty 0, 275, .inl (eR (sM T q nr))))]) := by
  refine gM_of RX8 rfl (by decide +kernel) (Nat.le_of_ble_eq_true rfl) ?_
  intro pg en s0 mi ag bl mth cd AA HH QQ C E hnm
  show gW pg l en r_X8_told_ok s0 mi ag bl mth cd 2 D AA HH QQ 0 [(0, .ref x0), (1, .int (nI k))] [] [(x0, .inr (6, [.int (nI th), .ref i1, .ref i2, .int (nI sd), .ref i3, .int (nI ln), .ref j1, .ref j2, .ref j3, .ref j4, .ref j5, .ref j6, .int (nI fm), .int (nI rd), .int (nI mt), .int (nI dr), .ref j7, .ref j8, .int (nI tt), .int (bI (wl)), .ref j9, .int (nI lm), .long (hs)])), (i1, .inl (ty 0, 275, .inl (eR (sM T q nr))))] 0 0
  refine g_aload_n C 0 rfl dX8_told_0 ?_
  refine g_iconst C (nI 0) ic_0 dX8_told_1 ?_
  refine g_putf C wu_X8 tyX8 tyX8_ok nmX8 0 rfl rfl 0 (by decide) wf_X8_47 rfl rfl rfl rfl (Nat.le_of_ble_eq_true rfl) dX8_told_2 [(x0, .inr (6, [.int (nI 0), .ref i1, .ref i2, .int (nI sd), .ref i3, .int (nI ln), .ref j1, .ref j2, .ref j3, .ref j4, .ref j5, .ref j6, .int (nI fm), .int (nI rd), .int (nI mt), .int (nI dr), .ref j7, .ref j8, .int (nI tt), .int (bI (wl)), .ref j9, .int (nI lm), .long (hs)])), (i1, .inl (ty 0, 275, .inl (eR (sM T q nr))))] rfl ?_
  refine g_iload_n C 1 rfl dX8_told_5 ?_
  refine g_if_ge C 17 dX8_told_6 rfl (fun c6 => ?_) (fun c6 => ?_)
  · skip
    refine g_aload_n C 0 rfl dX8_told_17 ?_
    refine g_iload_n C 1 rfl dX8_told_18 ?_
    refine g_callV C (nA := 1) (ci := 6) (q0 := 0) (As := [.int (nI k)]) (wr := []) (k_X8_toldAt l D ty x0 0 i1 i2 sd i3 ln j1 j2 j3 j4 j5 j6 fm rd mt dr j7 j8 tt wl j9 lm hs T q nr k (by omega)) wm_X8_186 wn_X8_toldAt wv_X8_toldAt wi_X8 wc_X8_toldAt rfl (by decide +kernel) ⟨(Nat.le_of_ble_eq_true rfl), (Nat.le_of_ble_eq_true rfl)⟩ ⟨rfl, rfl⟩ dX8_told_19 ⟨Nat.zero_le _, Nat.zero_le _⟩ rfl rfl rfl [0, 1] [] rfl rfl rfl rfl (by decide) (Nat.le_of_ble_eq_true rfl) rfl (fun r W1 hp => ?_)
    obtain ⟨rfl, rfl⟩ := hp
    refine g_fix [.int (eO (nth T k 256))] [(x0, .inr (6, [.int (nI 0), .ref i1, .ref i2, .int (nI sd), .ref i3, .int (nI ln), .ref j1, .ref j2, .ref j3, .ref j4, .ref j5, .ref j6, .int (nI fm), .int (nI rd), .int (nI mt), .int (nI dr), .ref j7, .ref j8, .int (nI tt), .int (bI (wl)), .ref j9, .int (nI lm), .long (hs)])), (i1, .inl (ty 0, 275, .inl (eR (sM T q nr))))] [0, 1] rfl rfl rfl ?_
    exact g_iret E dX8_told_22 (by decide) (by decide) ⟨rfl, rfl⟩
  · skip
    exact absurd (nI_pos' (by omega)) c6
def r_X8_told_x1 : Room := { frames := 1, cells := 0, slots := 0, locals := 23 }
set_option maxRecDepth 100000 in
set_option maxHeartbeats 4000000 in
theorem k_X8_told_x1 (l : Launch) (D : va_G) (ty : Nat → ClassId) (x0 : Nat) (th : Nat) (i1 : Nat) (i2 : Nat) (sd : Nat) (i3 : Nat) (ln : Nat) (j1 : Nat) (j2 : Nat) (j3 : Nat) (j4 : Nat) (j5 : Nat) (j6 : Nat) (fm : Nat) (rd : Nat) (mt : Nat) (dr : Nat) (j7 : Nat) (j8 : Nat) (tt : Nat) (wl : Bool) (j9 : Nat) (lm : Nat) (hs : Int64) (z1 : Int32) (hz : z1 < 0) : gM l D ty yX8_told cX8_told 2 (some (FieldType.int : FieldType)) r_X8_told_x1 0 0 [.ref x0, .int (z1)] [(x0, .inr (6, [.int (nI th), .ref i1, .ref i2, .int (nI sd), .ref i3, .int (nI ln), .ref j1, .ref j2, .ref j3, .ref j4, .ref j5, .ref j6, .int (nI fm), .int (nI rd), .int (nI mt), .int (nI dr), .ref j7, .ref j8, .int (nI tt), .int (bI (wl)), .ref j9, .int (nI lm), .long (hs)]))] (fun (zr : Option Value) (zW : va_W) => zr = some (.int (nI 0)) ∧ zW = [(x0, .inr (6, [.int (nI 1), .ref i1, .ref i2, .int (nI sd), .ref i3, .int (nI ln), .ref j1, .ref j2, .ref j3, .ref j4, .ref j5, .ref j6, .int (nI fm), .int (nI rd), .int (nI mt), .int (nI dr), .ref j7, .ref j8, .int (nI tt), .int (bI (wl)), .ref j9, .int (nI lm), .long (hs)]))]) := by
  refine gM_of RX8 rfl (by decide +kernel) (Nat.le_of_ble_eq_true rfl) ?_
  intro pg en s0 mi ag bl mth cd AA HH QQ C E hnm
  show gW pg l en r_X8_told_x1 s0 mi ag bl mth cd 2 D AA HH QQ 0 [(0, .ref x0), (1, .int (z1))] [] [(x0, .inr (6, [.int (nI th), .ref i1, .ref i2, .int (nI sd), .ref i3, .int (nI ln), .ref j1, .ref j2, .ref j3, .ref j4, .ref j5, .ref j6, .int (nI fm), .int (nI rd), .int (nI mt), .int (nI dr), .ref j7, .ref j8, .int (nI tt), .int (bI (wl)), .ref j9, .int (nI lm), .long (hs)]))] 0 0
  refine g_aload_n C 0 rfl dX8_told_0 ?_
  refine g_iconst C (nI 0) ic_0 dX8_told_1 ?_
  refine g_putf C wu_X8 tyX8 tyX8_ok nmX8 0 rfl rfl 0 (by decide) wf_X8_47 rfl rfl rfl rfl (Nat.le_of_ble_eq_true rfl) dX8_told_2 [(x0, .inr (6, [.int (nI 0), .ref i1, .ref i2, .int (nI sd), .ref i3, .int (nI ln), .ref j1, .ref j2, .ref j3, .ref j4, .ref j5, .ref j6, .int (nI fm), .int (nI rd), .int (nI mt), .int (nI dr), .ref j7, .ref j8, .int (nI tt), .int (bI (wl)), .ref j9, .int (nI lm), .long (hs)]))] rfl ?_
  refine g_iload_n C 1 rfl dX8_told_5 ?_
  refine g_if_ge C 17 dX8_told_6 rfl (fun c6 => ?_) (fun c6 => ?_)
  · skip
    exact absurd c6 (Int32.not_le.mpr hz)
  · skip
    refine g_aload_n C 0 rfl dX8_told_9 ?_
    refine g_iconst C (nI 1) ic_1 dX8_told_10 ?_
    refine g_callV C (nA := 1) (ci := 6) (q0 := 0) (As := [.int (nI 1)]) (wr := []) (k_X8_fails l D ty x0 0 i1 i2 sd i3 ln j1 j2 j3 j4 j5 j6 fm rd mt dr j7 j8 tt wl j9 lm hs 1 ) wm_X8_131 wn_X8_fails wv_X8_fails wi_X8 wc_X8_fails rfl (by decide +kernel) ⟨(Nat.le_of_ble_eq_true rfl), (Nat.le_of_ble_eq_true rfl)⟩ ⟨rfl, rfl⟩ dX8_told_11 ⟨Nat.zero_le _, Nat.zero_le _⟩ rfl rfl rfl [0] [] rfl rfl rfl rfl (by decide) (Nat.le_of_ble_eq_true rfl) rfl (fun r W1 hp => ?_)
    obtain ⟨rfl, rfl⟩ := hp
    refine g_fix [.int (nI 0)] [(x0, .inr (6, [.int (nI 1), .ref i1, .ref i2, .int (nI sd), .ref i3, .int (nI ln), .ref j1, .ref j2, .ref j3, .ref j4, .ref j5, .ref j6, .int (nI fm), .int (nI rd), .int (nI mt), .int (nI dr), .ref j7, .ref j8, .int (nI tt), .int (bI (wl)), .ref j9, .int (nI lm), .long (hs)]))] [0] rfl rfl rfl ?_
    refine g_goto C 22 dX8_told_14 rfl ?_
    exact g_iret E dX8_told_22 (by decide) (by decide) ⟨rfl, rfl⟩
