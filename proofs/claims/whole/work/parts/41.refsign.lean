def sgM (b : Nat → Nat) (len u : Nat) : Nat := if u < len then b u else 0

def r_X8_hashes : Room := { frames := 0, cells := 0, slots := 0, locals := 0 }
set_option maxRecDepth 100000 in
set_option maxHeartbeats 4000000 in
theorem k_X8_hashes (l : Launch) (D : va_G) (ty : Nat → ClassId) (x0 : Nat) (th : Nat) (i1 : Nat) (i2 : Nat) (sd : Nat) (i3 : Nat) (ln : Nat) (j1 : Nat) (j2 : Nat) (j3 : Nat) (j4 : Nat) (j5 : Nat) (j6 : Nat) (fm : Nat) (rd : Nat) (mt : Nat) (dr : Nat) (j7 : Nat) (j8 : Nat) (tt : Nat) (wl : Bool) (j9 : Nat) (lm : Nat) (hs : Int64) (v : Int64)  : gM l D ty yX8_hashes cX8_hashes 3 none r_X8_hashes 0 0 [.ref x0, .long (v)] [(x0, .inr (6, [.int (nI th), .ref i1, .ref i2, .int (nI sd), .ref i3, .int (nI ln), .ref j1, .ref j2, .ref j3, .ref j4, .ref j5, .ref j6, .int (nI fm), .int (nI rd), .int (nI mt), .int (nI dr), .ref j7, .ref j8, .int (nI tt), .int (bI (wl)), .ref j9, .int (nI lm), .long (hs)]))] (fun (zr : Option Value) (zW : va_W) => zr = none ∧ zW = [(x0, .inr (6, [.int (nI th), .ref i1, .ref i2, .int (nI sd), .ref i3, .int (nI ln), .ref j1, .ref j2, .ref j3, .ref j4, .ref j5, .ref j6, .int (nI fm), .int (nI rd), .int (nI mt), .int (nI dr), .ref j7, .ref j8, .int (nI tt), .int (bI (wl)), .ref j9, .int (nI lm), .long (hsh hs v)]))]) := by
  refine gM_of RX8 rfl (by decide +kernel) (Nat.le_of_ble_eq_true rfl) ?_
  intro pg en s0 mi ag bl mth cd AA HH QQ C E hnm
  show gW pg l en r_X8_hashes s0 mi ag bl mth cd 3 D AA HH QQ 0 [(0, .ref x0), (1, .long (v))] [] [(x0, .inr (6, [.int (nI th), .ref i1, .ref i2, .int (nI sd), .ref i3, .int (nI ln), .ref j1, .ref j2, .ref j3, .ref j4, .ref j5, .ref j6, .int (nI fm), .int (nI rd), .int (nI mt), .int (nI dr), .ref j7, .ref j8, .int (nI tt), .int (bI (wl)), .ref j9, .int (nI lm), .long (hs)]))] 0 0
  refine g_aload_n C 0 rfl dX8_hashes_0 ?_
  refine g_ldc2 C wd_X8_229 dX8_hashes_1 ?_
  refine g_aload_n C 0 rfl dX8_hashes_4 ?_
  refine g_getf C wu_X8 0 rfl rfl 22 (by decide) wf_X8_231 rfl rfl dX8_hashes_5 ?_
  refine g_lmul C (31 * hs) dX8_hashes_8 rfl ?_
  refine g_lload_n C 1 rfl dX8_hashes_9 ?_
  refine g_ladd C (hsh hs v) dX8_hashes_10 rfl ?_
  refine g_putf C wu_X8 tyX8 tyX8_ok nmX8 0 rfl rfl 22 (by decide) wf_X8_231 rfl rfl rfl rfl (Nat.le_of_ble_eq_true rfl) dX8_hashes_11 [(x0, .inr (6, [.int (nI th), .ref i1, .ref i2, .int (nI sd), .ref i3, .int (nI ln), .ref j1, .ref j2, .ref j3, .ref j4, .ref j5, .ref j6, .int (nI fm), .int (nI rd), .int (nI mt), .int (nI dr), .ref j7, .ref j8, .int (nI tt), .int (bI (wl)), .ref j9, .int (nI lm), .long (hsh hs v)]))] rfl ?_
  exact g_vret E dX8_hashes_14 (by decide) (by decide) ⟨rfl, rfl⟩
def r_X8_sign : Room := { frames := 0, cells := 0, slots := 0, locals := 0 }
set_option maxRecDepth 100000 in
set_option maxHeartbeats 4000000 in
theorem k_X8_sign (l : Launch) (D : va_G) (ty : Nat → ClassId) (x0 : Nat) (th : Nat) (i1 : Nat) (i2 : Nat) (sd : Nat) (i3 : Nat) (ln : Nat) (j1 : Nat) (j2 : Nat) (j3 : Nat) (j4 : Nat) (j5 : Nat) (j6 : Nat) (fm : Nat) (rd : Nat) (mt : Nat) (dr : Nat) (j7 : Nat) (j8 : Nat) (tt : Nat) (wl : Bool) (j9 : Nat) (lm : Nat) (hs : Int64) (b : Nat → Nat) (hl : ln ≤ 60) (ht : tt < 2 ^ 31) : gM l D ty yX8_sign cX8_sign 1 (some (FieldType.int : FieldType)) r_X8_sign 0 0 [.ref x0] [(x0, .inr (6, [.int (nI th), .ref i1, .ref i2, .int (nI sd), .ref i3, .int (nI ln), .ref j1, .ref j2, .ref j3, .ref j4, .ref j5, .ref j6, .int (nI fm), .int (nI rd), .int (nI mt), .int (nI dr), .ref j7, .ref j8, .int (nI tt), .int (bI (wl)), .ref j9, .int (nI lm), .long (hs)])), (i3, .inl (ty 0, 60, .inl (tI b)))] (fun (zr : Option Value) (zW : va_W) => zr = some (.int (nI (sgM b ln tt))) ∧ zW = [(x0, .inr (6, [.int (nI th), .ref i1, .ref i2, .int (nI sd), .ref i3, .int (nI ln), .ref j1, .ref j2, .ref j3, .ref j4, .ref j5, .ref j6, .int (nI fm), .int (nI rd), .int (nI mt), .int (nI dr), .ref j7, .ref j8, .int (nI tt), .int (bI (wl)), .ref j9, .int (nI lm), .long (hs)])), (i3, .inl (ty 0, 60, .inl (tI b)))]) := by
  refine gM_of RX8 rfl (by decide +kernel) (Nat.le_of_ble_eq_true rfl) ?_
  intro pg en s0 mi ag bl mth cd AA HH QQ C E hnm
  show gW pg l en r_X8_sign s0 mi ag bl mth cd 1 D AA HH QQ 0 [(0, .ref x0)] [] [(x0, .inr (6, [.int (nI th), .ref i1, .ref i2, .int (nI sd), .ref i3, .int (nI ln), .ref j1, .ref j2, .ref j3, .ref j4, .ref j5, .ref j6, .int (nI fm), .int (nI rd), .int (nI mt), .int (nI dr), .ref j7, .ref j8, .int (nI tt), .int (bI (wl)), .ref j9, .int (nI lm), .long (hs)])), (i3, .inl (ty 0, 60, .inl (tI b)))] 0 0
  refine g_aload_n C 0 rfl dX8_sign_0 ?_
  refine g_getf C wu_X8 0 rfl rfl 18 (by decide) wf_X8_154 rfl rfl dX8_sign_1 ?_
  refine g_aload_n C 0 rfl dX8_sign_4 ?_
  refine g_getf C wu_X8 0 rfl rfl 5 (by decide) wf_X8_151 rfl rfl dX8_sign_5 ?_
  refine g_icmp_geN C tt ln 23 rfl rfl (by omega) (by omega) dX8_sign_8 rfl (fun c8 => ?_) (fun c8 => ?_)
  · skip
    refine g_iconst C (nI 0) ic_0 dX8_sign_23 ?_
    exact g_iret E dX8_sign_24 (by decide) (by decide) ⟨(congrArg (fun z => some (Value.int (nI z))) (by unfold sgM; first | (rw [if_pos (by omega)]; done) | (rw [if_neg (by omega)]; done))), rfl⟩
  · skip
    refine g_aload_n C 0 rfl dX8_sign_11 ?_
    refine g_getf C wu_X8 0 rfl rfl 4 (by decide) wf_X8_16 rfl rfl dX8_sign_12 ?_
    refine g_aload_n C 0 rfl dX8_sign_15 ?_
    refine g_getf C wu_X8 0 rfl rfl 18 (by decide) wf_X8_154 rfl rfl dX8_sign_16 ?_
    refine g_iald C 1 rfl tt rfl (by omega) (by decide) (nI (b tt)) rfl dX8_sign_19 ?_
    refine g_goto C 24 dX8_sign_20 rfl ?_
    exact g_iret E dX8_sign_24 (by decide) (by decide) ⟨(congrArg (fun z => some (Value.int (nI z))) (by unfold sgM; first | (rw [if_pos (by omega)]; done) | (rw [if_neg (by omega)]; done))), rfl⟩
