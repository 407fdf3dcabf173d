theorem fe_lt {b as : Nat → Nat} {n a : Nat} (h : fe b as n = some a) : a < n := by
  induction n with
  | zero => cases h
  | succ n ih =>
    rw [fe] at h
    split at h
    · rename_i i hi
      cases h
      have := ih hi
      omega
    · split at h
      · cases h
      · cases h; omega

def rx_X7_tell_x1 : Room := { frames := 6, cells := 1, slots := 6, locals := 132 }
set_option maxRecDepth 100000 in
set_option maxHeartbeats 4000000 in
theorem x_X7_tell_x1 (l : Launch) (D : va_G) (ty : Nat → ClassId) (hls : l.stackTraces = false) (x0 : Nat) (l0 : Nat) (v0 : Nat) (t0 : Nat) (y0 : Nat) (r0 : Nat) (p0 : Nat) (w0 : Nat) (sc : Nat) (z1 : Int32) (z2 : Int32) (z3 : Int32) (hf : isFi z1 z2 z3 = false) : gX l D ty yX7_tell cX7_tell 5 (some (FieldType.int : FieldType)) rx_X7_tell_x1 [.ref x0, .int (z1), .int (z2), .int (z3)] [(x0, .inr (5, [.ref l0, .ref v0, .int (nI sc), .ref t0, .ref y0, .ref r0, .ref p0, .ref w0]))] "java/lang/IllegalArgumentException" (fun (zW : va_W) => zW = [(x0, .inr (5, [.ref l0, .ref v0, .int (nI sc), .ref t0, .ref y0, .ref r0, .ref p0, .ref w0]))]) := by
  refine gX_of RX7 rfl (by decide +kernel) (Nat.le_of_ble_eq_true rfl) ?_
  intro pg en s0 mi ag bl mth cd AA C hX ht hlk hnm
  show gW pg l en rx_X7_tell_x1 s0 mi ag bl mth cd 5 D AA s0.heap _ 0 [(0, .ref x0), (1, .int (z1)), (2, .int (z2)), (3, .int (z3))] [] [(x0, .inr (5, [.ref l0, .ref v0, .int (nI sc), .ref t0, .ref y0, .ref r0, .ref p0, .ref w0]))] 0 0
  refine g_iload_n C 1 rfl dX7_tell_0 ?_
  refine g_iload_n C 2 rfl dX7_tell_1 ?_
  refine g_iload_n C 3 rfl dX7_tell_2 ?_
  refine g_callS0 C (nA := 3) (k_X1_isFact l D ty z1 z2 z3 ) wm_X7_47 ws_X1_isFact wi_X1 wc_X1_isFact rfl (by decide +kernel) ⟨(Nat.le_of_ble_eq_true rfl), (Nat.le_of_ble_eq_true rfl)⟩ ⟨rfl, rfl⟩ dX7_tell_3 (fun _ _ h => h.2) (Nat.le_of_ble_eq_true rfl) rfl ⟨Nat.zero_le _, Nat.zero_le _⟩ (fun r hp => ?_)
  obtain ⟨rfl, -⟩ := hp
  refine g_st [.int (bI (isFi z1 z2 z3))] rfl ?_
  refine g_if_neB C (isFi z1 z2 z3) 19 rfl dX7_tell_6 rfl (fun c6 => ?_) (fun c6 => ?_)
  · skip
    exact absurd (c6.symm.trans hf) (by decide)
  · skip
    exact g_throwS C hX ht hlk hls (cls := "java/lang/IllegalArgumentException") (text := "this is no fact") (ik := 53) (is := 55) (ic := 57) (by decide) wl_X7_53 xi_57 xat_57 (by decide +kernel) (by decide +kernel) dX7_tell_9 dX7_tell_12 dX7_tell_13 dX7_tell_15 dX7_tell_18 (by decide) (by decide) (by decide) (by decide) rfl
def rx_X7_untell_x1 : Room := { frames := 6, cells := 1, slots := 6, locals := 132 }
set_option maxRecDepth 100000 in
set_option maxHeartbeats 4000000 in
theorem x_X7_untell_x1 (l : Launch) (D : va_G) (ty : Nat → ClassId) (hls : l.stackTraces = false) (x0 : Nat) (l0 : Nat) (v0 : Nat) (t0 : Nat) (y0 : Nat) (r0 : Nat) (p0 : Nat) (w0 : Nat) (sc : Nat) (z1 : Int32) (z2 : Int32) (z3 : Int32) (hf : isFi z1 z2 z3 = false) : gX l D ty yX7_untell cX7_untell 6 (some (FieldType.int : FieldType)) rx_X7_untell_x1 [.ref x0, .int (z1), .int (z2), .int (z3)] [(x0, .inr (5, [.ref l0, .ref v0, .int (nI sc), .ref t0, .ref y0, .ref r0, .ref p0, .ref w0]))] "java/lang/IllegalArgumentException" (fun (zW : va_W) => zW = [(x0, .inr (5, [.ref l0, .ref v0, .int (nI sc), .ref t0, .ref y0, .ref r0, .ref p0, .ref w0]))]) := by
  refine gX_of RX7 rfl (by decide +kernel) (Nat.le_of_ble_eq_true rfl) ?_
  intro pg en s0 mi ag bl mth cd AA C hX ht hlk hnm
  show gW pg l en rx_X7_untell_x1 s0 mi ag bl mth cd 6 D AA s0.heap _ 0 [(0, .ref x0), (1, .int (z1)), (2, .int (z2)), (3, .int (z3))] [] [(x0, .inr (5, [.ref l0, .ref v0, .int (nI sc), .ref t0, .ref y0, .ref r0, .ref p0, .ref w0]))] 0 0
  refine g_iload_n C 1 rfl dX7_untell_0 ?_
  refine g_iload_n C 2 rfl dX7_untell_1 ?_
  refine g_iload_n C 3 rfl dX7_untell_2 ?_
  refine g_callS0 C (nA := 3) (k_X1_isFact l D ty z1 z2 z3 ) wm_X7_47 ws_X1_isFact wi_X1 wc_X1_isFact rfl (by decide +kernel) ⟨(Nat.le_of_ble_eq_true rfl), (Nat.le_of_ble_eq_true rfl)⟩ ⟨rfl, rfl⟩ dX7_untell_3 (fun _ _ h => h.2) (Nat.le_of_ble_eq_true rfl) rfl ⟨Nat.zero_le _, Nat.zero_le _⟩ (fun r hp => ?_)
  obtain ⟨rfl, -⟩ := hp
  refine g_st [.int (bI (isFi z1 z2 z3))] rfl ?_
  refine g_if_neB C (isFi z1 z2 z3) 19 rfl dX7_untell_6 rfl (fun c6 => ?_) (fun c6 => ?_)
  · skip
    exact absurd (c6.symm.trans hf) (by decide)
  · skip
    exact g_throwS C hX ht hlk hls (cls := "java/lang/IllegalArgumentException") (text := "this is no fact") (ik := 53) (is := 55) (ic := 57) (by decide) wl_X7_53 xi_57 xat_57 (by decide +kernel) (by decide +kernel) dX7_untell_9 dX7_untell_12 dX7_untell_13 dX7_untell_15 dX7_untell_18 (by decide) (by decide) (by decide) (by decide) rfl
def rx_X7_follows_x1 : Room := { frames := 6, cells := 1, slots := 6, locals := 96 }
set_option maxRecDepth 100000 in
set_option maxHeartbeats 4000000 in
theorem x_X7_follows_x1 (l : Launch) (D : va_G) (ty : Nat → ClassId) (hls : l.stackTraces = false) (x0 : Nat) (l0 : Nat) (v0 : Nat) (t0 : Nat) (y0 : Nat) (r0 : Nat) (p0 : Nat) (w0 : Nat) (sc : Nat) (z1 : Int32) (z2 : Int32) (z3 : Int32) (hf : isFi z1 z2 z3 = false) : gX l D ty yX7_follows cX7_follows 5 (some (FieldType.int : FieldType)) rx_X7_follows_x1 [.ref x0, .int (z1), .int (z2), .int (z3)] [(x0, .inr (5, [.ref l0, .ref v0, .int (nI sc), .ref t0, .ref y0, .ref r0, .ref p0, .ref w0]))] "java/lang/IllegalArgumentException" (fun (zW : va_W) => zW = [(x0, .inr (5, [.ref l0, .ref v0, .int (nI sc), .ref t0, .ref y0, .ref r0, .ref p0, .ref w0]))]) := by
  refine gX_of RX7 rfl (by decide +kernel) (Nat.le_of_ble_eq_true rfl) ?_
  intro pg en s0 mi ag bl mth cd AA C hX ht hlk hnm
  show gW pg l en rx_X7_follows_x1 s0 mi ag bl mth cd 5 D AA s0.heap _ 0 [(0, .ref x0), (1, .int (z1)), (2, .int (z2)), (3, .int (z3))] [] [(x0, .inr (5, [.ref l0, .ref v0, .int (nI sc), .ref t0, .ref y0, .ref r0, .ref p0, .ref w0]))] 0 0
  refine g_iload_n C 1 rfl dX7_follows_0 ?_
  refine g_iload_n C 2 rfl dX7_follows_1 ?_
  refine g_iload_n C 3 rfl dX7_follows_2 ?_
  refine g_callS0 C (nA := 3) (k_X1_isFact l D ty z1 z2 z3 ) wm_X7_47 ws_X1_isFact wi_X1 wc_X1_isFact rfl (by decide +kernel) ⟨(Nat.le_of_ble_eq_true rfl), (Nat.le_of_ble_eq_true rfl)⟩ ⟨rfl, rfl⟩ dX7_follows_3 (fun _ _ h => h.2) (Nat.le_of_ble_eq_true rfl) rfl ⟨Nat.zero_le _, Nat.zero_le _⟩ (fun r hp => ?_)
  obtain ⟨rfl, -⟩ := hp
  refine g_st [.int (bI (isFi z1 z2 z3))] rfl ?_
  refine g_if_neB C (isFi z1 z2 z3) 19 rfl dX7_follows_6 rfl (fun c6 => ?_) (fun c6 => ?_)
  · skip
    exact absurd (c6.symm.trans hf) (by decide)
  · skip
    exact g_throwS C hX ht hlk hls (cls := "java/lang/IllegalArgumentException") (text := "this is no fact") (ik := 53) (is := 55) (ic := 57) (by decide) wl_X7_53 xi_57 xat_57 (by decide +kernel) (by decide +kernel) dX7_follows_9 dX7_follows_12 dX7_follows_13 dX7_follows_15 dX7_follows_18 (by decide) (by decide) (by decide) (by decide) rfl
def rx_X7_instances_x1 : Room := { frames := 6, cells := 1, slots := 6, locals := 96 }
set_option maxRecDepth 100000 in
set_option maxHeartbeats 4000000 in
theorem x_X7_instances_x1 (l : Launch) (D : va_G) (ty : Nat → ClassId) (hls : l.stackTraces = false) (x0 : Nat) (l0 : Nat) (v0 : Nat) (t0 : Nat) (y0 : Nat) (r0 : Nat) (p0 : Nat) (w0 : Nat) (sc : Nat) (z1 : Int32) (z2 : Int32) (z3 : Int32) (hf : isFi z1 z2 z3 = false) : gX l D ty yX7_instances cX7_instances 5 (some (FieldType.int : FieldType)) rx_X7_instances_x1 [.ref x0, .int (z1), .int (z2), .int (z3)] [(x0, .inr (5, [.ref l0, .ref v0, .int (nI sc), .ref t0, .ref y0, .ref r0, .ref p0, .ref w0]))] "java/lang/IllegalArgumentException" (fun (zW : va_W) => zW = [(x0, .inr (5, [.ref l0, .ref v0, .int (nI sc), .ref t0, .ref y0, .ref r0, .ref p0, .ref w0]))]) := by
  refine gX_of RX7 rfl (by decide +kernel) (Nat.le_of_ble_eq_true rfl) ?_
  intro pg en s0 mi ag bl mth cd AA C hX ht hlk hnm
  show gW pg l en rx_X7_instances_x1 s0 mi ag bl mth cd 5 D AA s0.heap _ 0 [(0, .ref x0), (1, .int (z1)), (2, .int (z2)), (3, .int (z3))] [] [(x0, .inr (5, [.ref l0, .ref v0, .int (nI sc), .ref t0, .ref y0, .ref r0, .ref p0, .ref w0]))] 0 0
  refine g_iload_n C 1 rfl dX7_instances_0 ?_
  refine g_iload_n C 2 rfl dX7_instances_1 ?_
  refine g_iload_n C 3 rfl dX7_instances_2 ?_
  refine g_callS0 C (nA := 3) (k_X1_isFact l D ty z1 z2 z3 ) wm_X7_47 ws_X1_isFact wi_X1 wc_X1_isFact rfl (by decide +kernel) ⟨(Nat.le_of_ble_eq_true rfl), (Nat.le_of_ble_eq_true rfl)⟩ ⟨rfl, rfl⟩ dX7_instances_3 (fun _ _ h => h.2) (Nat.le_of_ble_eq_true rfl) rfl ⟨Nat.zero_le _, Nat.zero_le _⟩ (fun r hp => ?_)
  obtain ⟨rfl, -⟩ := hp
  refine g_st [.int (bI (isFi z1 z2 z3))] rfl ?_
  refine g_if_neB C (isFi z1 z2 z3) 19 rfl dX7_instances_6 rfl (fun c6 => ?_) (fun c6 => ?_)
  · skip
    exact absurd (c6.symm.trans hf) (by decide)
  · skip
    exact g_throwS C hX ht hlk hls (cls := "java/lang/IllegalArgumentException") (text := "this is no fact") (ik := 53) (is := 55) (ic := 57) (by decide) wl_X7_53 xi_57 xat_57 (by decide +kernel) (by decide +kernel) dX7_instances_9 dX7_instances_12 dX7_instances_13 dX7_instances_15 dX7_instances_18 (by decide) (by decide) (by decide) (by decide) rfl
def rx_X7_tell_x2 : Room := { frames := 6, cells := 1, slots := 6, locals := 132 }
set_option maxRecDepth 100000 in
set_option maxHeartbeats 4000000 in
theorem x_X7_tell_x2 (l : Launch) (D : va_G) (ty : Nat → ClassId) (hls : l.stackTraces = false) (x0 : Nat) (l0 : Nat) (v0 : Nat) (t0 : Nat) (y0 : Nat) (r0 : Nat) (p0 : Nat) (w0 : Nat) (l1 : Nat) (l2 : Nat) (l3 : Nat) (T : Nat → Bool) (q : Nat → Nat) (nr : Nat) (sc : Nat) (a : Nat) (ha : a < 256) (hf : isF a = true) (hno : T a = false) (h12 : 12 ≤ zcnt T 256) : gX l D ty yX7_tell cX7_tell 5 (some (FieldType.int : FieldType)) rx_X7_tell_x2 [.ref x0, .int (nI (a / 64)), .int (nI (a / 8 % 8)), .int (nI (a % 8))] [(x0, .inr (5, [.ref l0, .ref v0, .int (nI sc), .ref t0, .ref y0, .ref r0, .ref p0, .ref w0])), (l0, .inr (2, [.ref l1, .ref l2, .int (nI nr)])), (l1, .inr (0, [.ref l3])), (l3, .inl (ty 1, 4, .inr (.inl (zM T)))), (l2, .inl (ty 0, 18, .inl (eR q)))] "java/lang/IllegalStateException" (fun (zW : va_W) => zW = [(x0, .inr (5, [.ref l0, .ref v0, .int (nI sc), .ref t0, .ref y0, .ref r0, .ref p0, .ref w0])), (l0, .inr (2, [.ref l1, .ref l2, .int (nI nr)])), (l1, .inr (0, [.ref l3])), (l3, .inl (ty 1, 4, .inr (.inl (zM T)))), (l2, .inl (ty 0, 18, .inl (eR q)))]) := by
  refine gX_of RX7 rfl (by decide +kernel) (Nat.le_of_ble_eq_true rfl) ?_
  intro pg en s0 mi ag bl mth cd AA C hX ht hlk hnm
  show gW pg l en rx_X7_tell_x2 s0 mi ag bl mth cd 5 D AA s0.heap _ 0 [(0, .ref x0), (1, .int (nI (a / 64))), (2, .int (nI (a / 8 % 8))), (3, .int (nI (a % 8)))] [] [(x0, .inr (5, [.ref l0, .ref v0, .int (nI sc), .ref t0, .ref y0, .ref r0, .ref p0, .ref w0])), (l0, .inr (2, [.ref l1, .ref l2, .int (nI nr)])), (l1, .inr (0, [.ref l3])), (l3, .inl (ty 1, 4, .inr (.inl (zM T)))), (l2, .inl (ty 0, 18, .inl (eR q)))] 0 0
  refine g_iload_n C 1 rfl dX7_tell_0 ?_
  refine g_iload_n C 2 rfl dX7_tell_1 ?_
  refine g_iload_n C 3 rfl dX7_tell_2 ?_
  refine g_callS0 C (nA := 3) (k_X1_isFact l D ty ((nI (a / 64))) ((nI (a / 8 % 8))) ((nI (a % 8))) ) wm_X7_47 ws_X1_isFact wi_X1 wc_X1_isFact rfl (by decide +kernel) ⟨(Nat.le_of_ble_eq_true rfl), (Nat.le_of_ble_eq_true rfl)⟩ ⟨rfl, rfl⟩ dX7_tell_3 (fun _ _ h => h.2) (Nat.le_of_ble_eq_true rfl) rfl ⟨Nat.zero_le _, Nat.zero_le _⟩ (fun r hp => ?_)
  obtain ⟨rfl, -⟩ := hp
  refine g_st [.int (bI (isFi ((nI (a / 64))) ((nI (a / 8 % 8))) ((nI (a % 8)))))] rfl ?_
  refine g_if_neB C (isFi ((nI (a / 64))) ((nI (a / 8 % 8))) ((nI (a % 8)))) 19 rfl dX7_tell_6 rfl (fun c6 => ?_) (fun c6 => ?_)
  · skip
    refine g_iload_n C 1 rfl dX7_tell_19 ?_
    refine g_iload_n C 2 rfl dX7_tell_20 ?_
    refine g_iload_n C 3 rfl dX7_tell_21 ?_
    refine g_callS0 C (nA := 3) (k_X1_of l D ty (a / 64) (a / 8 % 8) (a % 8) ) wm_X7_60 ws_X1_of wi_X1 wc_X1_of rfl (by decide +kernel) ⟨(Nat.le_of_ble_eq_true rfl), (Nat.le_of_ble_eq_true rfl)⟩ ⟨rfl, rfl⟩ dX7_tell_22 (fun _ _ h => h.2) (Nat.le_of_ble_eq_true rfl) rfl ⟨Nat.zero_le _, Nat.zero_le _⟩ (fun r hp => ?_)
    obtain ⟨rfl, -⟩ := hp
    refine g_st [.int (nI (64 * (a / 64) + 8 * (a / 8 % 8) + (a % 8)))] rfl ?_
    refine g_st [.int (nI a)] (by rw [show 64 * (a / 64) + 8 * (a / 8 % 8) + a % 8 = a by omega]) ?_
    refine g_istore C [(4, .int (nI a)), (0, .ref x0), (1, .int (nI (a / 64))), (2, .int (nI (a / 8 % 8))), (3, .int (nI (a % 8)))] dX7_tell_25 (by decide) rfl ?_
    refine g_aload_n C 1 rfl dX7_tell_27 ?_
    refine g_getf C wu_X7 0 rfl rfl 0 (by decide) wf_X7_10 rfl rfl dX7_tell_28 ?_
    refine g_getf C wu_X4 1 rfl rfl 0 (by decide) wf_X7_64 rfl rfl dX7_tell_31 ?_
    refine g_iload C 0 rfl dX7_tell_34 ?_
    refine g_callV C (nA := 1) (ci := 0) (q0 := 0) (As := [.int (nI a)]) (wr := [(x0, .inr (5, [.ref l0, .ref v0, .int (nI sc), .ref t0, .ref y0, .ref r0, .ref p0, .ref w0])), (l0, .inr (2, [.ref l1, .ref l2, .int (nI nr)])), (l2, .inl (ty 0, 18, .inl (eR q)))]) (k_X2_has l D ty l1 l3 T a (by omega)) wm_X7_68 wn_X2_has wv_X2_has wi_X2 wc_X2_has rfl (by decide +kernel) ⟨(Nat.le_of_ble_eq_true rfl), (Nat.le_of_ble_eq_true rfl)⟩ ⟨rfl, rfl⟩ dX7_tell_36 ⟨Nat.zero_le _, Nat.zero_le _⟩ rfl rfl rfl [2, 3] [0, 1, 4] rfl rfl rfl rfl (by decide) (Nat.le_of_ble_eq_true rfl) rfl (fun r W1 hp => ?_)
    obtain ⟨rfl, rfl⟩ := hp
    refine g_fix [.int (bI (T a))] [(x0, .inr (5, [.ref l0, .ref v0, .int (nI sc), .ref t0, .ref y0, .ref r0, .ref p0, .ref w0])), (l0, .inr (2, [.ref l1, .ref l2, .int (nI nr)])), (l1, .inr (0, [.ref l3])), (l3, .inl (ty 1, 4, .inr (.inl (zM T)))), (l2, .inl (ty 0, 18, .inl (eR q)))] [0, 1, 3, 4, 2] rfl rfl rfl ?_
    refine g_if_neB C (T a) 67 rfl dX7_tell_39 rfl (fun c39 => ?_) (fun c39 => ?_)
    · skip
      exact absurd (c39.symm.trans hno) (by decide)
    · skip
      refine g_aload_n C 1 rfl dX7_tell_42 ?_
      refine g_getf C wu_X7 0 rfl rfl 0 (by decide) wf_X7_10 rfl rfl dX7_tell_43 ?_
      refine g_getf C wu_X4 1 rfl rfl 0 (by decide) wf_X7_64 rfl rfl dX7_tell_46 ?_
      refine g_callV C (nA := 0) (ci := 0) (q0 := 0) (As := []) (wr := [(x0, .inr (5, [.ref l0, .ref v0, .int (nI sc), .ref t0, .ref y0, .ref r0, .ref p0, .ref w0])), (l0, .inr (2, [.ref l1, .ref l2, .int (nI nr)])), (l2, .inl (ty 0, 18, .inl (eR q)))]) (k_X2_size l D ty l1 l3 T ) wm_X7_74 wn_X2_size wv_X2_size wi_X2 wc_X2_size rfl (by decide +kernel) ⟨(Nat.le_of_ble_eq_true rfl), (Nat.le_of_ble_eq_true rfl)⟩ ⟨rfl, rfl⟩ dX7_tell_49 ⟨Nat.zero_le _, Nat.zero_le _⟩ rfl rfl rfl [2, 3] [0, 1, 4] rfl rfl rfl rfl (by decide) (Nat.le_of_ble_eq_true rfl) rfl (fun r W1 hp => ?_)
      obtain ⟨rfl, rfl⟩ := hp
      refine g_fix [.int (nI (zcnt T 256))] [(x0, .inr (5, [.ref l0, .ref v0, .int (nI sc), .ref t0, .ref y0, .ref r0, .ref p0, .ref w0])), (l0, .inr (2, [.ref l1, .ref l2, .int (nI nr)])), (l1, .inr (0, [.ref l3])), (l3, .inl (ty 1, 4, .inr (.inl (zM T)))), (l2, .inl (ty 0, 18, .inl (eR q)))] [0, 1, 3, 4, 2] rfl rfl rfl ?_
      refine g_bipush C (nI 12) bp_12 dX7_tell_52 ?_
      refine g_icmp_ltN C (zcnt T 256) 12 67 rfl rfl (by have := zcnt_le T 256; omega) (by omega) dX7_tell_54 rfl (fun c54 => ?_) (fun c54 => ?_)
      · skip
        exact absurd c54 (by omega)
      · skip
        exact g_throwS C hX ht hlk hls (cls := "java/lang/IllegalStateException") (text := "12 facts are told") (ik := 78) (is := 80) (ic := 82) (by decide) wl_X7_78 xi_82 xat_82 (by decide +kernel) (by decide +kernel) dX7_tell_57 dX7_tell_60 dX7_tell_61 dX7_tell_63 dX7_tell_66 (by decide) (by decide) (by decide) (by decide) rfl
  · skip
    exact absurd c6 (by rw [isFi_N a ha, hf]; decide)
def rx_X7_rule_x1 : Room := { frames := 6, cells := 1, slots := 6, locals := 155 }
set_option maxRecDepth 100000 in
set_option maxHeartbeats 4000000 in
theorem x_X7_rule_x1 (l : Launch) (D : va_G) (ty : Nat → ClassId) (hls : l.stackTraces = false) (x0 : Nat) (l0 : Nat) (v0 : Nat) (t0 : Nat) (y0 : Nat) (r0 : Nat) (p0 : Nat) (w0 : Nat) (sc : Nat) (z1 : Int32) (z2 : Int32) (hz : isA z1 = false ∨ isA z2 = false) : gX l D ty yX7_rule cX7_rule 3 (some (FieldType.int : FieldType)) rx_X7_rule_x1 [.ref x0, .int (z1), .int (z2)] [(x0, .inr (5, [.ref l0, .ref v0, .int (nI sc), .ref t0, .ref y0, .ref r0, .ref p0, .ref w0]))] "java/lang/IllegalArgumentException" (fun (zW : va_W) => zW = [(x0, .inr (5, [.ref l0, .ref v0, .int (nI sc), .ref t0, .ref y0, .ref r0, .ref p0, .ref w0]))]) := by
  refine gX_of RX7 rfl (by decide +kernel) (Nat.le_of_ble_eq_true rfl) ?_
  intro pg en s0 mi ag bl mth cd AA C hX ht hlk hnm
  show gW pg l en rx_X7_rule_x1 s0 mi ag bl mth cd 3 D AA s0.heap _ 0 [(0, .ref x0), (1, .int (z1)), (2, .int (z2))] [] [(x0, .inr (5, [.ref l0, .ref v0, .int (nI sc), .ref t0, .ref y0, .ref r0, .ref p0, .ref w0]))] 0 0
  refine g_iload_n C 1 rfl dX7_rule_0 ?_
  refine g_callS0 C (nA := 1) (k_X1_isAtom l D ty z1 ) wm_X7_97 ws_X1_isAtom wi_X1 wc_X1_isAtom rfl (by decide +kernel) ⟨(Nat.le_of_ble_eq_true rfl), (Nat.le_of_ble_eq_true rfl)⟩ ⟨rfl, rfl⟩ dX7_rule_1 (fun _ _ h => h.2) (Nat.le_of_ble_eq_true rfl) rfl ⟨Nat.zero_le _, Nat.zero_le _⟩ (fun r hp => ?_)
  obtain ⟨rfl, -⟩ := hp
  refine g_st [.int (bI (isA z1))] rfl ?_
  refine g_if_eqB C (isA z1) 14 rfl dX7_rule_4 rfl (fun c4 => ?_) (fun c4 => ?_)
  · skip
    exact g_throwS C hX ht hlk hls (cls := "java/lang/IllegalArgumentException") (text := "a part is 0 to 255") (ik := 53) (is := 100) (ic := 57) (by decide) wl_X7_53 xi_57 xat_57 (by decide +kernel) (by decide +kernel) dX7_rule_14 dX7_rule_17 dX7_rule_18 dX7_rule_20 dX7_rule_23 (by decide) (by decide) (by decide) (by decide) rfl
  · skip
    refine g_iload_n C 2 rfl dX7_rule_7 ?_
    refine g_callS0 C (nA := 1) (k_X1_isAtom l D ty z2 ) wm_X7_97 ws_X1_isAtom wi_X1 wc_X1_isAtom rfl (by decide +kernel) ⟨(Nat.le_of_ble_eq_true rfl), (Nat.le_of_ble_eq_true rfl)⟩ ⟨rfl, rfl⟩ dX7_rule_8 (fun _ _ h => h.2) (Nat.le_of_ble_eq_true rfl) rfl ⟨Nat.zero_le _, Nat.zero_le _⟩ (fun r hp => ?_)
    obtain ⟨rfl, -⟩ := hp
    refine g_st [.int (bI (isA z2))] rfl ?_
    refine g_if_neB C (isA z2) 24 rfl dX7_rule_11 rfl (fun c11 => ?_) (fun c11 => ?_)
    · skip
      exact absurd hz (by rw [c4, c11]; decide)
    · skip
      exact g_throwS C hX ht hlk hls (cls := "java/lang/IllegalArgumentException") (text := "a part is 0 to 255") (ik := 53) (is := 100) (ic := 57) (by decide) wl_X7_53 xi_57 xat_57 (by decide +kernel) (by decide +kernel) dX7_rule_14 dX7_rule_17 dX7_rule_18 dX7_rule_20 dX7_rule_23 (by decide) (by decide) (by decide) (by decide) rfl
def rx_X7_rule_x2 : Room := { frames := 6, cells := 1, slots := 6, locals := 155 }
set_option maxRecDepth 100000 in
set_option maxHeartbeats 4000000 in
theorem x_X7_rule_x2 (l : Launch) (D : va_G) (ty : Nat → ClassId) (hls : l.stackTraces = false) (x0 : Nat) (l0 : Nat) (v0 : Nat) (t0 : Nat) (y0 : Nat) (r0 : Nat) (p0 : Nat) (w0 : Nat) (l1 : Nat) (l2 : Nat) (l3 : Nat) (T : Nat → Bool) (q : Nat → Nat) (nr : Nat) (sc : Nat) (h : Nat) (a : Nat) (hn : 6 ≤ nr) (hn2 : nr ≤ 6) (hh : h < 256) (ha : a < 256) : gX l D ty yX7_rule cX7_rule 3 (some (FieldType.int : FieldType)) rx_X7_rule_x2 [.ref x0, .int (nI h), .int (nI a)] [(x0, .inr (5, [.ref l0, .ref v0, .int (nI sc), .ref t0, .ref y0, .ref r0, .ref p0, .ref w0])), (l0, .inr (2, [.ref l1, .ref l2, .int (nI nr)])), (l1, .inr (0, [.ref l3])), (l3, .inl (ty 1, 4, .inr (.inl (zM T)))), (l2, .inl (ty 0, 18, .inl (eR q)))] "java/lang/IllegalStateException" (fun (zW : va_W) => zW = [(x0, .inr (5, [.ref l0, .ref v0, .int (nI sc), .ref t0, .ref y0, .ref r0, .ref p0, .ref w0])), (l0, .inr (2, [.ref l1, .ref l2, .int (nI nr)])), (l1, .inr (0, [.ref l3])), (l3, .inl (ty 1, 4, .inr (.inl (zM T)))), (l2, .inl (ty 0, 18, .inl (eR q)))]) := by
  refine gX_of RX7 rfl (by decide +kernel) (Nat.le_of_ble_eq_true rfl) ?_
  intro pg en s0 mi ag bl mth cd AA C hX ht hlk hnm
  show gW pg l en rx_X7_rule_x2 s0 mi ag bl mth cd 3 D AA s0.heap _ 0 [(0, .ref x0), (1, .int (nI h)), (2, .int (nI a))] [] [(x0, .inr (5, [.ref l0, .ref v0, .int (nI sc), .ref t0, .ref y0, .ref r0, .ref p0, .ref w0])), (l0, .inr (2, [.ref l1, .ref l2, .int (nI nr)])), (l1, .inr (0, [.ref l3])), (l3, .inl (ty 1, 4, .inr (.inl (zM T)))), (l2, .inl (ty 0, 18, .inl (eR q)))] 0 0
  refine g_iload_n C 1 rfl dX7_rule_0 ?_
  refine g_callS0 C (nA := 1) (k_X1_isAtom l D ty ((nI h)) ) wm_X7_97 ws_X1_isAtom wi_X1 wc_X1_isAtom rfl (by decide +kernel) ⟨(Nat.le_of_ble_eq_true rfl), (Nat.le_of_ble_eq_true rfl)⟩ ⟨rfl, rfl⟩ dX7_rule_1 (fun _ _ h => h.2) (Nat.le_of_ble_eq_true rfl) rfl ⟨Nat.zero_le _, Nat.zero_le _⟩ (fun r hp => ?_)
  obtain ⟨rfl, -⟩ := hp
  refine g_st [.int (bI (isA ((nI h))))] rfl ?_
  refine g_if_eqB C (isA ((nI h))) 14 rfl dX7_rule_4 rfl (fun c4 => ?_) (fun c4 => ?_)
  · skip
    exact absurd c4 (by rw [isA_N hh]; decide)
  · skip
    refine g_iload_n C 2 rfl dX7_rule_7 ?_
    refine g_callS0 C (nA := 1) (k_X1_isAtom l D ty ((nI a)) ) wm_X7_97 ws_X1_isAtom wi_X1 wc_X1_isAtom rfl (by decide +kernel) ⟨(Nat.le_of_ble_eq_true rfl), (Nat.le_of_ble_eq_true rfl)⟩ ⟨rfl, rfl⟩ dX7_rule_8 (fun _ _ h => h.2) (Nat.le_of_ble_eq_true rfl) rfl ⟨Nat.zero_le _, Nat.zero_le _⟩ (fun r hp => ?_)
    obtain ⟨rfl, -⟩ := hp
    refine g_st [.int (bI (isA ((nI a))))] rfl ?_
    refine g_if_neB C (isA ((nI a))) 24 rfl dX7_rule_11 rfl (fun c11 => ?_) (fun c11 => ?_)
    · skip
      refine g_aload_n C 0 rfl dX7_rule_24 ?_
      refine g_getf C wu_X7 0 rfl rfl 0 (by decide) wf_X7_10 rfl rfl dX7_rule_25 ?_
      refine g_callV C (nA := 0) (ci := 2) (q0 := 0) (As := []) (wr := [(x0, .inr (5, [.ref l0, .ref v0, .int (nI sc), .ref t0, .ref y0, .ref r0, .ref p0, .ref w0])), (l1, .inr (0, [.ref l3])), (l3, .inl (ty 1, 4, .inr (.inl (zM T)))), (l2, .inl (ty 0, 18, .inl (eR q)))]) (k_X4_ruleCount l D ty l0 l1 l2 nr ) wm_X7_102 wn_X4_ruleCount wv_X4_ruleCount wi_X4 wc_X4_ruleCount rfl (by decide +kernel) ⟨(Nat.le_of_ble_eq_true rfl), (Nat.le_of_ble_eq_true rfl)⟩ ⟨rfl, rfl⟩ dX7_rule_28 ⟨Nat.zero_le _, Nat.zero_le _⟩ rfl rfl rfl [1] [0, 2, 3, 4] rfl rfl rfl rfl (by decide) (Nat.le_of_ble_eq_true rfl) rfl (fun r W1 hp => ?_)
      obtain ⟨rfl, rfl⟩ := hp
      refine g_fix [.int (nI nr)] [(x0, .inr (5, [.ref l0, .ref v0, .int (nI sc), .ref t0, .ref y0, .ref r0, .ref p0, .ref w0])), (l0, .inr (2, [.ref l1, .ref l2, .int (nI nr)])), (l1, .inr (0, [.ref l3])), (l3, .inl (ty 1, 4, .inr (.inl (zM T)))), (l2, .inl (ty 0, 18, .inl (eR q)))] [0, 4, 1, 2, 3] rfl rfl rfl ?_
      refine g_bipush C (nI 6) bp_6 dX7_rule_31 ?_
      refine g_icmp_ltN C nr 6 46 rfl rfl (by omega) (by omega) dX7_rule_33 rfl (fun c33 => ?_) (fun c33 => ?_)
      · skip
        exact absurd c33 (by omega)
      · skip
        exact g_throwS C hX ht hlk hls (cls := "java/lang/IllegalStateException") (text := "there are 6 rules") (ik := 78) (is := 105) (ic := 82) (by decide) wl_X7_78 xi_82 xat_82 (by decide +kernel) (by decide +kernel) dX7_rule_36 dX7_rule_39 dX7_rule_40 dX7_rule_42 dX7_rule_45 (by decide) (by decide) (by decide) (by decide) rfl
    · skip
      exact absurd c11 (by rw [isA_N ha]; decide)
def rx_X7_joining_x1 : Room := { frames := 6, cells := 1, slots := 6, locals := 155 }
set_option maxRecDepth 100000 in
set_option maxHeartbeats 4000000 in
theorem x_X7_joining_x1 (l : Launch) (D : va_G) (ty : Nat → ClassId) (hls : l.stackTraces = false) (x0 : Nat) (l0 : Nat) (v0 : Nat) (t0 : Nat) (y0 : Nat) (r0 : Nat) (p0 : Nat) (w0 : Nat) (sc : Nat) (z1 : Int32) (z2 : Int32) (z3 : Int32) (hz : isA z1 = false ∨ isA z2 = false ∨ isA z3 = false) : gX l D ty yX7_joining cX7_joining 4 (some (FieldType.int : FieldType)) rx_X7_joining_x1 [.ref x0, .int (z1), .int (z2), .int (z3)] [(x0, .inr (5, [.ref l0, .ref v0, .int (nI sc), .ref t0, .ref y0, .ref r0, .ref p0, .ref w0]))] "java/lang/IllegalArgumentException" (fun (zW : va_W) => zW = [(x0, .inr (5, [.ref l0, .ref v0, .int (nI sc), .ref t0, .ref y0, .ref r0, .ref p0, .ref w0]))]) := by
  refine gX_of RX7 rfl (by decide +kernel) (Nat.le_of_ble_eq_true rfl) ?_
  intro pg en s0 mi ag bl mth cd AA C hX ht hlk hnm
  show gW pg l en rx_X7_joining_x1 s0 mi ag bl mth cd 4 D AA s0.heap _ 0 [(0, .ref x0), (1, .int (z1)), (2, .int (z2)), (3, .int (z3))] [] [(x0, .inr (5, [.ref l0, .ref v0, .int (nI sc), .ref t0, .ref y0, .ref r0, .ref p0, .ref w0]))] 0 0
  refine g_iload_n C 1 rfl dX7_joining_0 ?_
  refine g_callS0 C (nA := 1) (k_X1_isAtom l D ty z1 ) wm_X7_97 ws_X1_isAtom wi_X1 wc_X1_isAtom rfl (by decide +kernel) ⟨(Nat.le_of_ble_eq_true rfl), (Nat.le_of_ble_eq_true rfl)⟩ ⟨rfl, rfl⟩ dX7_joining_1 (fun _ _ h => h.2) (Nat.le_of_ble_eq_true rfl) rfl ⟨Nat.zero_le _, Nat.zero_le _⟩ (fun r hp => ?_)
  obtain ⟨rfl, -⟩ := hp
  refine g_st [.int (bI (isA z1))] rfl ?_
  refine g_if_eqB C (isA z1) 21 rfl dX7_joining_4 rfl (fun c4 => ?_) (fun c4 => ?_)
  · skip
    exact g_throwS C hX ht hlk hls (cls := "java/lang/IllegalArgumentException") (text := "a part is 0 to 255") (ik := 53) (is := 100) (ic := 57) (by decide) wl_X7_53 xi_57 xat_57 (by decide +kernel) (by decide +kernel) dX7_joining_21 dX7_joining_24 dX7_joining_25 dX7_joining_27 dX7_joining_30 (by decide) (by decide) (by decide) (by decide) rfl
  · skip
    refine g_iload_n C 2 rfl dX7_joining_7 ?_
    refine g_callS0 C (nA := 1) (k_X1_isAtom l D ty z2 ) wm_X7_97 ws_X1_isAtom wi_X1 wc_X1_isAtom rfl (by decide +kernel) ⟨(Nat.le_of_ble_eq_true rfl), (Nat.le_of_ble_eq_true rfl)⟩ ⟨rfl, rfl⟩ dX7_joining_8 (fun _ _ h => h.2) (Nat.le_of_ble_eq_true rfl) rfl ⟨Nat.zero_le _, Nat.zero_le _⟩ (fun r hp => ?_)
    obtain ⟨rfl, -⟩ := hp
    refine g_st [.int (bI (isA z2))] rfl ?_
    refine g_if_eqB C (isA z2) 21 rfl dX7_joining_11 rfl (fun c11 => ?_) (fun c11 => ?_)
    · skip
      exact g_throwS C hX ht hlk hls (cls := "java/lang/IllegalArgumentException") (text := "a part is 0 to 255") (ik := 53) (is := 100) (ic := 57) (by decide) wl_X7_53 xi_57 xat_57 (by decide +kernel) (by decide +kernel) dX7_joining_21 dX7_joining_24 dX7_joining_25 dX7_joining_27 dX7_joining_30 (by decide) (by decide) (by decide) (by decide) rfl
    · skip
      refine g_iload_n C 3 rfl dX7_joining_14 ?_
      refine g_callS0 C (nA := 1) (k_X1_isAtom l D ty z3 ) wm_X7_97 ws_X1_isAtom wi_X1 wc_X1_isAtom rfl (by decide +kernel) ⟨(Nat.le_of_ble_eq_true rfl), (Nat.le_of_ble_eq_true rfl)⟩ ⟨rfl, rfl⟩ dX7_joining_15 (fun _ _ h => h.2) (Nat.le_of_ble_eq_true rfl) rfl ⟨Nat.zero_le _, Nat.zero_le _⟩ (fun r hp => ?_)
      obtain ⟨rfl, -⟩ := hp
      refine g_st [.int (bI (isA z3))] rfl ?_
      refine g_if_neB C (isA z3) 31 rfl dX7_joining_18 rfl (fun c18 => ?_) (fun c18 => ?_)
      · skip
        exact absurd hz (by rw [c4, c11, c18]; decide)
      · skip
        exact g_throwS C hX ht hlk hls (cls := "java/lang/IllegalArgumentException") (text := "a part is 0 to 255") (ik := 53) (is := 100) (ic := 57) (by decide) wl_X7_53 xi_57 xat_57 (by decide +kernel) (by decide +kernel) dX7_joining_21 dX7_joining_24 dX7_joining_25 dX7_joining_27 dX7_joining_30 (by decide) (by decide) (by decide) (by decide) rfl
def rx_X7_joining_x2 : Room := { frames := 6, cells := 1, slots := 6, locals := 155 }
set_option maxRecDepth 100000 in
set_option maxHeartbeats 4000000 in
theorem x_X7_joining_x2 (l : Launch) (D : va_G) (ty : Nat → ClassId) (hls : l.stackTraces = false) (x0 : Nat) (l0 : Nat) (v0 : Nat) (t0 : Nat) (y0 : Nat) (r0 : Nat) (p0 : Nat) (w0 : Nat) (l1 : Nat) (l2 : Nat) (l3 : Nat) (T : Nat → Bool) (q : Nat → Nat) (nr : Nat) (sc : Nat) (h : Nat) (a : Nat) (b : Nat) (hn : 6 ≤ nr) (hn2 : nr ≤ 6) (hh : h < 256) (ha : a < 256) (hb : b < 256) : gX l D ty yX7_joining cX7_joining 4 (some (FieldType.int : FieldType)) rx_X7_joining_x2 [.ref x0, .int (nI h), .int (nI a), .int (nI b)] [(x0, .inr (5, [.ref l0, .ref v0, .int (nI sc), .ref t0, .ref y0, .ref r0, .ref p0, .ref w0])), (l0, .inr (2, [.ref l1, .ref l2, .int (nI nr)])), (l1, .inr (0, [.ref l3])), (l3, .inl (ty 1, 4, .inr (.inl (zM T)))), (l2, .inl (ty 0, 18, .inl (eR q)))] "java/lang/IllegalStateException" (fun (zW : va_W) => zW = [(x0, .inr (5, [.ref l0, .ref v0, .int (nI sc), .ref t0, .ref y0, .ref r0, .ref p0, .ref w0])), (l0, .inr (2, [.ref l1, .ref l2, .int (nI nr)])), (l1, .inr (0, [.ref l3])), (l3, .inl (ty 1, 4, .inr (.inl (zM T)))), (l2, .inl (ty 0, 18, .inl (eR q)))]) := by
  refine gX_of RX7 rfl (by decide +kernel) (Nat.le_of_ble_eq_true rfl) ?_
  intro pg en s0 mi ag bl mth cd AA C hX ht hlk hnm
  show gW pg l en rx_X7_joining_x2 s0 mi ag bl mth cd 4 D AA s0.heap _ 0 [(0, .ref x0), (1, .int (nI h)), (2, .int (nI a)), (3, .int (nI b))] [] [(x0, .inr (5, [.ref l0, .ref v0, .int (nI sc), .ref t0, .ref y0, .ref r0, .ref p0, .ref w0])), (l0, .inr (2, [.ref l1, .ref l2, .int (nI nr)])), (l1, .inr (0, [.ref l3])), (l3, .inl (ty 1, 4, .inr (.inl (zM T)))), (l2, .inl (ty 0, 18, .inl (eR q)))] 0 0
  refine g_iload_n C 1 rfl dX7_joining_0 ?_
  refine g_callS0 C (nA := 1) (k_X1_isAtom l D ty ((nI h)) ) wm_X7_97 ws_X1_isAtom wi_X1 wc_X1_isAtom rfl (by decide +kernel) ⟨(Nat.le_of_ble_eq_true rfl), (Nat.le_of_ble_eq_true rfl)⟩ ⟨rfl, rfl⟩ dX7_joining_1 (fun _ _ h => h.2) (Nat.le_of_ble_eq_true rfl) rfl ⟨Nat.zero_le _, Nat.zero_le _⟩ (fun r hp => ?_)
  obtain ⟨rfl, -⟩ := hp
  refine g_st [.int (bI (isA ((nI h))))] rfl ?_
  refine g_if_eqB C (isA ((nI h))) 21 rfl dX7_joining_4 rfl (fun c4 => ?_) (fun c4 => ?_)
  · skip
    exact absurd c4 (by rw [isA_N hh]; decide)
  · skip
    refine g_iload_n C 2 rfl dX7_joining_7 ?_
    refine g_callS0 C (nA := 1) (k_X1_isAtom l D ty ((nI a)) ) wm_X7_97 ws_X1_isAtom wi_X1 wc_X1_isAtom rfl (by decide +kernel) ⟨(Nat.le_of_ble_eq_true rfl), (Nat.le_of_ble_eq_true rfl)⟩ ⟨rfl, rfl⟩ dX7_joining_8 (fun _ _ h => h.2) (Nat.le_of_ble_eq_true rfl) rfl ⟨Nat.zero_le _, Nat.zero_le _⟩ (fun r hp => ?_)
    obtain ⟨rfl, -⟩ := hp
    refine g_st [.int (bI (isA ((nI a))))] rfl ?_
    refine g_if_eqB C (isA ((nI a))) 21 rfl dX7_joining_11 rfl (fun c11 => ?_) (fun c11 => ?_)
    · skip
      exact absurd c11 (by rw [isA_N ha]; decide)
    · skip
      refine g_iload_n C 3 rfl dX7_joining_14 ?_
      refine g_callS0 C (nA := 1) (k_X1_isAtom l D ty ((nI b)) ) wm_X7_97 ws_X1_isAtom wi_X1 wc_X1_isAtom rfl (by decide +kernel) ⟨(Nat.le_of_ble_eq_true rfl), (Nat.le_of_ble_eq_true rfl)⟩ ⟨rfl, rfl⟩ dX7_joining_15 (fun _ _ h => h.2) (Nat.le_of_ble_eq_true rfl) rfl ⟨Nat.zero_le _, Nat.zero_le _⟩ (fun r hp => ?_)
      obtain ⟨rfl, -⟩ := hp
      refine g_st [.int (bI (isA ((nI b))))] rfl ?_
      refine g_if_neB C (isA ((nI b))) 31 rfl dX7_joining_18 rfl (fun c18 => ?_) (fun c18 => ?_)
      · skip
        refine g_aload_n C 0 rfl dX7_joining_31 ?_
        refine g_getf C wu_X7 0 rfl rfl 0 (by decide) wf_X7_10 rfl rfl dX7_joining_32 ?_
        refine g_callV C (nA := 0) (ci := 2) (q0 := 0) (As := []) (wr := [(x0, .inr (5, [.ref l0, .ref v0, .int (nI sc), .ref t0, .ref y0, .ref r0, .ref p0, .ref w0])), (l1, .inr (0, [.ref l3])), (l3, .inl (ty 1, 4, .inr (.inl (zM T)))), (l2, .inl (ty 0, 18, .inl (eR q)))]) (k_X4_ruleCount l D ty l0 l1 l2 nr ) wm_X7_102 wn_X4_ruleCount wv_X4_ruleCount wi_X4 wc_X4_ruleCount rfl (by decide +kernel) ⟨(Nat.le_of_ble_eq_true rfl), (Nat.le_of_ble_eq_true rfl)⟩ ⟨rfl, rfl⟩ dX7_joining_35 ⟨Nat.zero_le _, Nat.zero_le _⟩ rfl rfl rfl [1] [0, 2, 3, 4] rfl rfl rfl rfl (by decide) (Nat.le_of_ble_eq_true rfl) rfl (fun r W1 hp => ?_)
        obtain ⟨rfl, rfl⟩ := hp
        refine g_fix [.int (nI nr)] [(x0, .inr (5, [.ref l0, .ref v0, .int (nI sc), .ref t0, .ref y0, .ref r0, .ref p0, .ref w0])), (l0, .inr (2, [.ref l1, .ref l2, .int (nI nr)])), (l1, .inr (0, [.ref l3])), (l3, .inl (ty 1, 4, .inr (.inl (zM T)))), (l2, .inl (ty 0, 18, .inl (eR q)))] [0, 4, 1, 2, 3] rfl rfl rfl ?_
        refine g_bipush C (nI 6) bp_6 dX7_joining_38 ?_
        refine g_icmp_ltN C nr 6 53 rfl rfl (by omega) (by omega) dX7_joining_40 rfl (fun c40 => ?_) (fun c40 => ?_)
        · skip
          exact absurd c40 (by omega)
        · skip
          exact g_throwS C hX ht hlk hls (cls := "java/lang/IllegalStateException") (text := "there are 6 rules") (ik := 78) (is := 105) (ic := 82) (by decide) wl_X7_78 xi_82 xat_82 (by decide +kernel) (by decide +kernel) dX7_joining_43 dX7_joining_46 dX7_joining_47 dX7_joining_49 dX7_joining_52 (by decide) (by decide) (by decide) (by decide) rfl
      · skip
        exact absurd c18 (by rw [isA_N hb]; decide)
def rx_X7_remove_x1 : Room := { frames := 6, cells := 1, slots := 6, locals := 132 }
set_option maxRecDepth 100000 in
set_option maxHeartbeats 4000000 in
theorem x_X7_remove_x1 (l : Launch) (D : va_G) (ty : Nat → ClassId) (hls : l.stackTraces = false) (x0 : Nat) (l0 : Nat) (v0 : Nat) (t0 : Nat) (y0 : Nat) (r0 : Nat) (p0 : Nat) (w0 : Nat) (l1 : Nat) (l2 : Nat) (l3 : Nat) (T : Nat → Bool) (q : Nat → Nat) (nr : Nat) (sc : Nat) (z1 : Int32) (hr : hR z1 nr = false) : gX l D ty yX7_remove cX7_remove 2 (some (FieldType.int : FieldType)) rx_X7_remove_x1 [.ref x0, .int (z1)] [(x0, .inr (5, [.ref l0, .ref v0, .int (nI sc), .ref t0, .ref y0, .ref r0, .ref p0, .ref w0])), (l0, .inr (2, [.ref l1, .ref l2, .int (nI nr)])), (l1, .inr (0, [.ref l3])), (l3, .inl (ty 1, 4, .inr (.inl (zM T)))), (l2, .inl (ty 0, 18, .inl (eR q)))] "java/lang/IndexOutOfBoundsException" (fun (zW : va_W) => zW = [(x0, .inr (5, [.ref l0, .ref v0, .int (nI sc), .ref t0, .ref y0, .ref r0, .ref p0, .ref w0])), (l0, .inr (2, [.ref l1, .ref l2, .int (nI nr)])), (l1, .inr (0, [.ref l3])), (l3, .inl (ty 1, 4, .inr (.inl (zM T)))), (l2, .inl (ty 0, 18, .inl (eR q)))]) := by
  refine gX_of RX7 rfl (by decide +kernel) (Nat.le_of_ble_eq_true rfl) ?_
  intro pg en s0 mi ag bl mth cd AA C hX ht hlk hnm
  show gW pg l en rx_X7_remove_x1 s0 mi ag bl mth cd 2 D AA s0.heap _ 0 [(0, .ref x0), (1, .int (z1))] [] [(x0, .inr (5, [.ref l0, .ref v0, .int (nI sc), .ref t0, .ref y0, .ref r0, .ref p0, .ref w0])), (l0, .inr (2, [.ref l1, .ref l2, .int (nI nr)])), (l1, .inr (0, [.ref l3])), (l3, .inl (ty 1, 4, .inr (.inl (zM T)))), (l2, .inl (ty 0, 18, .inl (eR q)))] 0 0
  refine g_aload_n C 0 rfl dX7_remove_0 ?_
  refine g_getf C wu_X7 0 rfl rfl 0 (by decide) wf_X7_10 rfl rfl dX7_remove_1 ?_
  refine g_iload_n C 1 rfl dX7_remove_4 ?_
  refine g_callV C (nA := 1) (ci := 2) (q0 := 0) (As := [.int (z1)]) (wr := [(x0, .inr (5, [.ref l0, .ref v0, .int (nI sc), .ref t0, .ref y0, .ref r0, .ref p0, .ref w0])), (l1, .inr (0, [.ref l3])), (l3, .inl (ty 1, 4, .inr (.inl (zM T)))), (l2, .inl (ty 0, 18, .inl (eR q)))]) (k_X4_hasRule l D ty l0 l1 l2 nr z1 ) wm_X7_110 wn_X4_hasRule wv_X4_hasRule wi_X4 wc_X4_hasRule rfl (by decide +kernel) ⟨(Nat.le_of_ble_eq_true rfl), (Nat.le_of_ble_eq_true rfl)⟩ ⟨rfl, rfl⟩ dX7_remove_5 ⟨Nat.zero_le _, Nat.zero_le _⟩ rfl rfl rfl [1] [0, 2, 3, 4] rfl rfl rfl rfl (by decide) (Nat.le_of_ble_eq_true rfl) rfl (fun r W1 hp => ?_)
  obtain ⟨rfl, rfl⟩ := hp
  refine g_fix [.int (bI (hR z1 nr))] [(x0, .inr (5, [.ref l0, .ref v0, .int (nI sc), .ref t0, .ref y0, .ref r0, .ref p0, .ref w0])), (l0, .inr (2, [.ref l1, .ref l2, .int (nI nr)])), (l1, .inr (0, [.ref l3])), (l3, .inl (ty 1, 4, .inr (.inl (zM T)))), (l2, .inl (ty 0, 18, .inl (eR q)))] [0, 4, 1, 2, 3] rfl rfl rfl ?_
  refine g_if_neB C (hR z1 nr) 21 rfl dX7_remove_8 rfl (fun c8 => ?_) (fun c8 => ?_)
  · skip
    exact absurd (c8.symm.trans hr) (by decide)
  · skip
    exact g_throwS C hX ht hlk hls (cls := "java/lang/IndexOutOfBoundsException") (text := "there is no such rule") (ik := 113) (is := 115) (ic := 117) (by decide) wl_X7_113 xi_117 xat_117 (by decide +kernel) (by decide +kernel) dX7_remove_11 dX7_remove_14 dX7_remove_15 dX7_remove_17 dX7_remove_20 (by decide) (by decide) (by decide) (by decide) rfl
def rx_X7_partOf_x1 : Room := { frames := 6, cells := 1, slots := 6, locals := 96 }
set_option maxRecDepth 100000 in
set_option maxHeartbeats 4000000 in
theorem x_X7_partOf_x1 (l : Launch) (D : va_G) (ty : Nat → ClassId) (hls : l.stackTraces = false) (x0 : Nat) (l0 : Nat) (v0 : Nat) (t0 : Nat) (y0 : Nat) (r0 : Nat) (p0 : Nat) (w0 : Nat) (l1 : Nat) (l2 : Nat) (l3 : Nat) (T : Nat → Bool) (q : Nat → Nat) (nr : Nat) (sc : Nat) (z1 : Int32) (z2 : Int32) (hr : hR z1 nr = false) : gX l D ty yX7_partOf cX7_partOf 3 (some (FieldType.int : FieldType)) rx_X7_partOf_x1 [.ref x0, .int (z1), .int (z2)] [(x0, .inr (5, [.ref l0, .ref v0, .int (nI sc), .ref t0, .ref y0, .ref r0, .ref p0, .ref w0])), (l0, .inr (2, [.ref l1, .ref l2, .int (nI nr)])), (l1, .inr (0, [.ref l3])), (l3, .inl (ty 1, 4, .inr (.inl (zM T)))), (l2, .inl (ty 0, 18, .inl (eR q)))] "java/lang/IndexOutOfBoundsException" (fun (zW : va_W) => zW = [(x0, .inr (5, [.ref l0, .ref v0, .int (nI sc), .ref t0, .ref y0, .ref r0, .ref p0, .ref w0])), (l0, .inr (2, [.ref l1, .ref l2, .int (nI nr)])), (l1, .inr (0, [.ref l3])), (l3, .inl (ty 1, 4, .inr (.inl (zM T)))), (l2, .inl (ty 0, 18, .inl (eR q)))]) := by
  refine gX_of RX7 rfl (by decide +kernel) (Nat.le_of_ble_eq_true rfl) ?_
  intro pg en s0 mi ag bl mth cd AA C hX ht hlk hnm
  show gW pg l en rx_X7_partOf_x1 s0 mi ag bl mth cd 3 D AA s0.heap _ 0 [(0, .ref x0), (1, .int (z1)), (2, .int (z2))] [] [(x0, .inr (5, [.ref l0, .ref v0, .int (nI sc), .ref t0, .ref y0, .ref r0, .ref p0, .ref w0])), (l0, .inr (2, [.ref l1, .ref l2, .int (nI nr)])), (l1, .inr (0, [.ref l3])), (l3, .inl (ty 1, 4, .inr (.inl (zM T)))), (l2, .inl (ty 0, 18, .inl (eR q)))] 0 0
  refine g_aload_n C 0 rfl dX7_partOf_0 ?_
  refine g_getf C wu_X7 0 rfl rfl 0 (by decide) wf_X7_10 rfl rfl dX7_partOf_1 ?_
  refine g_iload_n C 1 rfl dX7_partOf_4 ?_
  refine g_callV C (nA := 1) (ci := 2) (q0 := 0) (As := [.int (z1)]) (wr := [(x0, .inr (5, [.ref l0, .ref v0, .int (nI sc), .ref t0, .ref y0, .ref r0, .ref p0, .ref w0])), (l1, .inr (0, [.ref l3])), (l3, .inl (ty 1, 4, .inr (.inl (zM T)))), (l2, .inl (ty 0, 18, .inl (eR q)))]) (k_X4_hasRule l D ty l0 l1 l2 nr z1 ) wm_X7_110 wn_X4_hasRule wv_X4_hasRule wi_X4 wc_X4_hasRule rfl (by decide +kernel) ⟨(Nat.le_of_ble_eq_true rfl), (Nat.le_of_ble_eq_true rfl)⟩ ⟨rfl, rfl⟩ dX7_partOf_5 ⟨Nat.zero_le _, Nat.zero_le _⟩ rfl rfl rfl [1] [0, 2, 3, 4] rfl rfl rfl rfl (by decide) (Nat.le_of_ble_eq_true rfl) rfl (fun r W1 hp => ?_)
  obtain ⟨rfl, rfl⟩ := hp
  refine g_fix [.int (bI (hR z1 nr))] [(x0, .inr (5, [.ref l0, .ref v0, .int (nI sc), .ref t0, .ref y0, .ref r0, .ref p0, .ref w0])), (l0, .inr (2, [.ref l1, .ref l2, .int (nI nr)])), (l1, .inr (0, [.ref l3])), (l3, .inl (ty 1, 4, .inr (.inl (zM T)))), (l2, .inl (ty 0, 18, .inl (eR q)))] [0, 4, 1, 2, 3] rfl rfl rfl ?_
  refine g_if_neB C (hR z1 nr) 21 rfl dX7_partOf_8 rfl (fun c8 => ?_) (fun c8 => ?_)
  · skip
    exact absurd (c8.symm.trans hr) (by decide)
  · skip
    exact g_throwS C hX ht hlk hls (cls := "java/lang/IndexOutOfBoundsException") (text := "there is no such rule") (ik := 113) (is := 115) (ic := 117) (by decide) wl_X7_113 xi_117 xat_117 (by decide +kernel) (by decide +kernel) dX7_partOf_11 dX7_partOf_14 dX7_partOf_15 dX7_partOf_17 dX7_partOf_20 (by decide) (by decide) (by decide) (by decide) rfl
def rx_X7_without_x1 : Room := { frames := 6, cells := 1, slots := 6, locals := 132 }
set_option maxRecDepth 100000 in
set_option maxHeartbeats 4000000 in
theorem x_X7_without_x1 (l : Launch) (D : va_G) (ty : Nat → ClassId) (hls : l.stackTraces = false) (x0 : Nat) (l0 : Nat) (v0 : Nat) (t0 : Nat) (y0 : Nat) (r0 : Nat) (p0 : Nat) (w0 : Nat) (l1 : Nat) (l2 : Nat) (l3 : Nat) (T : Nat → Bool) (q : Nat → Nat) (nr : Nat) (sc : Nat) (z1 : Int32) (z2 : Int32) (hr : hR z1 nr = false) : gX l D ty yX7_without cX7_without 3 (some (FieldType.int : FieldType)) rx_X7_without_x1 [.ref x0, .int (z1), .int (z2)] [(x0, .inr (5, [.ref l0, .ref v0, .int (nI sc), .ref t0, .ref y0, .ref r0, .ref p0, .ref w0])), (l0, .inr (2, [.ref l1, .ref l2, .int (nI nr)])), (l1, .inr (0, [.ref l3])), (l3, .inl (ty 1, 4, .inr (.inl (zM T)))), (l2, .inl (ty 0, 18, .inl (eR q)))] "java/lang/IndexOutOfBoundsException" (fun (zW : va_W) => zW = [(x0, .inr (5, [.ref l0, .ref v0, .int (nI sc), .ref t0, .ref y0, .ref r0, .ref p0, .ref w0])), (l0, .inr (2, [.ref l1, .ref l2, .int (nI nr)])), (l1, .inr (0, [.ref l3])), (l3, .inl (ty 1, 4, .inr (.inl (zM T)))), (l2, .inl (ty 0, 18, .inl (eR q)))]) := by
  refine gX_of RX7 rfl (by decide +kernel) (Nat.le_of_ble_eq_true rfl) ?_
  intro pg en s0 mi ag bl mth cd AA C hX ht hlk hnm
  show gW pg l en rx_X7_without_x1 s0 mi ag bl mth cd 3 D AA s0.heap _ 0 [(0, .ref x0), (1, .int (z1)), (2, .int (z2))] [] [(x0, .inr (5, [.ref l0, .ref v0, .int (nI sc), .ref t0, .ref y0, .ref r0, .ref p0, .ref w0])), (l0, .inr (2, [.ref l1, .ref l2, .int (nI nr)])), (l1, .inr (0, [.ref l3])), (l3, .inl (ty 1, 4, .inr (.inl (zM T)))), (l2, .inl (ty 0, 18, .inl (eR q)))] 0 0
  refine g_aload_n C 0 rfl dX7_without_0 ?_
  refine g_getf C wu_X7 0 rfl rfl 0 (by decide) wf_X7_10 rfl rfl dX7_without_1 ?_
  refine g_iload_n C 1 rfl dX7_without_4 ?_
  refine g_callV C (nA := 1) (ci := 2) (q0 := 0) (As := [.int (z1)]) (wr := [(x0, .inr (5, [.ref l0, .ref v0, .int (nI sc), .ref t0, .ref y0, .ref r0, .ref p0, .ref w0])), (l1, .inr (0, [.ref l3])), (l3, .inl (ty 1, 4, .inr (.inl (zM T)))), (l2, .inl (ty 0, 18, .inl (eR q)))]) (k_X4_hasRule l D ty l0 l1 l2 nr z1 ) wm_X7_110 wn_X4_hasRule wv_X4_hasRule wi_X4 wc_X4_hasRule rfl (by decide +kernel) ⟨(Nat.le_of_ble_eq_true rfl), (Nat.le_of_ble_eq_true rfl)⟩ ⟨rfl, rfl⟩ dX7_without_5 ⟨Nat.zero_le _, Nat.zero_le _⟩ rfl rfl rfl [1] [0, 2, 3, 4] rfl rfl rfl rfl (by decide) (Nat.le_of_ble_eq_true rfl) rfl (fun r W1 hp => ?_)
  obtain ⟨rfl, rfl⟩ := hp
  refine g_fix [.int (bI (hR z1 nr))] [(x0, .inr (5, [.ref l0, .ref v0, .int (nI sc), .ref t0, .ref y0, .ref r0, .ref p0, .ref w0])), (l0, .inr (2, [.ref l1, .ref l2, .int (nI nr)])), (l1, .inr (0, [.ref l3])), (l3, .inl (ty 1, 4, .inr (.inl (zM T)))), (l2, .inl (ty 0, 18, .inl (eR q)))] [0, 4, 1, 2, 3] rfl rfl rfl ?_
  refine g_if_neB C (hR z1 nr) 21 rfl dX7_without_8 rfl (fun c8 => ?_) (fun c8 => ?_)
  · skip
    exact absurd (c8.symm.trans hr) (by decide)
  · skip
    exact g_throwS C hX ht hlk hls (cls := "java/lang/IndexOutOfBoundsException") (text := "there is no such rule") (ik := 113) (is := 115) (ic := 117) (by decide) wl_X7_113 xi_117 xat_117 (by decide +kernel) (by decide +kernel) dX7_without_11 dX7_without_14 dX7_without_15 dX7_without_17 dX7_without_20 (by decide) (by decide) (by decide) (by decide) rfl
def rx_X7_partOf_x2 : Room := { frames := 6, cells := 1, slots := 6, locals := 96 }
set_option maxRecDepth 100000 in
set_option maxHeartbeats 4000000 in
theorem x_X7_partOf_x2 (l : Launch) (D : va_G) (ty : Nat → ClassId) (hls : l.stackTraces = false) (x0 : Nat) (l0 : Nat) (v0 : Nat) (t0 : Nat) (y0 : Nat) (r0 : Nat) (p0 : Nat) (w0 : Nat) (l1 : Nat) (l2 : Nat) (l3 : Nat) (T : Nat → Bool) (q : Nat → Nat) (nr : Nat) (sc : Nat) (r : Nat) (z1 : Int32) (hr : r < nr) (h6 : nr ≤ 6) (hz : z1 < 0 ∨ nI 2 < z1) : gX l D ty yX7_partOf cX7_partOf 3 (some (FieldType.int : FieldType)) rx_X7_partOf_x2 [.ref x0, .int (nI r), .int (z1)] [(x0, .inr (5, [.ref l0, .ref v0, .int (nI sc), .ref t0, .ref y0, .ref r0, .ref p0, .ref w0])), (l0, .inr (2, [.ref l1, .ref l2, .int (nI nr)])), (l1, .inr (0, [.ref l3])), (l3, .inl (ty 1, 4, .inr (.inl (zM T)))), (l2, .inl (ty 0, 18, .inl (eR q)))] "java/lang/IllegalArgumentException" (fun (zW : va_W) => zW = [(x0, .inr (5, [.ref l0, .ref v0, .int (nI sc), .ref t0, .ref y0, .ref r0, .ref p0, .ref w0])), (l0, .inr (2, [.ref l1, .ref l2, .int (nI nr)])), (l1, .inr (0, [.ref l3])), (l3, .inl (ty 1, 4, .inr (.inl (zM T)))), (l2, .inl (ty 0, 18, .inl (eR q)))]) := by
  refine gX_of RX7 rfl (by decide +kernel) (Nat.le_of_ble_eq_true rfl) ?_
  intro pg en s0 mi ag bl mth cd AA C hX ht hlk hnm
  show gW pg l en rx_X7_partOf_x2 s0 mi ag bl mth cd 3 D AA s0.heap _ 0 [(0, .ref x0), (1, .int (nI r)), (2, .int (z1))] [] [(x0, .inr (5, [.ref l0, .ref v0, .int (nI sc), .ref t0, .ref y0, .ref r0, .ref p0, .ref w0])), (l0, .inr (2, [.ref l1, .ref l2, .int (nI nr)])), (l1, .inr (0, [.ref l3])), (l3, .inl (ty 1, 4, .inr (.inl (zM T)))), (l2, .inl (ty 0, 18, .inl (eR q)))] 0 0
  refine g_aload_n C 0 rfl dX7_partOf_0 ?_
  refine g_getf C wu_X7 0 rfl rfl 0 (by decide) wf_X7_10 rfl rfl dX7_partOf_1 ?_
  refine g_iload_n C 1 rfl dX7_partOf_4 ?_
  refine g_callV C (nA := 1) (ci := 2) (q0 := 0) (As := [.int (nI r)]) (wr := [(x0, .inr (5, [.ref l0, .ref v0, .int (nI sc), .ref t0, .ref y0, .ref r0, .ref p0, .ref w0])), (l1, .inr (0, [.ref l3])), (l3, .inl (ty 1, 4, .inr (.inl (zM T)))), (l2, .inl (ty 0, 18, .inl (eR q)))]) (k_X4_hasRule l D ty l0 l1 l2 nr ((nI r)) ) wm_X7_110 wn_X4_hasRule wv_X4_hasRule wi_X4 wc_X4_hasRule rfl (by decide +kernel) ⟨(Nat.le_of_ble_eq_true rfl), (Nat.le_of_ble_eq_true rfl)⟩ ⟨rfl, rfl⟩ dX7_partOf_5 ⟨Nat.zero_le _, Nat.zero_le _⟩ rfl rfl rfl [1] [0, 2, 3, 4] rfl rfl rfl rfl (by decide) (Nat.le_of_ble_eq_true rfl) rfl (fun r W1 hp => ?_)
  obtain ⟨rfl, rfl⟩ := hp
  refine g_fix [.int (bI (hR ((nI r)) nr))] [(x0, .inr (5, [.ref l0, .ref v0, .int (nI sc), .ref t0, .ref y0, .ref r0, .ref p0, .ref w0])), (l0, .inr (2, [.ref l1, .ref l2, .int (nI nr)])), (l1, .inr (0, [.ref l3])), (l3, .inl (ty 1, 4, .inr (.inl (zM T)))), (l2, .inl (ty 0, 18, .inl (eR q)))] [0, 4, 1, 2, 3] rfl rfl rfl ?_
  refine g_if_neB C (hR ((nI r)) nr) 21 rfl dX7_partOf_8 rfl (fun c8 => ?_) (fun c8 => ?_)
  · skip
    refine g_iload_n C 2 rfl dX7_partOf_21 ?_
    refine g_if_lt C 30 dX7_partOf_22 rfl (fun c22 => ?_) (fun c22 => ?_)
    · skip
      exact g_throwS C hX ht hlk hls (cls := "java/lang/IllegalArgumentException") (text := "a part is 0 to 2") (ik := 53) (is := 169) (ic := 57) (by decide) wl_X7_53 xi_57 xat_57 (by decide +kernel) (by decide +kernel) dX7_partOf_30 dX7_partOf_33 dX7_partOf_34 dX7_partOf_36 dX7_partOf_39 (by decide) (by decide) (by decide) (by decide) rfl
    · skip
      refine g_iload_n C 2 rfl dX7_partOf_25 ?_
      refine g_iconst C (nI 2) ic_2 dX7_partOf_26 ?_
      refine g_icmp_le C 40 dX7_partOf_27 rfl (fun c27 => ?_) (fun c27 => ?_)
      · skip
        exact hz.elim (fun q => absurd q c22) (fun q => absurd c27 (Int32.not_le.mpr q))
      · skip
        exact g_throwS C hX ht hlk hls (cls := "java/lang/IllegalArgumentException") (text := "a part is 0 to 2") (ik := 53) (is := 169) (ic := 57) (by decide) wl_X7_53 xi_57 xat_57 (by decide +kernel) (by decide +kernel) dX7_partOf_30 dX7_partOf_33 dX7_partOf_34 dX7_partOf_36 dX7_partOf_39 (by decide) (by decide) (by decide) (by decide) rfl
  · skip
    exact absurd c8 (by rw [hR_N (by omega) (by omega)]; simp; omega)
def rx_X7_without_x2 : Room := { frames := 6, cells := 1, slots := 6, locals := 132 }
set_option maxRecDepth 100000 in
set_option maxHeartbeats 4000000 in
theorem x_X7_without_x2 (l : Launch) (D : va_G) (ty : Nat → ClassId) (hls : l.stackTraces = false) (x0 : Nat) (l0 : Nat) (v0 : Nat) (t0 : Nat) (y0 : Nat) (r0 : Nat) (p0 : Nat) (w0 : Nat) (l1 : Nat) (l2 : Nat) (l3 : Nat) (T : Nat → Bool) (q : Nat → Nat) (nr : Nat) (sc : Nat) (r : Nat) (z1 : Int32) (hr : r < nr) (h6 : nr ≤ 6) (hz : z1 < 0 ∨ nI 2 < z1) : gX l D ty yX7_without cX7_without 3 (some (FieldType.int : FieldType)) rx_X7_without_x2 [.ref x0, .int (nI r), .int (z1)] [(x0, .inr (5, [.ref l0, .ref v0, .int (nI sc), .ref t0, .ref y0, .ref r0, .ref p0, .ref w0])), (l0, .inr (2, [.ref l1, .ref l2, .int (nI nr)])), (l1, .inr (0, [.ref l3])), (l3, .inl (ty 1, 4, .inr (.inl (zM T)))), (l2, .inl (ty 0, 18, .inl (eR q)))] "java/lang/IllegalArgumentException" (fun (zW : va_W) => zW = [(x0, .inr (5, [.ref l0, .ref v0, .int (nI sc), .ref t0, .ref y0, .ref r0, .ref p0, .ref w0])), (l0, .inr (2, [.ref l1, .ref l2, .int (nI nr)])), (l1, .inr (0, [.ref l3])), (l3, .inl (ty 1, 4, .inr (.inl (zM T)))), (l2, .inl (ty 0, 18, .inl (eR q)))]) := by
  refine gX_of RX7 rfl (by decide +kernel) (Nat.le_of_ble_eq_true rfl) ?_
  intro pg en s0 mi ag bl mth cd AA C hX ht hlk hnm
  show gW pg l en rx_X7_without_x2 s0 mi ag bl mth cd 3 D AA s0.heap _ 0 [(0, .ref x0), (1, .int (nI r)), (2, .int (z1))] [] [(x0, .inr (5, [.ref l0, .ref v0, .int (nI sc), .ref t0, .ref y0, .ref r0, .ref p0, .ref w0])), (l0, .inr (2, [.ref l1, .ref l2, .int (nI nr)])), (l1, .inr (0, [.ref l3])), (l3, .inl (ty 1, 4, .inr (.inl (zM T)))), (l2, .inl (ty 0, 18, .inl (eR q)))] 0 0
  refine g_aload_n C 0 rfl dX7_without_0 ?_
  refine g_getf C wu_X7 0 rfl rfl 0 (by decide) wf_X7_10 rfl rfl dX7_without_1 ?_
  refine g_iload_n C 1 rfl dX7_without_4 ?_
  refine g_callV C (nA := 1) (ci := 2) (q0 := 0) (As := [.int (nI r)]) (wr := [(x0, .inr (5, [.ref l0, .ref v0, .int (nI sc), .ref t0, .ref y0, .ref r0, .ref p0, .ref w0])), (l1, .inr (0, [.ref l3])), (l3, .inl (ty 1, 4, .inr (.inl (zM T)))), (l2, .inl (ty 0, 18, .inl (eR q)))]) (k_X4_hasRule l D ty l0 l1 l2 nr ((nI r)) ) wm_X7_110 wn_X4_hasRule wv_X4_hasRule wi_X4 wc_X4_hasRule rfl (by decide +kernel) ⟨(Nat.le_of_ble_eq_true rfl), (Nat.le_of_ble_eq_true rfl)⟩ ⟨rfl, rfl⟩ dX7_without_5 ⟨Nat.zero_le _, Nat.zero_le _⟩ rfl rfl rfl [1] [0, 2, 3, 4] rfl rfl rfl rfl (by decide) (Nat.le_of_ble_eq_true rfl) rfl (fun r W1 hp => ?_)
  obtain ⟨rfl, rfl⟩ := hp
  refine g_fix [.int (bI (hR ((nI r)) nr))] [(x0, .inr (5, [.ref l0, .ref v0, .int (nI sc), .ref t0, .ref y0, .ref r0, .ref p0, .ref w0])), (l0, .inr (2, [.ref l1, .ref l2, .int (nI nr)])), (l1, .inr (0, [.ref l3])), (l3, .inl (ty 1, 4, .inr (.inl (zM T)))), (l2, .inl (ty 0, 18, .inl (eR q)))] [0, 4, 1, 2, 3] rfl rfl rfl ?_
  refine g_if_neB C (hR ((nI r)) nr) 21 rfl dX7_without_8 rfl (fun c8 => ?_) (fun c8 => ?_)
  · skip
    refine g_iload_n C 2 rfl dX7_without_21 ?_
    refine g_if_lt C 30 dX7_without_22 rfl (fun c22 => ?_) (fun c22 => ?_)
    · skip
      exact g_throwS C hX ht hlk hls (cls := "java/lang/IllegalArgumentException") (text := "what is 0 to 2") (ik := 53) (is := 216) (ic := 57) (by decide) wl_X7_53 xi_57 xat_57 (by decide +kernel) (by decide +kernel) dX7_without_30 dX7_without_33 dX7_without_34 dX7_without_36 dX7_without_39 (by decide) (by decide) (by decide) (by decide) rfl
    · skip
      refine g_iload_n C 2 rfl dX7_without_25 ?_
      refine g_iconst C (nI 2) ic_2 dX7_without_26 ?_
      refine g_icmp_le C 40 dX7_without_27 rfl (fun c27 => ?_) (fun c27 => ?_)
      · skip
        exact hz.elim (fun q => absurd q c22) (fun q => absurd c27 (Int32.not_le.mpr q))
      · skip
        exact g_throwS C hX ht hlk hls (cls := "java/lang/IllegalArgumentException") (text := "what is 0 to 2") (ik := 53) (is := 216) (ic := 57) (by decide) wl_X7_53 xi_57 xat_57 (by decide +kernel) (by decide +kernel) dX7_without_30 dX7_without_33 dX7_without_34 dX7_without_36 dX7_without_39 (by decide) (by decide) (by decide) (by decide) rfl
  · skip
    exact absurd c8 (by rw [hR_N (by omega) (by omega)]; simp; omega)
def rx_X7_settle_x1 : Room := { frames := 6, cells := 1, slots := 6, locals := 132 }
set_option maxRecDepth 100000 in
set_option maxHeartbeats 4000000 in
theorem x_X7_settle_x1 (l : Launch) (D : va_G) (ty : Nat → ClassId) (hls : l.stackTraces = false) (x0 : Nat) (l0 : Nat) (v0 : Nat) (t0 : Nat) (y0 : Nat) (r0 : Nat) (p0 : Nat) (w0 : Nat) (a0 : Nat) (a1 : Nat) (b0 : Nat) (c0 : Nat) (d0 : Nat) (e0 : Nat) (f0 : Nat) (Z : ZT) (sc : Nat) (h12 : 12 < zcnt (zF Z) 256) : gX l D ty yX7_settle cX7_settle 1 (some (FieldType.int : FieldType)) rx_X7_settle_x1 [.ref x0] [(x0, .inr (5, [.ref l0, .ref v0, .int (nI sc), .ref t0, .ref y0, .ref r0, .ref p0, .ref w0])), (r0, .inr (3, [.ref a0, .ref b0, .int (nI (zRd Z)), .int (nI (zMt Z)), .int (nI (zDr Z)), .ref c0, .ref d0, .ref e0, .ref f0])), (a0, .inr (0, [.ref a1])), (a1, .inl (ty 1, 4, .inr (.inl (zM (zF Z)))))] "java/lang/IllegalStateException" (fun (zW : va_W) => zW = [(x0, .inr (5, [.ref l0, .ref v0, .int (nI sc), .ref t0, .ref y0, .ref r0, .ref p0, .ref w0])), (r0, .inr (3, [.ref a0, .ref b0, .int (nI (zRd Z)), .int (nI (zMt Z)), .int (nI (zDr Z)), .ref c0, .ref d0, .ref e0, .ref f0])), (a0, .inr (0, [.ref a1])), (a1, .inl (ty 1, 4, .inr (.inl (zM (zF Z)))))]) := by
  refine gX_of RX7 rfl (by decide +kernel) (Nat.le_of_ble_eq_true rfl) ?_
  intro pg en s0 mi ag bl mth cd AA C hX ht hlk hnm
  show gW pg l en rx_X7_settle_x1 s0 mi ag bl mth cd 1 D AA s0.heap _ 0 [(0, .ref x0)] [] [(x0, .inr (5, [.ref l0, .ref v0, .int (nI sc), .ref t0, .ref y0, .ref r0, .ref p0, .ref w0])), (r0, .inr (3, [.ref a0, .ref b0, .int (nI (zRd Z)), .int (nI (zMt Z)), .int (nI (zDr Z)), .ref c0, .ref d0, .ref e0, .ref f0])), (a0, .inr (0, [.ref a1])), (a1, .inl (ty 1, 4, .inr (.inl (zM (zF Z)))))] 0 0
  refine g_aload_n C 0 rfl dX7_settle_0 ?_
  refine g_getf C wu_X7 0 rfl rfl 5 (by decide) wf_X7_37 rfl rfl dX7_settle_1 ?_
  refine g_getf C wu_X5 1 rfl rfl 0 (by decide) wf_X7_121 rfl rfl dX7_settle_4 ?_
  refine g_callV C (nA := 0) (ci := 0) (q0 := 0) (As := []) (wr := [(x0, .inr (5, [.ref l0, .ref v0, .int (nI sc), .ref t0, .ref y0, .ref r0, .ref p0, .ref w0])), (r0, .inr (3, [.ref a0, .ref b0, .int (nI (zRd Z)), .int (nI (zMt Z)), .int (nI (zDr Z)), .ref c0, .ref d0, .ref e0, .ref f0]))]) (k_X2_size l D ty a0 a1 (zF Z) ) wm_X7_74 wn_X2_size wv_X2_size wi_X2 wc_X2_size rfl (by decide +kernel) ⟨(Nat.le_of_ble_eq_true rfl), (Nat.le_of_ble_eq_true rfl)⟩ ⟨rfl, rfl⟩ dX7_settle_7 ⟨Nat.zero_le _, Nat.zero_le _⟩ rfl rfl rfl [2, 3] [0, 1] rfl rfl rfl rfl (by decide) (Nat.le_of_ble_eq_true rfl) rfl (fun r W1 hp => ?_)
  obtain ⟨rfl, rfl⟩ := hp
  refine g_fix [.int (nI (zcnt (zF Z) 256))] [(x0, .inr (5, [.ref l0, .ref v0, .int (nI sc), .ref t0, .ref y0, .ref r0, .ref p0, .ref w0])), (r0, .inr (3, [.ref a0, .ref b0, .int (nI (zRd Z)), .int (nI (zMt Z)), .int (nI (zDr Z)), .ref c0, .ref d0, .ref e0, .ref f0])), (a0, .inr (0, [.ref a1])), (a1, .inl (ty 1, 4, .inr (.inl (zM (zF Z)))))] [0, 1, 2, 3] rfl rfl rfl ?_
  refine g_bipush C (nI 12) bp_12 dX7_settle_10 ?_
  refine g_icmp_leN C (zcnt (zF Z) 256) 12 25 rfl rfl (by have := zcnt_le ((zF Z)) 256; omega) (by omega) dX7_settle_12 rfl (fun c12 => ?_) (fun c12 => ?_)
  · skip
    exact absurd c12 (by omega)
  · skip
    exact g_throwS C hX ht hlk hls (cls := "java/lang/IllegalStateException") (text := "more than 12 facts are found") (ik := 78) (is := 124) (ic := 82) (by decide) wl_X7_78 xi_82 xat_82 (by decide +kernel) (by decide +kernel) dX7_settle_15 dX7_settle_18 dX7_settle_19 dX7_settle_21 dX7_settle_24 (by decide) (by decide) (by decide) (by decide) rfl
def rx_X7_append_x1 : Room := { frames := 6, cells := 1, slots := 6, locals := 96 }
set_option maxRecDepth 100000 in
set_option maxHeartbeats 4000000 in
theorem x_X7_append_x1 (l : Launch) (D : va_G) (ty : Nat → ClassId) (hls : l.stackTraces = false) (x0 : Nat) (l0 : Nat) (v0 : Nat) (t0 : Nat) (y0 : Nat) (r0 : Nat) (p0 : Nat) (w0 : Nat) (sc : Nat) (z1 : Int32) (hz : z1 < nI 33 ∨ nI 126 < z1) : gX l D ty yX7_append cX7_append 2 (some (FieldType.int : FieldType)) rx_X7_append_x1 [.ref x0, .int (z1)] [(x0, .inr (5, [.ref l0, .ref v0, .int (nI sc), .ref t0, .ref y0, .ref r0, .ref p0, .ref w0]))] "java/lang/IllegalArgumentException" (fun (zW : va_W) => zW = [(x0, .inr (5, [.ref l0, .ref v0, .int (nI sc), .ref t0, .ref y0, .ref r0, .ref p0, .ref w0]))]) := by
  refine gX_of RX7 rfl (by decide +kernel) (Nat.le_of_ble_eq_true rfl) ?_
  intro pg en s0 mi ag bl mth cd AA C hX ht hlk hnm
  show gW pg l en rx_X7_append_x1 s0 mi ag bl mth cd 2 D AA s0.heap _ 0 [(0, .ref x0), (1, .int (z1))] [] [(x0, .inr (5, [.ref l0, .ref v0, .int (nI sc), .ref t0, .ref y0, .ref r0, .ref p0, .ref w0]))] 0 0
  refine g_iload_n C 1 rfl dX7_append_0 ?_
  refine g_bipush C (nI 33) bp_33 dX7_append_1 ?_
  refine g_icmp_lt C 12 dX7_append_3 rfl (fun c3 => ?_) (fun c3 => ?_)
  · skip
    exact g_throwS C hX ht hlk hls (cls := "java/lang/IllegalArgumentException") (text := "a code is 33 to 126") (ik := 53) (is := 130) (ic := 57) (by decide) wl_X7_53 xi_57 xat_57 (by decide +kernel) (by decide +kernel) dX7_append_12 dX7_append_15 dX7_append_16 dX7_append_18 dX7_append_21 (by decide) (by decide) (by decide) (by decide) rfl
  · skip
    refine g_iload_n C 1 rfl dX7_append_6 ?_
    refine g_bipush C (nI 126) bp_126 dX7_append_7 ?_
    refine g_icmp_le C 22 dX7_append_9 rfl (fun c9 => ?_) (fun c9 => ?_)
    · skip
      exact hz.elim (fun q => absurd q c3) (fun q => absurd c9 (Int32.not_le.mpr q))
    · skip
      exact g_throwS C hX ht hlk hls (cls := "java/lang/IllegalArgumentException") (text := "a code is 33 to 126") (ik := 53) (is := 130) (ic := 57) (by decide) wl_X7_53 xi_57 xat_57 (by decide +kernel) (by decide +kernel) dX7_append_12 dX7_append_15 dX7_append_16 dX7_append_18 dX7_append_21 (by decide) (by decide) (by decide) (by decide) rfl
def rx_X7_append_x2 : Room := { frames := 6, cells := 1, slots := 6, locals := 96 }
set_option maxRecDepth 100000 in
set_option maxHeartbeats 4000000 in
theorem x_X7_append_x2 (l : Launch) (D : va_G) (ty : Nat → ClassId) (hls : l.stackTraces = false) (x0 : Nat) (l0 : Nat) (v0 : Nat) (t0 : Nat) (y0 : Nat) (r0 : Nat) (p0 : Nat) (w0 : Nat) (sc : Nat) (t1 : Nat) (b : Nat → Nat) (len : Nat) (c : Nat) (h1 : 33 ≤ c) (h2 : c ≤ 126) (hl : 60 ≤ len) (hl2 : len ≤ 60) : gX l D ty yX7_append cX7_append 2 (some (FieldType.int : FieldType)) rx_X7_append_x2 [.ref x0, .int (nI c)] [(x0, .inr (5, [.ref l0, .ref v0, .int (nI sc), .ref t0, .ref y0, .ref r0, .ref p0, .ref w0])), (t0, .inr (4, [.ref t1, .int (nI len)])), (t1, .inl (ty 0, 60, .inl (tI b)))] "java/lang/IllegalStateException" (fun (zW : va_W) => zW = [(x0, .inr (5, [.ref l0, .ref v0, .int (nI sc), .ref t0, .ref y0, .ref r0, .ref p0, .ref w0])), (t0, .inr (4, [.ref t1, .int (nI len)])), (t1, .inl (ty 0, 60, .inl (tI b)))]) := by
  refine gX_of RX7 rfl (by decide +kernel) (Nat.le_of_ble_eq_true rfl) ?_
  intro pg en s0 mi ag bl mth cd AA C hX ht hlk hnm
  show gW pg l en rx_X7_append_x2 s0 mi ag bl mth cd 2 D AA s0.heap _ 0 [(0, .ref x0), (1, .int (nI c))] [] [(x0, .inr (5, [.ref l0, .ref v0, .int (nI sc), .ref t0, .ref y0, .ref r0, .ref p0, .ref w0])), (t0, .inr (4, [.ref t1, .int (nI len)])), (t1, .inl (ty 0, 60, .inl (tI b)))] 0 0
  refine g_iload_n C 1 rfl dX7_append_0 ?_
  refine g_bipush C (nI 33) bp_33 dX7_append_1 ?_
  refine g_icmp_ltN C c 33 12 rfl rfl (by omega) (by omega) dX7_append_3 rfl (fun c3 => ?_) (fun c3 => ?_)
  · skip
    exact absurd c3 (by omega)
  · skip
    refine g_iload_n C 1 rfl dX7_append_6 ?_
    refine g_bipush C (nI 126) bp_126 dX7_append_7 ?_
    refine g_icmp_leN C c 126 22 rfl rfl (by omega) (by omega) dX7_append_9 rfl (fun c9 => ?_) (fun c9 => ?_)
    · skip
      refine g_aload_n C 0 rfl dX7_append_22 ?_
      refine g_getf C wu_X7 0 rfl rfl 3 (by decide) wf_X7_23 rfl rfl dX7_append_23 ?_
      refine g_callV C (nA := 0) (ci := 4) (q0 := 0) (As := []) (wr := [(x0, .inr (5, [.ref l0, .ref v0, .int (nI sc), .ref t0, .ref y0, .ref r0, .ref p0, .ref w0])), (t1, .inl (ty 0, 60, .inl (tI b)))]) (k_X6_size l D ty t0 t1 len ) wm_X7_132 wn_X6_size wv_X6_size wi_X6 wc_X6_size rfl (by decide +kernel) ⟨(Nat.le_of_ble_eq_true rfl), (Nat.le_of_ble_eq_true rfl)⟩ ⟨rfl, rfl⟩ dX7_append_26 ⟨Nat.zero_le _, Nat.zero_le _⟩ rfl rfl rfl [1] [0, 2] rfl rfl rfl rfl (by decide) (Nat.le_of_ble_eq_true rfl) rfl (fun r W1 hp => ?_)
      obtain ⟨rfl, rfl⟩ := hp
      refine g_fix [.int (nI len)] [(x0, .inr (5, [.ref l0, .ref v0, .int (nI sc), .ref t0, .ref y0, .ref r0, .ref p0, .ref w0])), (t0, .inr (4, [.ref t1, .int (nI len)])), (t1, .inl (ty 0, 60, .inl (tI b)))] [0, 2, 1] rfl rfl rfl ?_
      refine g_bipush C (nI 60) bp_60 dX7_append_29 ?_
      refine g_icmp_ltN C len 60 44 rfl rfl (by omega) (by omega) dX7_append_31 rfl (fun c31 => ?_) (fun c31 => ?_)
      · skip
        exact absurd c31 (by omega)
      · skip
        exact g_throwS C hX ht hlk hls (cls := "java/lang/IllegalStateException") (text := "the buffer is full") (ik := 78) (is := 133) (ic := 82) (by decide) wl_X7_78 xi_82 xat_82 (by decide +kernel) (by decide +kernel) dX7_append_34 dX7_append_37 dX7_append_38 dX7_append_40 dX7_append_43 (by decide) (by decide) (by decide) (by decide) rfl
    · skip
      exact absurd c9 (by omega)
def rx_X7_undo_x1 : Room := { frames := 6, cells := 1, slots := 6, locals := 132 }
set_option maxRecDepth 100000 in
set_option maxHeartbeats 4000000 in
theorem x_X7_undo_x1 (l : Launch) (D : va_G) (ty : Nat → ClassId) (hls : l.stackTraces = false) (x0 : Nat) (l0 : Nat) (v0 : Nat) (t0 : Nat) (y0 : Nat) (r0 : Nat) (p0 : Nat) (w0 : Nat) (sc : Nat) (h0 : sc = 0) : gX l D ty yX7_undo cX7_undo 1 (some (FieldType.int : FieldType)) rx_X7_undo_x1 [.ref x0] [(x0, .inr (5, [.ref l0, .ref v0, .int (nI sc), .ref t0, .ref y0, .ref r0, .ref p0, .ref w0]))] "java/lang/IllegalStateException" (fun (zW : va_W) => zW = [(x0, .inr (5, [.ref l0, .ref v0, .int (nI sc), .ref t0, .ref y0, .ref r0, .ref p0, .ref w0]))]) := by
  refine gX_of RX7 rfl (by decide +kernel) (Nat.le_of_ble_eq_true rfl) ?_
  intro pg en s0 mi ag bl mth cd AA C hX ht hlk hnm
  show gW pg l en rx_X7_undo_x1 s0 mi ag bl mth cd 1 D AA s0.heap _ 0 [(0, .ref x0)] [] [(x0, .inr (5, [.ref l0, .ref v0, .int (nI sc), .ref t0, .ref y0, .ref r0, .ref p0, .ref w0]))] 0 0
  refine g_aload_n C 0 rfl dX7_undo_0 ?_
  refine g_getf C wu_X7 0 rfl rfl 2 (by decide) wf_X7_157 rfl rfl dX7_undo_1 ?_
  refine g_if_leN C sc 19 rfl (by omega) dX7_undo_4 rfl (fun c4 => ?_) (fun c4 => ?_)
  · skip
    exact g_throwS C hX ht hlk hls (cls := "java/lang/IllegalStateException") (text := "no state is saved") (ik := 78) (is := 161) (ic := 82) (by decide) wl_X7_78 xi_82 xat_82 (by decide +kernel) (by decide +kernel) dX7_undo_19 dX7_undo_22 dX7_undo_23 dX7_undo_25 dX7_undo_28 (by decide) (by decide) (by decide) (by decide) rfl
  · skip
    exact absurd c4 (by omega)
def rx_X7_told_x1 : Room := { frames := 6, cells := 1, slots := 6, locals := 96 }
set_option maxRecDepth 100000 in
set_option maxHeartbeats 4000000 in
theorem x_X7_told_x1 (l : Launch) (D : va_G) (ty : Nat → ClassId) (hls : l.stackTraces = false) (x0 : Nat) (l0 : Nat) (v0 : Nat) (t0 : Nat) (y0 : Nat) (r0 : Nat) (p0 : Nat) (w0 : Nat) (sc : Nat) (z1 : Int32) (hz : z1 < 0) : gX l D ty yX7_told cX7_told 2 (some (FieldType.int : FieldType)) rx_X7_told_x1 [.ref x0, .int (z1)] [(x0, .inr (5, [.ref l0, .ref v0, .int (nI sc), .ref t0, .ref y0, .ref r0, .ref p0, .ref w0]))] "java/lang/IllegalArgumentException" (fun (zW : va_W) => zW = [(x0, .inr (5, [.ref l0, .ref v0, .int (nI sc), .ref t0, .ref y0, .ref r0, .ref p0, .ref w0]))]) := by
  refine gX_of RX7 rfl (by decide +kernel) (Nat.le_of_ble_eq_true rfl) ?_
  intro pg en s0 mi ag bl mth cd AA C hX ht hlk hnm
  show gW pg l en rx_X7_told_x1 s0 mi ag bl mth cd 2 D AA s0.heap _ 0 [(0, .ref x0), (1, .int (z1))] [] [(x0, .inr (5, [.ref l0, .ref v0, .int (nI sc), .ref t0, .ref y0, .ref r0, .ref p0, .ref w0]))] 0 0
  refine g_iload_n C 1 rfl dX7_told_0 ?_
  refine g_if_ge C 14 dX7_told_1 rfl (fun c1 => ?_) (fun c1 => ?_)
  · skip
    exact absurd c1 (Int32.not_le.mpr hz)
  · skip
    exact g_throwS C hX ht hlk hls (cls := "java/lang/IllegalArgumentException") (text := "a place is 0 or more") (ik := 53) (is := 163) (ic := 57) (by decide) wl_X7_53 xi_57 xat_57 (by decide +kernel) (by decide +kernel) dX7_told_4 dX7_told_7 dX7_told_8 dX7_told_10 dX7_told_13 (by decide) (by decide) (by decide) (by decide) rfl
def rx_X7_behind_x1 : Room := { frames := 6, cells := 1, slots := 6, locals := 96 }
set_option maxRecDepth 100000 in
set_option maxHeartbeats 4000000 in
theorem x_X7_behind_x1 (l : Launch) (D : va_G) (ty : Nat → ClassId) (hls : l.stackTraces = false) (x0 : Nat) (l0 : Nat) (v0 : Nat) (t0 : Nat) (y0 : Nat) (r0 : Nat) (p0 : Nat) (w0 : Nat) (sc : Nat) (z1 : Int32) (hz : z1 < 0) : gX l D ty yX7_behind cX7_behind 2 (some (FieldType.int : FieldType)) rx_X7_behind_x1 [.ref x0, .int (z1)] [(x0, .inr (5, [.ref l0, .ref v0, .int (nI sc), .ref t0, .ref y0, .ref r0, .ref p0, .ref w0]))] "java/lang/IllegalArgumentException" (fun (zW : va_W) => zW = [(x0, .inr (5, [.ref l0, .ref v0, .int (nI sc), .ref t0, .ref y0, .ref r0, .ref p0, .ref w0]))]) := by
  refine gX_of RX7 rfl (by decide +kernel) (Nat.le_of_ble_eq_true rfl) ?_
  intro pg en s0 mi ag bl mth cd AA C hX ht hlk hnm
  show gW pg l en rx_X7_behind_x1 s0 mi ag bl mth cd 2 D AA s0.heap _ 0 [(0, .ref x0), (1, .int (z1))] [] [(x0, .inr (5, [.ref l0, .ref v0, .int (nI sc), .ref t0, .ref y0, .ref r0, .ref p0, .ref w0]))] 0 0
  refine g_iload_n C 1 rfl dX7_behind_0 ?_
  refine g_if_ge C 14 dX7_behind_1 rfl (fun c1 => ?_) (fun c1 => ?_)
  · skip
    exact absurd c1 (Int32.not_le.mpr hz)
  · skip
    exact g_throwS C hX ht hlk hls (cls := "java/lang/IllegalArgumentException") (text := "a round is 0 or more") (ik := 53) (is := 211) (ic := 57) (by decide) wl_X7_53 xi_57 xat_57 (by decide +kernel) (by decide +kernel) dX7_behind_4 dX7_behind_7 dX7_behind_8 dX7_behind_10 dX7_behind_13 (by decide) (by decide) (by decide) (by decide) rfl
def rx_X7_spare_x1 : Room := { frames := 6, cells := 1, slots := 6, locals := 132 }
set_option maxRecDepth 100000 in
set_option maxHeartbeats 4000000 in
theorem x_X7_spare_x1 (l : Launch) (D : va_G) (ty : Nat → ClassId) (hls : l.stackTraces = false) (x0 : Nat) (l0 : Nat) (v0 : Nat) (t0 : Nat) (y0 : Nat) (r0 : Nat) (p0 : Nat) (w0 : Nat) (sc : Nat) (z1 : Int32) (hz : z1 < 0) : gX l D ty yX7_spare cX7_spare 3 (some (FieldType.int : FieldType)) rx_X7_spare_x1 [.ref x0, .int (z1)] [(x0, .inr (5, [.ref l0, .ref v0, .int (nI sc), .ref t0, .ref y0, .ref r0, .ref p0, .ref w0]))] "java/lang/IllegalArgumentException" (fun (zW : va_W) => zW = [(x0, .inr (5, [.ref l0, .ref v0, .int (nI sc), .ref t0, .ref y0, .ref r0, .ref p0, .ref w0]))]) := by
  refine gX_of RX7 rfl (by decide +kernel) (Nat.le_of_ble_eq_true rfl) ?_
  intro pg en s0 mi ag bl mth cd AA C hX ht hlk hnm
  show gW pg l en rx_X7_spare_x1 s0 mi ag bl mth cd 3 D AA s0.heap _ 0 [(0, .ref x0), (1, .int (z1))] [] [(x0, .inr (5, [.ref l0, .ref v0, .int (nI sc), .ref t0, .ref y0, .ref r0, .ref p0, .ref w0]))] 0 0
  refine g_iload_n C 1 rfl dX7_spare_0 ?_
  refine g_if_ge C 14 dX7_spare_1 rfl (fun c1 => ?_) (fun c1 => ?_)
  · skip
    exact absurd c1 (Int32.not_le.mpr hz)
  · skip
    exact g_throwS C hX ht hlk hls (cls := "java/lang/IllegalArgumentException") (text := "a place is 0 or more") (ik := 53) (is := 163) (ic := 57) (by decide) wl_X7_53 xi_57 xat_57 (by decide +kernel) (by decide +kernel) dX7_spare_4 dX7_spare_7 dX7_spare_8 dX7_spare_10 dX7_spare_13 (by decide) (by decide) (by decide) (by decide) rfl
def rx_X7_count_x1 : Room := { frames := 6, cells := 1, slots := 6, locals := 96 }
set_option maxRecDepth 100000 in
set_option maxHeartbeats 4000000 in
theorem x_X7_count_x1 (l : Launch) (D : va_G) (ty : Nat → ClassId) (hls : l.stackTraces = false) (x0 : Nat) (l0 : Nat) (v0 : Nat) (t0 : Nat) (y0 : Nat) (r0 : Nat) (p0 : Nat) (w0 : Nat) (sc : Nat) (z1 : Int32) (hz : z1 < 0 ∨ nI 7 < z1) : gX l D ty yX7_count cX7_count 2 (some (FieldType.int : FieldType)) rx_X7_count_x1 [.ref x0, .int (z1)] [(x0, .inr (5, [.ref l0, .ref v0, .int (nI sc), .ref t0, .ref y0, .ref r0, .ref p0, .ref w0]))] "java/lang/IllegalArgumentException" (fun (zW : va_W) => zW = [(x0, .inr (5, [.ref l0, .ref v0, .int (nI sc), .ref t0, .ref y0, .ref r0, .ref p0, .ref w0]))]) := by
  refine gX_of RX7 rfl (by decide +kernel) (Nat.le_of_ble_eq_true rfl) ?_
  intro pg en s0 mi ag bl mth cd AA C hX ht hlk hnm
  show gW pg l en rx_X7_count_x1 s0 mi ag bl mth cd 2 D AA s0.heap _ 0 [(0, .ref x0), (1, .int (z1))] [] [(x0, .inr (5, [.ref l0, .ref v0, .int (nI sc), .ref t0, .ref y0, .ref r0, .ref p0, .ref w0]))] 0 0
  refine g_iload_n C 1 rfl dX7_count_0 ?_
  refine g_if_lt C 10 dX7_count_1 rfl (fun c1 => ?_) (fun c1 => ?_)
  · skip
    exact g_throwS C hX ht hlk hls (cls := "java/lang/IllegalArgumentException") (text := "what is 0 to 7") (ik := 53) (is := 191) (ic := 57) (by decide) wl_X7_53 xi_57 xat_57 (by decide +kernel) (by decide +kernel) dX7_count_10 dX7_count_13 dX7_count_14 dX7_count_16 dX7_count_19 (by decide) (by decide) (by decide) (by decide) rfl
  · skip
    refine g_iload_n C 1 rfl dX7_count_4 ?_
    refine g_bipush C (nI 7) bp_7 dX7_count_5 ?_
    refine g_icmp_le C 20 dX7_count_7 rfl (fun c7 => ?_) (fun c7 => ?_)
    · skip
      exact hz.elim (fun q => absurd q c1) (fun q => absurd c7 (Int32.not_le.mpr q))
    · skip
      exact g_throwS C hX ht hlk hls (cls := "java/lang/IllegalArgumentException") (text := "what is 0 to 7") (ik := 53) (is := 191) (ic := 57) (by decide) wl_X7_53 xi_57 xat_57 (by decide +kernel) (by decide +kernel) dX7_count_10 dX7_count_13 dX7_count_14 dX7_count_16 dX7_count_19 (by decide) (by decide) (by decide) (by decide) rfl
def rx_X7_richest_x1 : Room := { frames := 6, cells := 1, slots := 6, locals := 132 }
set_option maxRecDepth 100000 in
set_option maxHeartbeats 4000000 in
theorem x_X7_richest_x1 (l : Launch) (D : va_G) (ty : Nat → ClassId) (hls : l.stackTraces = false) (x0 : Nat) (l0 : Nat) (v0 : Nat) (t0 : Nat) (y0 : Nat) (r0 : Nat) (p0 : Nat) (w0 : Nat) (sc : Nat) (z1 : Int32) (hz : z1 < 0 ∨ nI 4 ≤ z1) : gX l D ty yX7_richest cX7_richest 7 (some (FieldType.int : FieldType)) rx_X7_richest_x1 [.ref x0, .int (z1)] [(x0, .inr (5, [.ref l0, .ref v0, .int (nI sc), .ref t0, .ref y0, .ref r0, .ref p0, .ref w0]))] "java/lang/IllegalArgumentException" (fun (zW : va_W) => zW = [(x0, .inr (5, [.ref l0, .ref v0, .int (nI sc), .ref t0, .ref y0, .ref r0, .ref p0, .ref w0]))]) := by
  refine gX_of RX7 rfl (by decide +kernel) (Nat.le_of_ble_eq_true rfl) ?_
  intro pg en s0 mi ag bl mth cd AA C hX ht hlk hnm
  show gW pg l en rx_X7_richest_x1 s0 mi ag bl mth cd 7 D AA s0.heap _ 0 [(0, .ref x0), (1, .int (z1))] [] [(x0, .inr (5, [.ref l0, .ref v0, .int (nI sc), .ref t0, .ref y0, .ref r0, .ref p0, .ref w0]))] 0 0
  refine g_iload_n C 1 rfl dX7_richest_0 ?_
  refine g_if_lt C 9 dX7_richest_1 rfl (fun c1 => ?_) (fun c1 => ?_)
  · skip
    exact g_throwS C hX ht hlk hls (cls := "java/lang/IllegalArgumentException") (text := "a predicate is 0 to 3") (ik := 53) (is := 218) (ic := 57) (by decide) wl_X7_53 xi_57 xat_57 (by decide +kernel) (by decide +kernel) dX7_richest_9 dX7_richest_12 dX7_richest_13 dX7_richest_15 dX7_richest_18 (by decide) (by decide) (by decide) (by decide) rfl
  · skip
    refine g_iload_n C 1 rfl dX7_richest_4 ?_
    refine g_iconst C (nI 4) ic_4 dX7_richest_5 ?_
    refine g_icmp_lt C 19 dX7_richest_6 rfl (fun c6 => ?_) (fun c6 => ?_)
    · skip
      exact hz.elim (fun q => absurd q c1) (fun q => absurd c6 (Int32.not_lt.mpr q))
    · skip
      exact g_throwS C hX ht hlk hls (cls := "java/lang/IllegalArgumentException") (text := "a predicate is 0 to 3") (ik := 53) (is := 218) (ic := 57) (by decide) wl_X7_53 xi_57 xat_57 (by decide +kernel) (by decide +kernel) dX7_richest_9 dX7_richest_12 dX7_richest_13 dX7_richest_15 dX7_richest_18 (by decide) (by decide) (by decide) (by decide) rfl
def rx_X7_found_x1 : Room := { frames := 6, cells := 1, slots := 6, locals := 96 }
set_option maxRecDepth 100000 in
set_option maxHeartbeats 4000000 in
theorem x_X7_found_x1 (l : Launch) (D : va_G) (ty : Nat → ClassId) (hls : l.stackTraces = false) (x0 : Nat) (l0 : Nat) (v0 : Nat) (t0 : Nat) (y0 : Nat) (r0 : Nat) (p0 : Nat) (w0 : Nat) (sc : Nat) (z1 : Int32) (z2 : Int32) (hz : z1 < 0 ∨ z2 < 0 ∨ nI 3 < z2) : gX l D ty yX7_found cX7_found 4 (some (FieldType.int : FieldType)) rx_X7_found_x1 [.ref x0, .int (z1), .int (z2)] [(x0, .inr (5, [.ref l0, .ref v0, .int (nI sc), .ref t0, .ref y0, .ref r0, .ref p0, .ref w0]))] "java/lang/IllegalArgumentException" (fun (zW : va_W) => zW = [(x0, .inr (5, [.ref l0, .ref v0, .int (nI sc), .ref t0, .ref y0, .ref r0, .ref p0, .ref w0]))]) := by
  refine gX_of RX7 rfl (by decide +kernel) (Nat.le_of_ble_eq_true rfl) ?_
  intro pg en s0 mi ag bl mth cd AA C hX ht hlk hnm
  show gW pg l en rx_X7_found_x1 s0 mi ag bl mth cd 4 D AA s0.heap _ 0 [(0, .ref x0), (1, .int (z1)), (2, .int (z2))] [] [(x0, .inr (5, [.ref l0, .ref v0, .int (nI sc), .ref t0, .ref y0, .ref r0, .ref p0, .ref w0]))] 0 0
  refine g_iload_n C 1 rfl dX7_found_0 ?_
  refine g_if_lt C 13 dX7_found_1 rfl (fun c1 => ?_) (fun c1 => ?_)
  · skip
    exact g_throwS C hX ht hlk hls (cls := "java/lang/IllegalArgumentException") (text := "a place is 0 or more, what is 0 to 3") (ik := 53) (is := 175) (ic := 57) (by decide) wl_X7_53 xi_57 xat_57 (by decide +kernel) (by decide +kernel) dX7_found_13 dX7_found_16 dX7_found_17 dX7_found_19 dX7_found_22 (by decide) (by decide) (by decide) (by decide) rfl
  · skip
    refine g_iload_n C 2 rfl dX7_found_4 ?_
    refine g_if_lt C 13 dX7_found_5 rfl (fun c5 => ?_) (fun c5 => ?_)
    · skip
      exact g_throwS C hX ht hlk hls (cls := "java/lang/IllegalArgumentException") (text := "a place is 0 or more, what is 0 to 3") (ik := 53) (is := 175) (ic := 57) (by decide) wl_X7_53 xi_57 xat_57 (by decide +kernel) (by decide +kernel) dX7_found_13 dX7_found_16 dX7_found_17 dX7_found_19 dX7_found_22 (by decide) (by decide) (by decide) (by decide) rfl
    · skip
      refine g_iload_n C 2 rfl dX7_found_8 ?_
      refine g_iconst C (nI 3) ic_3 dX7_found_9 ?_
      refine g_icmp_le C 23 dX7_found_10 rfl (fun c10 => ?_) (fun c10 => ?_)
      · skip
        exact hz.elim (fun q => absurd q c1) (fun q => q.elim (fun q => absurd q c5) (fun q => absurd c10 (Int32.not_le.mpr q)))
      · skip
        exact g_throwS C hX ht hlk hls (cls := "java/lang/IllegalArgumentException") (text := "a place is 0 or more, what is 0 to 3") (ik := 53) (is := 175) (ic := 57) (by decide) wl_X7_53 xi_57 xat_57 (by decide +kernel) (by decide +kernel) dX7_found_13 dX7_found_16 dX7_found_17 dX7_found_19 dX7_found_22 (by decide) (by decide) (by decide) (by decide) rfl
def rx_X7_read_x1 : Room := { frames := 6, cells := 1, slots := 6, locals := 132 }
set_option maxRecDepth 100000 in
set_option maxHeartbeats 4000000 in
theorem x_X7_read_x1 (l : Launch) (D : va_G) (ty : Nat → ClassId) (hls : l.stackTraces = false) (x0 : Nat) (l0 : Nat) (v0 : Nat) (t0 : Nat) (y0 : Nat) (r0 : Nat) (p0 : Nat) (w0 : Nat) (sc : Nat) (t1 : Nat) (b : Nat → Nat) (len : Nat) (y1 : Nat) (Y : YT) (hY : okY Y) (hl : len ≤ 60) (hb : ∀ j, j < len → b j < 128) (hbad : fe b Y.2.2 len ≠ none ∨ stb (ry b Y.2.2 len) = false) : gX l D ty yX7_read cX7_read 2 (some (FieldType.int : FieldType)) rx_X7_read_x1 [.ref x0] [(x0, .inr (5, [.ref l0, .ref v0, .int (nI sc), .ref t0, .ref y0, .ref r0, .ref p0, .ref w0])), (t0, .inr (4, [.ref t1, .int (nI len)])), (t1, .inl (ty 0, 60, .inl (tI b))), (y0, .inr (1, [.ref y1, .int (nI (Y.1)), .int (nI (Y.2.1))])), (y1, .inl (ty 0, 3, .inl (tI Y.2.2)))] "java/lang/IllegalArgumentException" (fun (zW : va_W) => ∃ (Y9 : YT), okY Y9 ∧ zW = [(x0, .inr (5, [.ref l0, .ref v0, .int (nI sc), .ref t0, .ref y0, .ref r0, .ref p0, .ref w0])), (t0, .inr (4, [.ref t1, .int (nI len)])), (t1, .inl (ty 0, 60, .inl (tI b))), (y0, .inr (1, [.ref y1, .int (nI (Y9.1)), .int (nI (Y9.2.1))])), (y1, .inl (ty 0, 3, .inl (tI Y9.2.2)))]) := by
  have hry : ∀ n, okY (ry b Y.2.2 n) := okY_ry hY.2.2.1
  refine gX_of RX7 rfl (by decide +kernel) (Nat.le_of_ble_eq_true rfl) ?_
  intro pg en s0 mi ag bl mth cd AA C hX ht hlk hnm
  show gW pg l en rx_X7_read_x1 s0 mi ag bl mth cd 2 D AA s0.heap _ 0 [(0, .ref x0)] [] [(x0, .inr (5, [.ref l0, .ref v0, .int (nI sc), .ref t0, .ref y0, .ref r0, .ref p0, .ref w0])), (t0, .inr (4, [.ref t1, .int (nI len)])), (t1, .inl (ty 0, 60, .inl (tI b))), (y0, .inr (1, [.ref y1, .int (nI (Y.1)), .int (nI (Y.2.1))])), (y1, .inl (ty 0, 3, .inl (tI Y.2.2)))] 0 0
  refine g_aload_n C 0 rfl dX7_read_0 ?_
  refine g_getf C wu_X7 0 rfl rfl 4 (by decide) wf_X7_30 rfl rfl dX7_read_1 ?_
  refine g_aload_n C 0 rfl dX7_read_4 ?_
  refine g_getf C wu_X7 0 rfl rfl 3 (by decide) wf_X7_23 rfl rfl dX7_read_5 ?_
  refine g_callV C (nA := 1) (ci := 1) (q0 := 0) (As := [.ref t0]) (wr := [(x0, .inr (5, [.ref l0, .ref v0, .int (nI sc), .ref t0, .ref y0, .ref r0, .ref p0, .ref w0]))]) (k_X3_errorIn l D ty y0 y1 Y t0 t1 b len (by omega) (by omega) hb) wm_X7_139 wn_X3_errorIn wv_X3_errorIn wi_X3 wc_X3_errorIn rfl (by decide +kernel) ⟨(Nat.le_of_ble_eq_true rfl), (Nat.le_of_ble_eq_true rfl)⟩ ⟨rfl, rfl⟩ dX7_read_8 ⟨Nat.zero_le _, Nat.zero_le _⟩ rfl rfl rfl [3, 4, 1, 2] [0] rfl rfl rfl rfl (by decide) (Nat.le_of_ble_eq_true rfl) rfl (fun r W1 hp => ?_)
  obtain ⟨Y5, hy0, hy1, rfl, rfl⟩ := hp
  refine g_fix [.int (nI ((fe b Y.2.2 len).getD len))] [(x0, .inr (5, [.ref l0, .ref v0, .int (nI sc), .ref t0, .ref y0, .ref r0, .ref p0, .ref w0])), (t0, .inr (4, [.ref t1, .int (nI len)])), (t1, .inl (ty 0, 60, .inl (tI b))), (y0, .inr (1, [.ref y1, .int (nI (Y5.1)), .int (nI (Y5.2.1))])), (y1, .inl (ty 0, 3, .inl (tI Y5.2.2)))] [0, 3, 4, 1, 2] rfl rfl rfl ?_
  have hle : (fe b Y.2.2 len).getD len ≤ len := by
    cases hfe : fe b Y.2.2 len with
    | none => exact Nat.le_refl _
    | some a => have := fe_lt hfe; simp only [Option.getD_some]; omega
  refine g_aload_n C 0 rfl dX7_read_11 ?_
  refine g_getf C wu_X7 0 rfl rfl 3 (by decide) wf_X7_23 rfl rfl dX7_read_12 ?_
  refine g_callV C (nA := 0) (ci := 4) (q0 := 0) (As := []) (wr := [(x0, .inr (5, [.ref l0, .ref v0, .int (nI sc), .ref t0, .ref y0, .ref r0, .ref p0, .ref w0])), (t1, .inl (ty 0, 60, .inl (tI b))), (y0, .inr (1, [.ref y1, .int (nI (Y5.1)), .int (nI (Y5.2.1))])), (y1, .inl (ty 0, 3, .inl (tI Y5.2.2)))]) (k_X6_size l D ty t0 t1 len ) wm_X7_132 wn_X6_size wv_X6_size wi_X6 wc_X6_size rfl (by decide +kernel) ⟨(Nat.le_of_ble_eq_true rfl), (Nat.le_of_ble_eq_true rfl)⟩ ⟨rfl, rfl⟩ dX7_read_15 ⟨Nat.zero_le _, Nat.zero_le _⟩ rfl rfl rfl [1] [0, 2, 3, 4] rfl rfl rfl rfl (by decide) (Nat.le_of_ble_eq_true rfl) rfl (fun r W1 hp => ?_)
  obtain ⟨rfl, rfl⟩ := hp
  refine g_fix [.int (nI len), .int (nI ((fe b Y.2.2 len).getD len))] [(x0, .inr (5, [.ref l0, .ref v0, .int (nI sc), .ref t0, .ref y0, .ref r0, .ref p0, .ref w0])), (t0, .inr (4, [.ref t1, .int (nI len)])), (t1, .inl (ty 0, 60, .inl (tI b))), (y0, .inr (1, [.ref y1, .int (nI (Y5.1)), .int (nI (Y5.2.1))])), (y1, .inl (ty 0, 3, .inl (tI Y5.2.2)))] [0, 4, 1, 2, 3] rfl rfl rfl ?_
  refine g_icmp_ltN C ((fe b Y.2.2 len).getD len) len 31 rfl rfl (by omega) (by omega) dX7_read_18 rfl (fun c18 => ?_) (fun c18 => ?_)
  · skip
    exact g_throwS C hX ht hlk hls (cls := "java/lang/IllegalArgumentException") (text := "the buffer is no laws") (ik := 53) (is := 147) (ic := 57) (by decide) wl_X7_53 xi_57 xat_57 (by decide +kernel) (by decide +kernel) dX7_read_31 dX7_read_34 dX7_read_35 dX7_read_37 dX7_read_40 (by decide) (by decide) (by decide) (by decide) ⟨Y5, hy1, rfl⟩
  · skip
    have hnn : fe b Y.2.2 len = none := by
      cases hfe : fe b Y.2.2 len with
      | none => rfl
      | some a => have := fe_lt hfe; rw [hfe] at c18; simp only [Option.getD_some] at c18; omega
    refine g_aload_n C 0 rfl dX7_read_21 ?_
    refine g_getf C wu_X7 0 rfl rfl 4 (by decide) wf_X7_30 rfl rfl dX7_read_22 ?_
    refine g_callV C (nA := 0) (ci := 1) (q0 := 0) (As := []) (wr := [(x0, .inr (5, [.ref l0, .ref v0, .int (nI sc), .ref t0, .ref y0, .ref r0, .ref p0, .ref w0])), (t0, .inr (4, [.ref t1, .int (nI len)])), (t1, .inl (ty 0, 60, .inl (tI b)))]) (k_X3_standsBehindLaw l D ty y0 y1 Y5 hy1) wm_X7_143 wn_X3_standsBehindLaw wv_X3_standsBehindLaw wi_X3 wc_X3_standsBehindLaw rfl (by decide +kernel) ⟨(Nat.le_of_ble_eq_true rfl), (Nat.le_of_ble_eq_true rfl)⟩ ⟨rfl, rfl⟩ dX7_read_25 ⟨Nat.zero_le _, Nat.zero_le _⟩ rfl rfl rfl [3, 4] [0, 1, 2] rfl rfl rfl rfl (by decide) (Nat.le_of_ble_eq_true rfl) rfl (fun r W1 hp => ?_)
    obtain ⟨rfl, rfl⟩ := hp
    refine g_fix [.int (bI (stb Y5))] [(x0, .inr (5, [.ref l0, .ref v0, .int (nI sc), .ref t0, .ref y0, .ref r0, .ref p0, .ref w0])), (t0, .inr (4, [.ref t1, .int (nI len)])), (t1, .inl (ty 0, 60, .inl (tI b))), (y0, .inr (1, [.ref y1, .int (nI (Y5.1)), .int (nI (Y5.2.1))])), (y1, .inl (ty 0, 3, .inl (tI Y5.2.2)))] [0, 1, 2, 3, 4] rfl rfl rfl ?_
    refine g_if_neB C (stb Y5) 41 rfl dX7_read_28 rfl (fun c28 => ?_) (fun c28 => ?_)
    · skip
      exact hbad.elim (fun q => (q hnn).elim) (fun q => absurd ((c28.symm.trans (congrArg stb (hy0 hnn))).trans q) (by decide))
    · skip
      exact g_throwS C hX ht hlk hls (cls := "java/lang/IllegalArgumentException") (text := "the buffer is no laws") (ik := 53) (is := 147) (ic := 57) (by decide) wl_X7_53 xi_57 xat_57 (by decide +kernel) (by decide +kernel) dX7_read_31 dX7_read_34 dX7_read_35 dX7_read_37 dX7_read_40 (by decide) (by decide) (by decide) (by decide) ⟨Y5, hy1, rfl⟩
def rx_X7_read_x2 : Room := { frames := 6, cells := 1, slots := 6, locals := 132 }
set_option maxRecDepth 100000 in
set_option maxHeartbeats 4000000 in
theorem x_X7_read_x2 (l : Launch) (D : va_G) (ty : Nat → ClassId) (hls : l.stackTraces = false) (x0 : Nat) (l0 : Nat) (v0 : Nat) (t0 : Nat) (y0 : Nat) (r0 : Nat) (p0 : Nat) (w0 : Nat) (l1 : Nat) (l2 : Nat) (l3 : Nat) (T : Nat → Bool) (q : Nat → Nat) (nr : Nat) (sc : Nat) (p1 : Nat) (p2 : Nat) (p3 : Nat) (P : LT) (t1 : Nat) (b : Nat → Nat) (len : Nat) (y1 : Nat) (Y : YT) (hY : okY Y) (hl : len ≤ 60) (hb : ∀ j, j < len → b j < 128) (hq : okQ q nr) (hfe : fe b Y.2.2 len = none) (hst : stb (ry b Y.2.2 len) = true) (hp : pst b (ry b Y.2.2 len).2.2 len (0, T, q, nr) (len + 1) = none) : gX l D ty yX7_read cX7_read 2 (some (FieldType.int : FieldType)) rx_X7_read_x2 [.ref x0] [(x0, .inr (5, [.ref l0, .ref v0, .int (nI sc), .ref t0, .ref y0, .ref r0, .ref p0, .ref w0])), (l0, .inr (2, [.ref l1, .ref l2, .int (nI nr)])), (l1, .inr (0, [.ref l3])), (l3, .inl (ty 1, 4, .inr (.inl (zM T)))), (l2, .inl (ty 0, 18, .inl (eR q))), (p0, .inr (2, [.ref p1, .ref p2, .int (nI (P.2.2))])), (p1, .inr (0, [.ref p3])), (p3, .inl (ty 1, 4, .inr (.inl (zM P.1)))), (p2, .inl (ty 0, 18, .inl (eR P.2.1))), (t0, .inr (4, [.ref t1, .int (nI len)])), (t1, .inl (ty 0, 60, .inl (tI b))), (y0, .inr (1, [.ref y1, .int (nI (Y.1)), .int (nI (Y.2.1))])), (y1, .inl (ty 0, 3, .inl (tI Y.2.2)))] "java/lang/IllegalStateException" (fun (zW : va_W) => ∃ (P9 : LT) (Y9 : YT), okY Y9 ∧ zW = [(x0, .inr (5, [.ref l0, .ref v0, .int (nI sc), .ref t0, .ref y0, .ref r0, .ref p0, .ref w0])), (l0, .inr (2, [.ref l1, .ref l2, .int (nI nr)])), (l1, .inr (0, [.ref l3])), (l3, .inl (ty 1, 4, .inr (.inl (zM T)))), (l2, .inl (ty 0, 18, .inl (eR q))), (p0, .inr (2, [.ref p1, .ref p2, .int (nI (P9.2.2))])), (p1, .inr (0, [.ref p3])), (p3, .inl (ty 1, 4, .inr (.inl (zM P9.1)))), (p2, .inl (ty 0, 18, .inl (eR P9.2.1))), (t0, .inr (4, [.ref t1, .int (nI len)])), (t1, .inl (ty 0, 60, .inl (tI b))), (y0, .inr (1, [.ref y1, .int (nI (Y9.1)), .int (nI (Y9.2.1))])), (y1, .inl (ty 0, 3, .inl (tI Y9.2.2)))]) := by
  have h6 := hq.1
  have hry : ∀ n, okY (ry b Y.2.2 n) := okY_ry hY.2.2.1
  refine gX_of RX7 rfl (by decide +kernel) (Nat.le_of_ble_eq_true rfl) ?_
  intro pg en s0 mi ag bl mth cd AA C hX ht hlk hnm
  show gW pg l en rx_X7_read_x2 s0 mi ag bl mth cd 2 D AA s0.heap _ 0 [(0, .ref x0)] [] [(x0, .inr (5, [.ref l0, .ref v0, .int (nI sc), .ref t0, .ref y0, .ref r0, .ref p0, .ref w0])), (l0, .inr (2, [.ref l1, .ref l2, .int (nI nr)])), (l1, .inr (0, [.ref l3])), (l3, .inl (ty 1, 4, .inr (.inl (zM T)))), (l2, .inl (ty 0, 18, .inl (eR q))), (p0, .inr (2, [.ref p1, .ref p2, .int (nI (P.2.2))])), (p1, .inr (0, [.ref p3])), (p3, .inl (ty 1, 4, .inr (.inl (zM P.1)))), (p2, .inl (ty 0, 18, .inl (eR P.2.1))), (t0, .inr (4, [.ref t1, .int (nI len)])), (t1, .inl (ty 0, 60, .inl (tI b))), (y0, .inr (1, [.ref y1, .int (nI (Y.1)), .int (nI (Y.2.1))])), (y1, .inl (ty 0, 3, .inl (tI Y.2.2)))] 0 0
  refine g_aload_n C 0 rfl dX7_read_0 ?_
  refine g_getf C wu_X7 0 rfl rfl 4 (by decide) wf_X7_30 rfl rfl dX7_read_1 ?_
  refine g_aload_n C 0 rfl dX7_read_4 ?_
  refine g_getf C wu_X7 0 rfl rfl 3 (by decide) wf_X7_23 rfl rfl dX7_read_5 ?_
  refine g_callV C (nA := 1) (ci := 1) (q0 := 0) (As := [.ref t0]) (wr := [(x0, .inr (5, [.ref l0, .ref v0, .int (nI sc), .ref t0, .ref y0, .ref r0, .ref p0, .ref w0])), (l0, .inr (2, [.ref l1, .ref l2, .int (nI nr)])), (l1, .inr (0, [.ref l3])), (l3, .inl (ty 1, 4, .inr (.inl (zM T)))), (l2, .inl (ty 0, 18, .inl (eR q))), (p0, .inr (2, [.ref p1, .ref p2, .int (nI (P.2.2))])), (p1, .inr (0, [.ref p3])), (p3, .inl (ty 1, 4, .inr (.inl (zM P.1)))), (p2, .inl (ty 0, 18, .inl (eR P.2.1)))]) (k_X3_errorIn l D ty y0 y1 Y t0 t1 b len (by omega) (by omega) hb) wm_X7_139 wn_X3_errorIn wv_X3_errorIn wi_X3 wc_X3_errorIn rfl (by decide +kernel) ⟨(Nat.le_of_ble_eq_true rfl), (Nat.le_of_ble_eq_true rfl)⟩ ⟨rfl, rfl⟩ dX7_read_8 ⟨Nat.zero_le _, Nat.zero_le _⟩ rfl rfl rfl [11, 12, 9, 10] [0, 1, 2, 3, 4, 5, 6, 7, 8] rfl rfl rfl rfl (by decide) (Nat.le_of_ble_eq_true rfl) rfl (fun r W1 hp => ?_)
  obtain ⟨Y5, hy0, hy1, rfl, rfl⟩ := hp
  refine g_fix [.int (nI ((fe b Y.2.2 len).getD len))] [(x0, .inr (5, [.ref l0, .ref v0, .int (nI sc), .ref t0, .ref y0, .ref r0, .ref p0, .ref w0])), (l0, .inr (2, [.ref l1, .ref l2, .int (nI nr)])), (l1, .inr (0, [.ref l3])), (l3, .inl (ty 1, 4, .inr (.inl (zM T)))), (l2, .inl (ty 0, 18, .inl (eR q))), (p0, .inr (2, [.ref p1, .ref p2, .int (nI (P.2.2))])), (p1, .inr (0, [.ref p3])), (p3, .inl (ty 1, 4, .inr (.inl (zM P.1)))), (p2, .inl (ty 0, 18, .inl (eR P.2.1))), (t0, .inr (4, [.ref t1, .int (nI len)])), (t1, .inl (ty 0, 60, .inl (tI b))), (y0, .inr (1, [.ref y1, .int (nI (Y5.1)), .int (nI (Y5.2.1))])), (y1, .inl (ty 0, 3, .inl (tI Y5.2.2)))] [0, 1, 2, 3, 4, 5, 6, 7, 8, 11, 12, 9, 10] rfl rfl rfl ?_
  refine g_st [.int (nI len)] (by rw [hfe]; rfl) ?_
  refine g_ws [(x0, .inr (5, [.ref l0, .ref v0, .int (nI sc), .ref t0, .ref y0, .ref r0, .ref p0, .ref w0])), (l0, .inr (2, [.ref l1, .ref l2, .int (nI nr)])), (l1, .inr (0, [.ref l3])), (l3, .inl (ty 1, 4, .inr (.inl (zM T)))), (l2, .inl (ty 0, 18, .inl (eR q))), (p0, .inr (2, [.ref p1, .ref p2, .int (nI (P.2.2))])), (p1, .inr (0, [.ref p3])), (p3, .inl (ty 1, 4, .inr (.inl (zM P.1)))), (p2, .inl (ty 0, 18, .inl (eR P.2.1))), (t0, .inr (4, [.ref t1, .int (nI len)])), (t1, .inl (ty 0, 60, .inl (tI b))), (y0, .inr (1, [.ref y1, .int (nI ((ry b Y.2.2 len).1)), .int (nI ((ry b Y.2.2 len).2.1))])), (y1, .inl (ty 0, 3, .inl (tI (ry b Y.2.2 len).2.2)))] (by rw [hy0 hfe]) ?_
  refine g_aload_n C 0 rfl dX7_read_11 ?_
  refine g_getf C wu_X7 0 rfl rfl 3 (by decide) wf_X7_23 rfl rfl dX7_read_12 ?_
  refine g_callV C (nA := 0) (ci := 4) (q0 := 0) (As := []) (wr := [(x0, .inr (5, [.ref l0, .ref v0, .int (nI sc), .ref t0, .ref y0, .ref r0, .ref p0, .ref w0])), (l0, .inr (2, [.ref l1, .ref l2, .int (nI nr)])), (l1, .inr (0, [.ref l3])), (l3, .inl (ty 1, 4, .inr (.inl (zM T)))), (l2, .inl (ty 0, 18, .inl (eR q))), (p0, .inr (2, [.ref p1, .ref p2, .int (nI (P.2.2))])), (p1, .inr (0, [.ref p3])), (p3, .inl (ty 1, 4, .inr (.inl (zM P.1)))), (p2, .inl (ty 0, 18, .inl (eR P.2.1))), (t1, .inl (ty 0, 60, .inl (tI b))), (y0, .inr (1, [.ref y1, .int (nI ((ry b Y.2.2 len).1)), .int (nI ((ry b Y.2.2 len).2.1))])), (y1, .inl (ty 0, 3, .inl (tI (ry b Y.2.2 len).2.2)))]) (k_X6_size l D ty t0 t1 len ) wm_X7_132 wn_X6_size wv_X6_size wi_X6 wc_X6_size rfl (by decide +kernel) ⟨(Nat.le_of_ble_eq_true rfl), (Nat.le_of_ble_eq_true rfl)⟩ ⟨rfl, rfl⟩ dX7_read_15 ⟨Nat.zero_le _, Nat.zero_le _⟩ rfl rfl rfl [9] [0, 1, 2, 3, 4, 5, 6, 7, 8, 10, 11, 12] rfl rfl rfl rfl (by decide) (Nat.le_of_ble_eq_true rfl) rfl (fun r W1 hp => ?_)
  obtain ⟨rfl, rfl⟩ := hp
  refine g_fix [.int (nI len), .int (nI len)] [(x0, .inr (5, [.ref l0, .ref v0, .int (nI sc), .ref t0, .ref y0, .ref r0, .ref p0, .ref w0])), (l0, .inr (2, [.ref l1, .ref l2, .int (nI nr)])), (l1, .inr (0, [.ref l3])), (l3, .inl (ty 1, 4, .inr (.inl (zM T)))), (l2, .inl (ty 0, 18, .inl (eR q))), (p0, .inr (2, [.ref p1, .ref p2, .int (nI (P.2.2))])), (p1, .inr (0, [.ref p3])), (p3, .inl (ty 1, 4, .inr (.inl (zM P.1)))), (p2, .inl (ty 0, 18, .inl (eR P.2.1))), (t0, .inr (4, [.ref t1, .int (nI len)])), (t1, .inl (ty 0, 60, .inl (tI b))), (y0, .inr (1, [.ref y1, .int (nI ((ry b Y.2.2 len).1)), .int (nI ((ry b Y.2.2 len).2.1))])), (y1, .inl (ty 0, 3, .inl (tI (ry b Y.2.2 len).2.2)))] [0, 1, 2, 3, 4, 5, 6, 7, 8, 12, 9, 10, 11] rfl rfl rfl ?_
  refine g_icmp_ltN C len len 31 rfl rfl (by omega) (by omega) dX7_read_18 rfl (fun c18 => ?_) (fun c18 => ?_)
  · skip
    exact absurd c18 (by omega)
  · skip
    refine g_aload_n C 0 rfl dX7_read_21 ?_
    refine g_getf C wu_X7 0 rfl rfl 4 (by decide) wf_X7_30 rfl rfl dX7_read_22 ?_
    refine g_callV C (nA := 0) (ci := 1) (q0 := 0) (As := []) (wr := [(x0, .inr (5, [.ref l0, .ref v0, .int (nI sc), .ref t0, .ref y0, .ref r0, .ref p0, .ref w0])), (l0, .inr (2, [.ref l1, .ref l2, .int (nI nr)])), (l1, .inr (0, [.ref l3])), (l3, .inl (ty 1, 4, .inr (.inl (zM T)))), (l2, .inl (ty 0, 18, .inl (eR q))), (p0, .inr (2, [.ref p1, .ref p2, .int (nI (P.2.2))])), (p1, .inr (0, [.ref p3])), (p3, .inl (ty 1, 4, .inr (.inl (zM P.1)))), (p2, .inl (ty 0, 18, .inl (eR P.2.1))), (t0, .inr (4, [.ref t1, .int (nI len)])), (t1, .inl (ty 0, 60, .inl (tI b)))]) (k_X3_standsBehindLaw l D ty y0 y1 (ry b Y.2.2 len) (hry len)) wm_X7_143 wn_X3_standsBehindLaw wv_X3_standsBehindLaw wi_X3 wc_X3_standsBehindLaw rfl (by decide +kernel) ⟨(Nat.le_of_ble_eq_true rfl), (Nat.le_of_ble_eq_true rfl)⟩ ⟨rfl, rfl⟩ dX7_read_25 ⟨Nat.zero_le _, Nat.zero_le _⟩ rfl rfl rfl [11, 12] [0, 1, 2, 3, 4, 5, 6, 7, 8, 9, 10] rfl rfl rfl rfl (by decide) (Nat.le_of_ble_eq_true rfl) rfl (fun r W1 hp => ?_)
    obtain ⟨rfl, rfl⟩ := hp
    refine g_fix [.int (bI (stb (ry b Y.2.2 len)))] [(x0, .inr (5, [.ref l0, .ref v0, .int (nI sc), .ref t0, .ref y0, .ref r0, .ref p0, .ref w0])), (l0, .inr (2, [.ref l1, .ref l2, .int (nI nr)])), (l1, .inr (0, [.ref l3])), (l3, .inl (ty 1, 4, .inr (.inl (zM T)))), (l2, .inl (ty 0, 18, .inl (eR q))), (p0, .inr (2, [.ref p1, .ref p2, .int (nI (P.2.2))])), (p1, .inr (0, [.ref p3])), (p3, .inl (ty 1, 4, .inr (.inl (zM P.1)))), (p2, .inl (ty 0, 18, .inl (eR P.2.1))), (t0, .inr (4, [.ref t1, .int (nI len)])), (t1, .inl (ty 0, 60, .inl (tI b))), (y0, .inr (1, [.ref y1, .int (nI ((ry b Y.2.2 len).1)), .int (nI ((ry b Y.2.2 len).2.1))])), (y1, .inl (ty 0, 3, .inl (tI (ry b Y.2.2 len).2.2)))] [0, 1, 2, 3, 4, 5, 6, 7, 8, 9, 10, 11, 12] rfl rfl rfl ?_
    refine g_if_neB C (stb (ry b Y.2.2 len)) 41 rfl dX7_read_28 rfl (fun c28 => ?_) (fun c28 => ?_)
    · skip
      refine g_aload_n C 0 rfl dX7_read_41 ?_
      refine g_getf C wu_X7 0 rfl rfl 6 (by decide) wf_X7_41 rfl rfl dX7_read_42 ?_
      refine g_aload_n C 0 rfl dX7_read_45 ?_
      refine g_getf C wu_X7 0 rfl rfl 0 (by decide) wf_X7_10 rfl rfl dX7_read_46 ?_
      refine g_callV C (nA := 1) (ci := 2) (q0 := 0) (As := [.ref l0]) (wr := [(x0, .inr (5, [.ref l0, .ref v0, .int (nI sc), .ref t0, .ref y0, .ref r0, .ref p0, .ref w0])), (t0, .inr (4, [.ref t1, .int (nI len)])), (t1, .inl (ty 0, 60, .inl (tI b))), (y0, .inr (1, [.ref y1, .int (nI ((ry b Y.2.2 len).1)), .int (nI ((ry b Y.2.2 len).2.1))])), (y1, .inl (ty 0, 3, .inl (tI (ry b Y.2.2 len).2.2)))]) (k_X4_copyOf l D ty p0 p1 p2 p3 P.1 P.2.1 P.2.2 l0 l1 l2 l3 T q nr ) wm_X7_149 wn_X4_copyOf wv_X4_copyOf wi_X4 wc_X4_copyOf rfl (by decide +kernel) ⟨(Nat.le_of_ble_eq_true rfl), (Nat.le_of_ble_eq_true rfl)⟩ ⟨rfl, rfl⟩ dX7_read_49 ⟨Nat.zero_le _, Nat.zero_le _⟩ rfl rfl rfl [5, 6, 7, 8, 1, 2, 3, 4] [0, 9, 10, 11, 12] rfl rfl rfl rfl (by decide) (Nat.le_of_ble_eq_true rfl) rfl (fun r W1 hp => ?_)
      obtain ⟨rfl, rfl⟩ := hp
      refine g_fix [] [(x0, .inr (5, [.ref l0, .ref v0, .int (nI sc), .ref t0, .ref y0, .ref r0, .ref p0, .ref w0])), (l0, .inr (2, [.ref l1, .ref l2, .int (nI nr)])), (l1, .inr (0, [.ref l3])), (l3, .inl (ty 1, 4, .inr (.inl (zM T)))), (l2, .inl (ty 0, 18, .inl (eR q))), (p0, .inr (2, [.ref p1, .ref p2, .int (nI nr)])), (p1, .inr (0, [.ref p3])), (p3, .inl (ty 1, 4, .inr (.inl (zM T)))), (p2, .inl (ty 0, 18, .inl (eR q))), (t0, .inr (4, [.ref t1, .int (nI len)])), (t1, .inl (ty 0, 60, .inl (tI b))), (y0, .inr (1, [.ref y1, .int (nI ((ry b Y.2.2 len).1)), .int (nI ((ry b Y.2.2 len).2.1))])), (y1, .inl (ty 0, 3, .inl (tI (ry b Y.2.2 len).2.2)))] [0, 9, 10, 11, 12, 5, 6, 7, 8, 1, 2, 3, 4] rfl rfl rfl ?_
      refine g_aload_n C 0 rfl dX7_read_52 ?_
      refine g_getf C wu_X7 0 rfl rfl 4 (by decide) wf_X7_30 rfl rfl dX7_read_53 ?_
      refine g_aload_n C 0 rfl dX7_read_56 ?_
      refine g_getf C wu_X7 0 rfl rfl 3 (by decide) wf_X7_23 rfl rfl dX7_read_57 ?_
      refine g_aload_n C 0 rfl dX7_read_60 ?_
      refine g_getf C wu_X7 0 rfl rfl 6 (by decide) wf_X7_41 rfl rfl dX7_read_61 ?_
      refine g_callV C (nA := 2) (ci := 1) (q0 := 0) (As := [.ref t0, .ref p0]) (wr := [(x0, .inr (5, [.ref l0, .ref v0, .int (nI sc), .ref t0, .ref y0, .ref r0, .ref p0, .ref w0])), (l0, .inr (2, [.ref l1, .ref l2, .int (nI nr)])), (l1, .inr (0, [.ref l3])), (l3, .inl (ty 1, 4, .inr (.inl (zM T)))), (l2, .inl (ty 0, 18, .inl (eR q)))]) (k_X3_putLaws l D ty y0 y1 (ry b Y.2.2 len) t0 t1 b len p0 p1 p2 p3 T q nr (hry len) (by omega) hb (by omega)) wm_X7_151 wn_X3_putLaws wv_X3_putLaws wi_X3 wc_X3_putLaws rfl (by decide +kernel) ⟨(Nat.le_of_ble_eq_true rfl), (Nat.le_of_ble_eq_true rfl)⟩ ⟨rfl, rfl⟩ dX7_read_64 ⟨Nat.zero_le _, Nat.zero_le _⟩ rfl rfl rfl [11, 12, 9, 10, 5, 6, 7, 8] [0, 1, 2, 3, 4] rfl rfl rfl rfl (by decide) (Nat.le_of_ble_eq_true rfl) rfl (fun r W1 hp => ?_)
      obtain ⟨Y6, P6, hk0, hk1, hk2, rfl, rfl⟩ := hp
      refine g_fix [.int (gtN (pst b (ry b Y.2.2 len).2.2 len (0, T, q, nr) (len + 1)))] [(x0, .inr (5, [.ref l0, .ref v0, .int (nI sc), .ref t0, .ref y0, .ref r0, .ref p0, .ref w0])), (l0, .inr (2, [.ref l1, .ref l2, .int (nI nr)])), (l1, .inr (0, [.ref l3])), (l3, .inl (ty 1, 4, .inr (.inl (zM T)))), (l2, .inl (ty 0, 18, .inl (eR q))), (p0, .inr (2, [.ref p1, .ref p2, .int (nI (P6.2.2.2))])), (p1, .inr (0, [.ref p3])), (p3, .inl (ty 1, 4, .inr (.inl (zM P6.2.1)))), (p2, .inl (ty 0, 18, .inl (eR P6.2.2.1))), (t0, .inr (4, [.ref t1, .int (nI len)])), (t1, .inl (ty 0, 60, .inl (tI b))), (y0, .inr (1, [.ref y1, .int (nI (Y6.1)), .int (nI (Y6.2.1))])), (y1, .inl (ty 0, 3, .inl (tI Y6.2.2)))] [0, 1, 2, 3, 4, 9, 10, 11, 12, 7, 8, 5, 6] rfl rfl rfl ?_
      refine g_st [.int (-1)] (by rw [hp]; rfl) ?_
      refine g_istore_n C [(1, .int (-1)), (0, .ref x0)] dX7_read_67 rfl (by decide) rfl ?_
      refine g_iload_n C 0 rfl dX7_read_68 ?_
      refine g_iconst C (-1) ic_m1 dX7_read_69 ?_
      refine g_icmp_eq C 88 dX7_read_70 rfl (fun c70 => ?_) (fun c70 => ?_)
      · skip
        exact g_throwS C hX ht hlk hls (cls := "java/lang/IllegalStateException") (text := "there is no room for these laws") (ik := 78) (is := 155) (ic := 82) (by decide) wl_X7_78 xi_82 xat_82 (by decide +kernel) (by decide +kernel) dX7_read_88 dX7_read_91 dX7_read_92 dX7_read_94 dX7_read_97 (by decide) (by decide) (by decide) (by decide) ⟨(P6.2.1, P6.2.2.1, P6.2.2.2), Y6, hk0, rfl⟩
      · skip
        exact absurd rfl c70
    · skip
      exact absurd (c28.symm.trans hst) (by decide)
def rx_X7_read_x3 : Room := { frames := 6, cells := 1, slots := 6, locals := 132 }
set_option maxRecDepth 100000 in
set_option maxHeartbeats 4000000 in
theorem x_X7_read_x3 (l : Launch) (D : va_G) (ty : Nat → ClassId) (hls : l.stackTraces = false) (x0 : Nat) (l0 : Nat) (v0 : Nat) (t0 : Nat) (y0 : Nat) (r0 : Nat) (p0 : Nat) (w0 : Nat) (l1 : Nat) (l2 : Nat) (l3 : Nat) (T : Nat → Bool) (q : Nat → Nat) (nr : Nat) (sc : Nat) (p1 : Nat) (p2 : Nat) (p3 : Nat) (P : LT) (t1 : Nat) (b : Nat → Nat) (len : Nat) (y1 : Nat) (Y : YT) (P2 : PT) (hY : okY Y) (hl : len ≤ 60) (hb : ∀ j, j < len → b j < 128) (hq : okQ q nr) (hfe : fe b Y.2.2 len = none) (hst : stb (ry b Y.2.2 len) = true) (hp : pst b (ry b Y.2.2 len).2.2 len (0, T, q, nr) (len + 1) = some P2) (hm : P2.1 < 256) (h12 : 12 < zcnt P2.2.1 256) : gX l D ty yX7_read cX7_read 2 (some (FieldType.int : FieldType)) rx_X7_read_x3 [.ref x0] [(x0, .inr (5, [.ref l0, .ref v0, .int (nI sc), .ref t0, .ref y0, .ref r0, .ref p0, .ref w0])), (l0, .inr (2, [.ref l1, .ref l2, .int (nI nr)])), (l1, .inr (0, [.ref l3])), (l3, .inl (ty 1, 4, .inr (.inl (zM T)))), (l2, .inl (ty 0, 18, .inl (eR q))), (p0, .inr (2, [.ref p1, .ref p2, .int (nI (P.2.2))])), (p1, .inr (0, [.ref p3])), (p3, .inl (ty 1, 4, .inr (.inl (zM P.1)))), (p2, .inl (ty 0, 18, .inl (eR P.2.1))), (t0, .inr (4, [.ref t1, .int (nI len)])), (t1, .inl (ty 0, 60, .inl (tI b))), (y0, .inr (1, [.ref y1, .int (nI (Y.1)), .int (nI (Y.2.1))])), (y1, .inl (ty 0, 3, .inl (tI Y.2.2)))] "java/lang/IllegalStateException" (fun (zW : va_W) => ∃ (P9 : LT) (Y9 : YT), okY Y9 ∧ zW = [(x0, .inr (5, [.ref l0, .ref v0, .int (nI sc), .ref t0, .ref y0, .ref r0, .ref p0, .ref w0])), (l0, .inr (2, [.ref l1, .ref l2, .int (nI nr)])), (l1, .inr (0, [.ref l3])), (l3, .inl (ty 1, 4, .inr (.inl (zM T)))), (l2, .inl (ty 0, 18, .inl (eR q))), (p0, .inr (2, [.ref p1, .ref p2, .int (nI (P9.2.2))])), (p1, .inr (0, [.ref p3])), (p3, .inl (ty 1, 4, .inr (.inl (zM P9.1)))), (p2, .inl (ty 0, 18, .inl (eR P9.2.1))), (t0, .inr (4, [.ref t1, .int (nI len)])), (t1, .inl (ty 0, 60, .inl (tI b))), (y0, .inr (1, [.ref y1, .int (nI (Y9.1)), .int (nI (Y9.2.1))])), (y1, .inl (ty 0, 3, .inl (tI Y9.2.2)))]) := by
  have h6 := hq.1
  have hry : ∀ n, okY (ry b Y.2.2 n) := okY_ry hY.2.2.1
  refine gX_of RX7 rfl (by decide +kernel) (Nat.le_of_ble_eq_true rfl) ?_
  intro pg en s0 mi ag bl mth cd AA C hX ht hlk hnm
  show gW pg l en rx_X7_read_x3 s0 mi ag bl mth cd 2 D AA s0.heap _ 0 [(0, .ref x0)] [] [(x0, .inr (5, [.ref l0, .ref v0, .int (nI sc), .ref t0, .ref y0, .ref r0, .ref p0, .ref w0])), (l0, .inr (2, [.ref l1, .ref l2, .int (nI nr)])), (l1, .inr (0, [.ref l3])), (l3, .inl (ty 1, 4, .inr (.inl (zM T)))), (l2, .inl (ty 0, 18, .inl (eR q))), (p0, .inr (2, [.ref p1, .ref p2, .int (nI (P.2.2))])), (p1, .inr (0, [.ref p3])), (p3, .inl (ty 1, 4, .inr (.inl (zM P.1)))), (p2, .inl (ty 0, 18, .inl (eR P.2.1))), (t0, .inr (4, [.ref t1, .int (nI len)])), (t1, .inl (ty 0, 60, .inl (tI b))), (y0, .inr (1, [.ref y1, .int (nI (Y.1)), .int (nI (Y.2.1))])), (y1, .inl (ty 0, 3, .inl (tI Y.2.2)))] 0 0
  refine g_aload_n C 0 rfl dX7_read_0 ?_
  refine g_getf C wu_X7 0 rfl rfl 4 (by decide) wf_X7_30 rfl rfl dX7_read_1 ?_
  refine g_aload_n C 0 rfl dX7_read_4 ?_
  refine g_getf C wu_X7 0 rfl rfl 3 (by decide) wf_X7_23 rfl rfl dX7_read_5 ?_
  refine g_callV C (nA := 1) (ci := 1) (q0 := 0) (As := [.ref t0]) (wr := [(x0, .inr (5, [.ref l0, .ref v0, .int (nI sc), .ref t0, .ref y0, .ref r0, .ref p0, .ref w0])), (l0, .inr (2, [.ref l1, .ref l2, .int (nI nr)])), (l1, .inr (0, [.ref l3])), (l3, .inl (ty 1, 4, .inr (.inl (zM T)))), (l2, .inl (ty 0, 18, .inl (eR q))), (p0, .inr (2, [.ref p1, .ref p2, .int (nI (P.2.2))])), (p1, .inr (0, [.ref p3])), (p3, .inl (ty 1, 4, .inr (.inl (zM P.1)))), (p2, .inl (ty 0, 18, .inl (eR P.2.1)))]) (k_X3_errorIn l D ty y0 y1 Y t0 t1 b len (by omega) (by omega) hb) wm_X7_139 wn_X3_errorIn wv_X3_errorIn wi_X3 wc_X3_errorIn rfl (by decide +kernel) ⟨(Nat.le_of_ble_eq_true rfl), (Nat.le_of_ble_eq_true rfl)⟩ ⟨rfl, rfl⟩ dX7_read_8 ⟨Nat.zero_le _, Nat.zero_le _⟩ rfl rfl rfl [11, 12, 9, 10] [0, 1, 2, 3, 4, 5, 6, 7, 8] rfl rfl rfl rfl (by decide) (Nat.le_of_ble_eq_true rfl) rfl (fun r W1 hp => ?_)
  obtain ⟨Y5, hy0, hy1, rfl, rfl⟩ := hp
  refine g_fix [.int (nI ((fe b Y.2.2 len).getD len))] [(x0, .inr (5, [.ref l0, .ref v0, .int (nI sc), .ref t0, .ref y0, .ref r0, .ref p0, .ref w0])), (l0, .inr (2, [.ref l1, .ref l2, .int (nI nr)])), (l1, .inr (0, [.ref l3])), (l3, .inl (ty 1, 4, .inr (.inl (zM T)))), (l2, .inl (ty 0, 18, .inl (eR q))), (p0, .inr (2, [.ref p1, .ref p2, .int (nI (P.2.2))])), (p1, .inr (0, [.ref p3])), (p3, .inl (ty 1, 4, .inr (.inl (zM P.1)))), (p2, .inl (ty 0, 18, .inl (eR P.2.1))), (t0, .inr (4, [.ref t1, .int (nI len)])), (t1, .inl (ty 0, 60, .inl (tI b))), (y0, .inr (1, [.ref y1, .int (nI (Y5.1)), .int (nI (Y5.2.1))])), (y1, .inl (ty 0, 3, .inl (tI Y5.2.2)))] [0, 1, 2, 3, 4, 5, 6, 7, 8, 11, 12, 9, 10] rfl rfl rfl ?_
  refine g_st [.int (nI len)] (by rw [hfe]; rfl) ?_
  refine g_ws [(x0, .inr (5, [.ref l0, .ref v0, .int (nI sc), .ref t0, .ref y0, .ref r0, .ref p0, .ref w0])), (l0, .inr (2, [.ref l1, .ref l2, .int (nI nr)])), (l1, .inr (0, [.ref l3])), (l3, .inl (ty 1, 4, .inr (.inl (zM T)))), (l2, .inl (ty 0, 18, .inl (eR q))), (p0, .inr (2, [.ref p1, .ref p2, .int (nI (P.2.2))])), (p1, .inr (0, [.ref p3])), (p3, .inl (ty 1, 4, .inr (.inl (zM P.1)))), (p2, .inl (ty 0, 18, .inl (eR P.2.1))), (t0, .inr (4, [.ref t1, .int (nI len)])), (t1, .inl (ty 0, 60, .inl (tI b))), (y0, .inr (1, [.ref y1, .int (nI ((ry b Y.2.2 len).1)), .int (nI ((ry b Y.2.2 len).2.1))])), (y1, .inl (ty 0, 3, .inl (tI (ry b Y.2.2 len).2.2)))] (by rw [hy0 hfe]) ?_
  refine g_aload_n C 0 rfl dX7_read_11 ?_
  refine g_getf C wu_X7 0 rfl rfl 3 (by decide) wf_X7_23 rfl rfl dX7_read_12 ?_
  refine g_callV C (nA := 0) (ci := 4) (q0 := 0) (As := []) (wr := [(x0, .inr (5, [.ref l0, .ref v0, .int (nI sc), .ref t0, .ref y0, .ref r0, .ref p0, .ref w0])), (l0, .inr (2, [.ref l1, .ref l2, .int (nI nr)])), (l1, .inr (0, [.ref l3])), (l3, .inl (ty 1, 4, .inr (.inl (zM T)))), (l2, .inl (ty 0, 18, .inl (eR q))), (p0, .inr (2, [.ref p1, .ref p2, .int (nI (P.2.2))])), (p1, .inr (0, [.ref p3])), (p3, .inl (ty 1, 4, .inr (.inl (zM P.1)))), (p2, .inl (ty 0, 18, .inl (eR P.2.1))), (t1, .inl (ty 0, 60, .inl (tI b))), (y0, .inr (1, [.ref y1, .int (nI ((ry b Y.2.2 len).1)), .int (nI ((ry b Y.2.2 len).2.1))])), (y1, .inl (ty 0, 3, .inl (tI (ry b Y.2.2 len).2.2)))]) (k_X6_size l D ty t0 t1 len ) wm_X7_132 wn_X6_size wv_X6_size wi_X6 wc_X6_size rfl (by decide +kernel) ⟨(Nat.le_of_ble_eq_true rfl), (Nat.le_of_ble_eq_true rfl)⟩ ⟨rfl, rfl⟩ dX7_read_15 ⟨Nat.zero_le _, Nat.zero_le _⟩ rfl rfl rfl [9] [0, 1, 2, 3, 4, 5, 6, 7, 8, 10, 11, 12] rfl rfl rfl rfl (by decide) (Nat.le_of_ble_eq_true rfl) rfl (fun r W1 hp => ?_)
  obtain ⟨rfl, rfl⟩ := hp
  refine g_fix [.int (nI len), .int (nI len)] [(x0, .inr (5, [.ref l0, .ref v0, .int (nI sc), .ref t0, .ref y0, .ref r0, .ref p0, .ref w0])), (l0, .inr (2, [.ref l1, .ref l2, .int (nI nr)])), (l1, .inr (0, [.ref l3])), (l3, .inl (ty 1, 4, .inr (.inl (zM T)))), (l2, .inl (ty 0, 18, .inl (eR q))), (p0, .inr (2, [.ref p1, .ref p2, .int (nI (P.2.2))])), (p1, .inr (0, [.ref p3])), (p3, .inl (ty 1, 4, .inr (.inl (zM P.1)))), (p2, .inl (ty 0, 18, .inl (eR P.2.1))), (t0, .inr (4, [.ref t1, .int (nI len)])), (t1, .inl (ty 0, 60, .inl (tI b))), (y0, .inr (1, [.ref y1, .int (nI ((ry b Y.2.2 len).1)), .int (nI ((ry b Y.2.2 len).2.1))])), (y1, .inl (ty 0, 3, .inl (tI (ry b Y.2.2 len).2.2)))] [0, 1, 2, 3, 4, 5, 6, 7, 8, 12, 9, 10, 11] rfl rfl rfl ?_
  refine g_icmp_ltN C len len 31 rfl rfl (by omega) (by omega) dX7_read_18 rfl (fun c18 => ?_) (fun c18 => ?_)
  · skip
    exact absurd c18 (by omega)
  · skip
    refine g_aload_n C 0 rfl dX7_read_21 ?_
    refine g_getf C wu_X7 0 rfl rfl 4 (by decide) wf_X7_30 rfl rfl dX7_read_22 ?_
    refine g_callV C (nA := 0) (ci := 1) (q0 := 0) (As := []) (wr := [(x0, .inr (5, [.ref l0, .ref v0, .int (nI sc), .ref t0, .ref y0, .ref r0, .ref p0, .ref w0])), (l0, .inr (2, [.ref l1, .ref l2, .int (nI nr)])), (l1, .inr (0, [.ref l3])), (l3, .inl (ty 1, 4, .inr (.inl (zM T)))), (l2, .inl (ty 0, 18, .inl (eR q))), (p0, .inr (2, [.ref p1, .ref p2, .int (nI (P.2.2))])), (p1, .inr (0, [.ref p3])), (p3, .inl (ty 1, 4, .inr (.inl (zM P.1)))), (p2, .inl (ty 0, 18, .inl (eR P.2.1))), (t0, .inr (4, [.ref t1, .int (nI len)])), (t1, .inl (ty 0, 60, .inl (tI b)))]) (k_X3_standsBehindLaw l D ty y0 y1 (ry b Y.2.2 len) (hry len)) wm_X7_143 wn_X3_standsBehindLaw wv_X3_standsBehindLaw wi_X3 wc_X3_standsBehindLaw rfl (by decide +kernel) ⟨(Nat.le_of_ble_eq_true rfl), (Nat.le_of_ble_eq_true rfl)⟩ ⟨rfl, rfl⟩ dX7_read_25 ⟨Nat.zero_le _, Nat.zero_le _⟩ rfl rfl rfl [11, 12] [0, 1, 2, 3, 4, 5, 6, 7, 8, 9, 10] rfl rfl rfl rfl (by decide) (Nat.le_of_ble_eq_true rfl) rfl (fun r W1 hp => ?_)
    obtain ⟨rfl, rfl⟩ := hp
    refine g_fix [.int (bI (stb (ry b Y.2.2 len)))] [(x0, .inr (5, [.ref l0, .ref v0, .int (nI sc), .ref t0, .ref y0, .ref r0, .ref p0, .ref w0])), (l0, .inr (2, [.ref l1, .ref l2, .int (nI nr)])), (l1, .inr (0, [.ref l3])), (l3, .inl (ty 1, 4, .inr (.inl (zM T)))), (l2, .inl (ty 0, 18, .inl (eR q))), (p0, .inr (2, [.ref p1, .ref p2, .int (nI (P.2.2))])), (p1, .inr (0, [.ref p3])), (p3, .inl (ty 1, 4, .inr (.inl (zM P.1)))), (p2, .inl (ty 0, 18, .inl (eR P.2.1))), (t0, .inr (4, [.ref t1, .int (nI len)])), (t1, .inl (ty 0, 60, .inl (tI b))), (y0, .inr (1, [.ref y1, .int (nI ((ry b Y.2.2 len).1)), .int (nI ((ry b Y.2.2 len).2.1))])), (y1, .inl (ty 0, 3, .inl (tI (ry b Y.2.2 len).2.2)))] [0, 1, 2, 3, 4, 5, 6, 7, 8, 9, 10, 11, 12] rfl rfl rfl ?_
    refine g_if_neB C (stb (ry b Y.2.2 len)) 41 rfl dX7_read_28 rfl (fun c28 => ?_) (fun c28 => ?_)
    · skip
      refine g_aload_n C 0 rfl dX7_read_41 ?_
      refine g_getf C wu_X7 0 rfl rfl 6 (by decide) wf_X7_41 rfl rfl dX7_read_42 ?_
      refine g_aload_n C 0 rfl dX7_read_45 ?_
      refine g_getf C wu_X7 0 rfl rfl 0 (by decide) wf_X7_10 rfl rfl dX7_read_46 ?_
      refine g_callV C (nA := 1) (ci := 2) (q0 := 0) (As := [.ref l0]) (wr := [(x0, .inr (5, [.ref l0, .ref v0, .int (nI sc), .ref t0, .ref y0, .ref r0, .ref p0, .ref w0])), (t0, .inr (4, [.ref t1, .int (nI len)])), (t1, .inl (ty 0, 60, .inl (tI b))), (y0, .inr (1, [.ref y1, .int (nI ((ry b Y.2.2 len).1)), .int (nI ((ry b Y.2.2 len).2.1))])), (y1, .inl (ty 0, 3, .inl (tI (ry b Y.2.2 len).2.2)))]) (k_X4_copyOf l D ty p0 p1 p2 p3 P.1 P.2.1 P.2.2 l0 l1 l2 l3 T q nr ) wm_X7_149 wn_X4_copyOf wv_X4_copyOf wi_X4 wc_X4_copyOf rfl (by decide +kernel) ⟨(Nat.le_of_ble_eq_true rfl), (Nat.le_of_ble_eq_true rfl)⟩ ⟨rfl, rfl⟩ dX7_read_49 ⟨Nat.zero_le _, Nat.zero_le _⟩ rfl rfl rfl [5, 6, 7, 8, 1, 2, 3, 4] [0, 9, 10, 11, 12] rfl rfl rfl rfl (by decide) (Nat.le_of_ble_eq_true rfl) rfl (fun r W1 hp => ?_)
      obtain ⟨rfl, rfl⟩ := hp
      refine g_fix [] [(x0, .inr (5, [.ref l0, .ref v0, .int (nI sc), .ref t0, .ref y0, .ref r0, .ref p0, .ref w0])), (l0, .inr (2, [.ref l1, .ref l2, .int (nI nr)])), (l1, .inr (0, [.ref l3])), (l3, .inl (ty 1, 4, .inr (.inl (zM T)))), (l2, .inl (ty 0, 18, .inl (eR q))), (p0, .inr (2, [.ref p1, .ref p2, .int (nI nr)])), (p1, .inr (0, [.ref p3])), (p3, .inl (ty 1, 4, .inr (.inl (zM T)))), (p2, .inl (ty 0, 18, .inl (eR q))), (t0, .inr (4, [.ref t1, .int (nI len)])), (t1, .inl (ty 0, 60, .inl (tI b))), (y0, .inr (1, [.ref y1, .int (nI ((ry b Y.2.2 len).1)), .int (nI ((ry b Y.2.2 len).2.1))])), (y1, .inl (ty 0, 3, .inl (tI (ry b Y.2.2 len).2.2)))] [0, 9, 10, 11, 12, 5, 6, 7, 8, 1, 2, 3, 4] rfl rfl rfl ?_
      refine g_aload_n C 0 rfl dX7_read_52 ?_
      refine g_getf C wu_X7 0 rfl rfl 4 (by decide) wf_X7_30 rfl rfl dX7_read_53 ?_
      refine g_aload_n C 0 rfl dX7_read_56 ?_
      refine g_getf C wu_X7 0 rfl rfl 3 (by decide) wf_X7_23 rfl rfl dX7_read_57 ?_
      refine g_aload_n C 0 rfl dX7_read_60 ?_
      refine g_getf C wu_X7 0 rfl rfl 6 (by decide) wf_X7_41 rfl rfl dX7_read_61 ?_
      refine g_callV C (nA := 2) (ci := 1) (q0 := 0) (As := [.ref t0, .ref p0]) (wr := [(x0, .inr (5, [.ref l0, .ref v0, .int (nI sc), .ref t0, .ref y0, .ref r0, .ref p0, .ref w0])), (l0, .inr (2, [.ref l1, .ref l2, .int (nI nr)])), (l1, .inr (0, [.ref l3])), (l3, .inl (ty 1, 4, .inr (.inl (zM T)))), (l2, .inl (ty 0, 18, .inl (eR q)))]) (k_X3_putLaws l D ty y0 y1 (ry b Y.2.2 len) t0 t1 b len p0 p1 p2 p3 T q nr (hry len) (by omega) hb (by omega)) wm_X7_151 wn_X3_putLaws wv_X3_putLaws wi_X3 wc_X3_putLaws rfl (by decide +kernel) ⟨(Nat.le_of_ble_eq_true rfl), (Nat.le_of_ble_eq_true rfl)⟩ ⟨rfl, rfl⟩ dX7_read_64 ⟨Nat.zero_le _, Nat.zero_le _⟩ rfl rfl rfl [11, 12, 9, 10, 5, 6, 7, 8] [0, 1, 2, 3, 4] rfl rfl rfl rfl (by decide) (Nat.le_of_ble_eq_true rfl) rfl (fun r W1 hp => ?_)
      obtain ⟨Y6, P6, hk0, hk1, hk2, rfl, rfl⟩ := hp
      refine g_fix [.int (gtN (pst b (ry b Y.2.2 len).2.2 len (0, T, q, nr) (len + 1)))] [(x0, .inr (5, [.ref l0, .ref v0, .int (nI sc), .ref t0, .ref y0, .ref r0, .ref p0, .ref w0])), (l0, .inr (2, [.ref l1, .ref l2, .int (nI nr)])), (l1, .inr (0, [.ref l3])), (l3, .inl (ty 1, 4, .inr (.inl (zM T)))), (l2, .inl (ty 0, 18, .inl (eR q))), (p0, .inr (2, [.ref p1, .ref p2, .int (nI (P6.2.2.2))])), (p1, .inr (0, [.ref p3])), (p3, .inl (ty 1, 4, .inr (.inl (zM P6.2.1)))), (p2, .inl (ty 0, 18, .inl (eR P6.2.2.1))), (t0, .inr (4, [.ref t1, .int (nI len)])), (t1, .inl (ty 0, 60, .inl (tI b))), (y0, .inr (1, [.ref y1, .int (nI (Y6.1)), .int (nI (Y6.2.1))])), (y1, .inl (ty 0, 3, .inl (tI Y6.2.2)))] [0, 1, 2, 3, 4, 9, 10, 11, 12, 7, 8, 5, 6] rfl rfl rfl ?_
      refine g_st [.int (nI (P2.1))] (by rw [hp]; rfl) ?_
      have h13 : 12 < zcnt P6.2.1 256 := by rw [hk2 P2 hp]; exact h12
      refine g_istore_n C [(1, .int (nI (P2.1))), (0, .ref x0)] dX7_read_67 rfl (by decide) rfl ?_
      refine g_iload_n C 0 rfl dX7_read_68 ?_
      refine g_iconst C (-1) ic_m1 dX7_read_69 ?_
      refine g_icmp_eq C 88 dX7_read_70 rfl (fun c70 => ?_) (fun c70 => ?_)
      · skip
        exact absurd c70 (nI_nm1 hm)
      · skip
        refine g_aload_n C 1 rfl dX7_read_73 ?_
        refine g_getf C wu_X7 0 rfl rfl 6 (by decide) wf_X7_41 rfl rfl dX7_read_74 ?_
        refine g_getf C wu_X4 5 rfl rfl 0 (by decide) wf_X7_64 rfl rfl dX7_read_77 ?_
        refine g_callV C (nA := 0) (ci := 0) (q0 := 0) (As := []) (wr := [(x0, .inr (5, [.ref l0, .ref v0, .int (nI sc), .ref t0, .ref y0, .ref r0, .ref p0, .ref w0])), (l0, .inr (2, [.ref l1, .ref l2, .int (nI nr)])), (l1, .inr (0, [.ref l3])), (l3, .inl (ty 1, 4, .inr (.inl (zM T)))), (l2, .inl (ty 0, 18, .inl (eR q))), (p0, .inr (2, [.ref p1, .ref p2, .int (nI (P6.2.2.2))])), (p2, .inl (ty 0, 18, .inl (eR P6.2.2.1))), (t0, .inr (4, [.ref t1, .int (nI len)])), (t1, .inl (ty 0, 60, .inl (tI b))), (y0, .inr (1, [.ref y1, .int (nI (Y6.1)), .int (nI (Y6.2.1))])), (y1, .inl (ty 0, 3, .inl (tI Y6.2.2)))]) (k_X2_size l D ty p1 p3 P6.2.1 ) wm_X7_74 wn_X2_size wv_X2_size wi_X2 wc_X2_size rfl (by decide +kernel) ⟨(Nat.le_of_ble_eq_true rfl), (Nat.le_of_ble_eq_true rfl)⟩ ⟨rfl, rfl⟩ dX7_read_80 ⟨Nat.zero_le _, Nat.zero_le _⟩ rfl rfl rfl [6, 7] [0, 1, 2, 3, 4, 5, 8, 9, 10, 11, 12] rfl rfl rfl rfl (by decide) (Nat.le_of_ble_eq_true rfl) rfl (fun r W1 hp => ?_)
        obtain ⟨rfl, rfl⟩ := hp
        refine g_fix [.int (nI (zcnt P6.2.1 256))] [(x0, .inr (5, [.ref l0, .ref v0, .int (nI sc), .ref t0, .ref y0, .ref r0, .ref p0, .ref w0])), (l0, .inr (2, [.ref l1, .ref l2, .int (nI nr)])), (l1, .inr (0, [.ref l3])), (l3, .inl (ty 1, 4, .inr (.inl (zM T)))), (l2, .inl (ty 0, 18, .inl (eR q))), (p0, .inr (2, [.ref p1, .ref p2, .int (nI (P6.2.2.2))])), (p1, .inr (0, [.ref p3])), (p3, .inl (ty 1, 4, .inr (.inl (zM P6.2.1)))), (p2, .inl (ty 0, 18, .inl (eR P6.2.2.1))), (t0, .inr (4, [.ref t1, .int (nI len)])), (t1, .inl (ty 0, 60, .inl (tI b))), (y0, .inr (1, [.ref y1, .int (nI (Y6.1)), .int (nI (Y6.2.1))])), (y1, .inl (ty 0, 3, .inl (tI Y6.2.2)))] [0, 1, 2, 3, 4, 5, 11, 12, 6, 7, 8, 9, 10] rfl rfl rfl ?_
        refine g_bipush C (nI 12) bp_12 dX7_read_83 ?_
        refine g_icmp_leN C (zcnt P6.2.1 256) 12 98 rfl rfl (by have := zcnt_le P6.2.1 256; omega) (by omega) dX7_read_85 rfl (fun c85 => ?_) (fun c85 => ?_)
        · skip
          exact absurd c85 (by omega)
        · skip
          exact g_throwS C hX ht hlk hls (cls := "java/lang/IllegalStateException") (text := "there is no room for these laws") (ik := 78) (is := 155) (ic := 82) (by decide) wl_X7_78 xi_82 xat_82 (by decide +kernel) (by decide +kernel) dX7_read_88 dX7_read_91 dX7_read_92 dX7_read_94 dX7_read_97 (by decide) (by decide) (by decide) (by decide) ⟨(P6.2.1, P6.2.2.1, P6.2.2.2), Y6, hk0, rfl⟩
    · skip
      exact absurd (c28.symm.trans hst) (by decide)
