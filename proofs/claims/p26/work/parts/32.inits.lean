theorem zM_z : zM zNo = fun _ => 0 := by
  funext p
  rw [zM_no]
  decide +kernel
theorem eR_z : eR (fun _ => 0) = fun _ => 0 := by
  funext p
  show eA 0 = 0
  decide +kernel
theorem tI_z : tI (fun _ => 0) = fun _ => 0 := by
  funext p
  show nI 0 = 0
  decide +kernel
theorem foll_z : foll zNo = zNo := by
  funext a
  unfold foll wk wkp zNo
  rw [Bool.false_or]
  exact Bool.eq_false_iff.mpr (fun h => by simp [zany] at h)

def r_X2_init : Room := { frames := 1, cells := 1, slots := 4, locals := 24 }
set_option maxRecDepth 100000 in
set_option maxHeartbeats 4000000 in
theorem k_X2_init (l : Launch) (D : va_G) (ty : Nat → ClassId) (h0 : Nat)  : gI l D ty yX2_init cX2_init 1 r_X2_init 1 4 [.ref h0] [(h0, .inr (0, [.null]))] (fun (zr : Option Value) (zW : va_W) => ∃ (h1 : Nat), zr = none ∧ zW = [(h0, .inr (0, [.ref h1])), (h1, .inl (ty 1, 4, .inr (.inl (zM zNo))))]) := by
  refine gI_of RX2 rfl (by decide +kernel) (Nat.le_of_ble_eq_true rfl) ?_
  intro pg en s0 mi ag bl mth cd AA HH QQ C hN E hnm
  show gW pg l en r_X2_init s0 mi ag bl mth cd 1 D AA HH QQ 0 [(0, .ref h0)] [] [(h0, .inr (0, [.null]))] 0 0
  refine g_aload_n C 0 rfl dX2_init_0 ?_
  refine g_objInit C wm_X2_3 wn_objectInit wc_objectInit (by decide) (by decide) dX2_init_1 ?_
  refine g_aload_n C 0 rfl dX2_init_4 ?_
  refine g_iconst C (nI 4) ic_4 dX2_init_5 ?_
  refine g_newJ C 4 (by decide) wa_FieldType_long (by decide) (by decide) dX2_init_6 (fun n1 => ?_)
  refine g_ws [(h0, .inr (0, [.null])), (n1, .inl (ty 1, 4, .inr (.inl (fun _ => 0))))] rfl ?_
  refine g_putfF C hnm wu_X2 tyX2 tyX2_ok nmX2 0 rfl rfl 0 (by decide) wf_X2_9 rfl rfl rfl rfl rfl (Nat.le_of_ble_eq_true rfl) dX2_init_8 [(h0, .inr (0, [.ref n1])), (n1, .inl (ty 1, 4, .inr (.inl (fun _ => 0))))] rfl ?_
  exact g_vret E dX2_init_11 (by decide) (by decide) ⟨n1, rfl, (by rw [zM_z])⟩
def r_X6_init : Room := { frames := 1, cells := 1, slots := 60, locals := 24 }
set_option maxRecDepth 100000 in
set_option maxHeartbeats 4000000 in
theorem k_X6_init (l : Launch) (D : va_G) (ty : Nat → ClassId) (h0 : Nat)  : gI l D ty yX6_init cX6_init 1 r_X6_init 1 60 [.ref h0] [(h0, .inr (4, [.null, .int (nI 0)]))] (fun (zr : Option Value) (zW : va_W) => ∃ (h1 : Nat), zr = none ∧ zW = [(h0, .inr (4, [.ref h1, .int (nI 0)])), (h1, .inl (ty 0, 60, .inl (tI (fun _ => 0))))]) := by
  refine gI_of RX6 rfl (by decide +kernel) (Nat.le_of_ble_eq_true rfl) ?_
  intro pg en s0 mi ag bl mth cd AA HH QQ C hN E hnm
  show gW pg l en r_X6_init s0 mi ag bl mth cd 1 D AA HH QQ 0 [(0, .ref h0)] [] [(h0, .inr (4, [.null, .int (nI 0)]))] 0 0
  refine g_aload_n C 0 rfl dX6_init_0 ?_
  refine g_objInit C wm_X6_3 wn_objectInit wc_objectInit (by decide) (by decide) dX6_init_1 ?_
  refine g_aload_n C 0 rfl dX6_init_4 ?_
  refine g_bipush C (nI 60) bp_60 dX6_init_5 ?_
  refine g_newI C 60 (by decide) wa_FieldType_int (by decide) (by decide) dX6_init_7 (fun n1 => ?_)
  refine g_ws [(h0, .inr (4, [.null, .int (nI 0)])), (n1, .inl (ty 0, 60, .inl (fun _ => 0)))] rfl ?_
  refine g_putfF C hnm wu_X6 tyX6 tyX6_ok nmX6 0 rfl rfl 0 (by decide) wf_X6_9 rfl rfl rfl rfl rfl (Nat.le_of_ble_eq_true rfl) dX6_init_9 [(h0, .inr (4, [.ref n1, .int (nI 0)])), (n1, .inl (ty 0, 60, .inl (fun _ => 0)))] rfl ?_
  exact g_vret E dX6_init_12 (by decide) (by decide) ⟨n1, rfl, (by rw [tI_z])⟩
def r_X3_init : Room := { frames := 1, cells := 1, slots := 3, locals := 24 }
set_option maxRecDepth 100000 in
set_option maxHeartbeats 4000000 in
theorem k_X3_init (l : Launch) (D : va_G) (ty : Nat → ClassId) (h0 : Nat)  : gI l D ty yX3_init cX3_init 1 r_X3_init 1 3 [.ref h0] [(h0, .inr (1, [.null, .int (nI 0), .int (nI 0)]))] (fun (zr : Option Value) (zW : va_W) => ∃ (h1 : Nat), zr = none ∧ zW = [(h0, .inr (1, [.ref h1, .int (nI 0), .int (nI 0)])), (h1, .inl (ty 0, 3, .inl (tI (fun _ => 0))))]) := by
  refine gI_of RX3 rfl (by decide +kernel) (Nat.le_of_ble_eq_true rfl) ?_
  intro pg en s0 mi ag bl mth cd AA HH QQ C hN E hnm
  show gW pg l en r_X3_init s0 mi ag bl mth cd 1 D AA HH QQ 0 [(0, .ref h0)] [] [(h0, .inr (1, [.null, .int (nI 0), .int (nI 0)]))] 0 0
  refine g_aload_n C 0 rfl dX3_init_0 ?_
  refine g_objInit C wm_X3_3 wn_objectInit wc_objectInit (by decide) (by decide) dX3_init_1 ?_
  refine g_aload_n C 0 rfl dX3_init_4 ?_
  refine g_iconst C (nI 3) ic_3 dX3_init_5 ?_
  refine g_newI C 3 (by decide) wa_FieldType_int (by decide) (by decide) dX3_init_6 (fun n1 => ?_)
  refine g_ws [(h0, .inr (1, [.null, .int (nI 0), .int (nI 0)])), (n1, .inl (ty 0, 3, .inl (fun _ => 0)))] rfl ?_
  refine g_putfF C hnm wu_X3 tyX3 tyX3_ok nmX3 0 rfl rfl 0 (by decide) wf_X3_9 rfl rfl rfl rfl rfl (Nat.le_of_ble_eq_true rfl) dX3_init_8 [(h0, .inr (1, [.ref n1, .int (nI 0), .int (nI 0)])), (n1, .inl (ty 0, 3, .inl (fun _ => 0)))] rfl ?_
  exact g_vret E dX3_init_11 (by decide) (by decide) ⟨n1, rfl, (by rw [tI_z])⟩
def r_X4_init : Room := { frames := 2, cells := 3, slots := 23, locals := 50 }
set_option maxRecDepth 100000 in
set_option maxHeartbeats 4000000 in
theorem k_X4_init (l : Launch) (D : va_G) (ty : Nat → ClassId) (h0 : Nat)  : gI l D ty yX4_init cX4_init 1 r_X4_init 3 23 [.ref h0] [(h0, .inr (2, [.null, .null, .int (nI 0)]))] (fun (zr : Option Value) (zW : va_W) => ∃ (h1 : Nat) (h2 : Nat) (h3 : Nat), zr = none ∧ zW = [(h0, .inr (2, [.ref h1, .ref h2, .int (nI 0)])), (h1, .inr (0, [.ref h3])), (h3, .inl (ty 1, 4, .inr (.inl (zM zNo)))), (h2, .inl (ty 0, 18, .inl (eR (fun _ => 0))))]) := by
  refine gI_of RX4 rfl (by decide +kernel) (Nat.le_of_ble_eq_true rfl) ?_
  intro pg en s0 mi ag bl mth cd AA HH QQ C hN E hnm
  show gW pg l en r_X4_init s0 mi ag bl mth cd 1 D AA HH QQ 0 [(0, .ref h0)] [] [(h0, .inr (2, [.null, .null, .int (nI 0)]))] 0 0
  refine g_aload_n C 0 rfl dX4_init_0 ?_
  refine g_objInit C wm_X4_3 wn_objectInit wc_objectInit (by decide) (by decide) dX4_init_1 ?_
  refine g_aload_n C 0 rfl dX4_init_4 ?_
  refine g_new C wu_X2 tyX2 tyX2_ok wl_X4_9 wk_X2 wi_X2 (ci := 0) rfl [.null] (by decide +kernel) (by decide) (by decide) dX4_init_5 (fun n1 => ?_)
  refine g_ws [(h0, .inr (2, [.null, .null, .int (nI 0)])), (n1, .inr (0, [.null]))] rfl ?_
  refine g_dup C rfl dX4_init_8 ?_
  refine g_callN C hN (nA := 0) (host := "FollowedLaws") (As := []) (wr := [(h0, .inr (2, [.null, .null, .int (nI 0)]))]) (k_X2_init l D ty n1 ) (by decide) wn_X2_init wi_X2 wc_X2_init rfl rfl (by decide +kernel) ⟨(Nat.le_of_ble_eq_true rfl), (Nat.le_of_ble_eq_true rfl)⟩ ⟨rfl, rfl⟩ dX4_init_9 ⟨(by decide), (by decide)⟩ [1] [0] rfl rfl rfl rfl (by decide) (Nat.le_of_ble_eq_true rfl) rfl (fun r W1 hp => ?_)
  obtain ⟨h12, rfl, rfl⟩ := hp
  refine g_fix [.ref n1, .ref h0] [(h0, .inr (2, [.null, .null, .int (nI 0)])), (n1, .inr (0, [.ref h12])), (h12, .inl (ty 1, 4, .inr (.inl (zM zNo))))] [0, 1, 2] rfl rfl rfl ?_
  refine g_putfF C hnm wu_X4 tyX4 tyX4_ok nmX4 0 rfl rfl 0 (by decide) wf_X4_12 rfl rfl rfl rfl rfl (Nat.le_of_ble_eq_true rfl) dX4_init_12 [(h0, .inr (2, [.ref n1, .null, .int (nI 0)])), (n1, .inr (0, [.ref h12])), (h12, .inl (ty 1, 4, .inr (.inl (zM zNo))))] rfl ?_
  refine g_aload_n C 0 rfl dX4_init_15 ?_
  refine g_bipush C (nI 18) bp_18 dX4_init_16 ?_
  refine g_newI C 18 (by decide) wa_FieldType_int (by decide) (by decide) dX4_init_18 (fun n3 => ?_)
  refine g_ws [(h0, .inr (2, [.ref n1, .null, .int (nI 0)])), (n1, .inr (0, [.ref h12])), (h12, .inl (ty 1, 4, .inr (.inl (zM zNo)))), (n3, .inl (ty 0, 18, .inl (fun _ => 0)))] rfl ?_
  refine g_putfF C hnm wu_X4 tyX4 tyX4_ok nmX4 0 rfl rfl 1 (by decide) wf_X4_18 rfl rfl rfl rfl rfl (Nat.le_of_ble_eq_true rfl) dX4_init_20 [(h0, .inr (2, [.ref n1, .ref n3, .int (nI 0)])), (n1, .inr (0, [.ref h12])), (h12, .inl (ty 1, 4, .inr (.inl (zM zNo)))), (n3, .inl (ty 0, 18, .inl (fun _ => 0)))] rfl ?_
  exact g_vret E dX4_init_23 (by decide) (by decide) ⟨n1, n3, h12, rfl, (by rw [eR_z])⟩
def r_X5_init : Room := { frames := 2, cells := 9, slots := 632, locals := 50 }
set_option maxRecDepth 100000 in
set_option maxHeartbeats 4000000 in
theorem k_X5_init (l : Launch) (D : va_G) (ty : Nat → ClassId) (h0 : Nat)  : gI l D ty yX5_init cX5_init 1 r_X5_init 9 632 [.ref h0] [(h0, .inr (3, [.null, .null, .int (nI 0), .int (nI 0), .int (nI 0), .null, .null, .null, .null]))] (fun (zr : Option Value) (zW : va_W) => ∃ (a0 : Nat) (a1 : Nat) (b0 : Nat) (b1 : Nat) (c0 : Nat) (c1 : Nat) (d0 : Nat) (e0 : Nat) (f0 : Nat), zr = none ∧ zW = [(h0, .inr (3, [.ref a0, .ref b0, .int (nI 0), .int (nI 0), .int (nI 0), .ref c0, .ref d0, .ref e0, .ref f0])), (a0, .inr (0, [.ref a1])), (a1, .inl (ty 1, 4, .inr (.inl (zM zNo)))), (b0, .inr (0, [.ref b1])), (b1, .inl (ty 1, 4, .inr (.inl (zM zNo)))), (c0, .inr (0, [.ref c1])), (c1, .inl (ty 1, 4, .inr (.inl (zM zNo)))), (d0, .inl (ty 0, 256, .inl (fun _ => 0))), (e0, .inl (ty 0, 256, .inl (fun _ => 0))), (f0, .inl (ty 0, 105, .inl (fun _ => 0)))]) := by
  refine gI_of RX5 rfl (by decide +kernel) (Nat.le_of_ble_eq_true rfl) ?_
  intro pg en s0 mi ag bl mth cd AA HH QQ C hN E hnm
  show gW pg l en r_X5_init s0 mi ag bl mth cd 1 D AA HH QQ 0 [(0, .ref h0)] [] [(h0, .inr (3, [.null, .null, .int (nI 0), .int (nI 0), .int (nI 0), .null, .null, .null, .null]))] 0 0
  refine g_aload_n C 0 rfl dX5_init_0 ?_
  refine g_objInit C wm_X5_3 wn_objectInit wc_objectInit (by decide) (by decide) dX5_init_1 ?_
  refine g_aload_n C 0 rfl dX5_init_4 ?_
  refine g_new C wu_X2 tyX2 tyX2_ok wl_X5_9 wk_X2 wi_X2 (ci := 0) rfl [.null] (by decide +kernel) (by decide) (by decide) dX5_init_5 (fun n1 => ?_)
  refine g_ws [(h0, .inr (3, [.null, .null, .int (nI 0), .int (nI 0), .int (nI 0), .null, .null, .null, .null])), (n1, .inr (0, [.null]))] rfl ?_
  refine g_dup C rfl dX5_init_8 ?_
  refine g_callN C hN (nA := 0) (host := "FollowedLaws") (As := []) (wr := [(h0, .inr (3, [.null, .null, .int (nI 0), .int (nI 0), .int (nI 0), .null, .null, .null, .null]))]) (k_X2_init l D ty n1 ) (by decide) wn_X2_init wi_X2 wc_X2_init rfl rfl (by decide +kernel) ⟨(Nat.le_of_ble_eq_true rfl), (Nat.le_of_ble_eq_true rfl)⟩ ⟨rfl, rfl⟩ dX5_init_9 ⟨(by decide), (by decide)⟩ [1] [0] rfl rfl rfl rfl (by decide) (Nat.le_of_ble_eq_true rfl) rfl (fun r W1 hp => ?_)
  obtain ⟨h12, rfl, rfl⟩ := hp
  refine g_fix [.ref n1, .ref h0] [(h0, .inr (3, [.null, .null, .int (nI 0), .int (nI 0), .int (nI 0), .null, .null, .null, .null])), (n1, .inr (0, [.ref h12])), (h12, .inl (ty 1, 4, .inr (.inl (zM zNo))))] [0, 1, 2] rfl rfl rfl ?_
  refine g_putfF C hnm wu_X5 tyX5 tyX5_ok nmX5 0 rfl rfl 0 (by decide) wf_X5_12 rfl rfl rfl rfl rfl (Nat.le_of_ble_eq_true rfl) dX5_init_12 [(h0, .inr (3, [.ref n1, .null, .int (nI 0), .int (nI 0), .int (nI 0), .null, .null, .null, .null])), (n1, .inr (0, [.ref h12])), (h12, .inl (ty 1, 4, .inr (.inl (zM zNo))))] rfl ?_
  refine g_aload_n C 0 rfl dX5_init_15 ?_
  refine g_new C wu_X2 tyX2 tyX2_ok wl_X5_9 wk_X2 wi_X2 (ci := 0) rfl [.null] (by decide +kernel) (by decide) (by decide) dX5_init_16 (fun n3 => ?_)
  refine g_ws [(h0, .inr (3, [.ref n1, .null, .int (nI 0), .int (nI 0), .int (nI 0), .null, .null, .null, .null])), (n1, .inr (0, [.ref h12])), (h12, .inl (ty 1, 4, .inr (.inl (zM zNo)))), (n3, .inr (0, [.null]))] rfl ?_
  refine g_dup C rfl dX5_init_19 ?_
  refine g_callN C hN (nA := 0) (host := "FollowedLaws") (As := []) (wr := [(h0, .inr (3, [.ref n1, .null, .int (nI 0), .int (nI 0), .int (nI 0), .null, .null, .null, .null])), (n1, .inr (0, [.ref h12])), (h12, .inl (ty 1, 4, .inr (.inl (zM zNo))))]) (k_X2_init l D ty n3 ) (by decide) wn_X2_init wi_X2 wc_X2_init rfl rfl (by decide +kernel) ⟨(Nat.le_of_ble_eq_true rfl), (Nat.le_of_ble_eq_true rfl)⟩ ⟨rfl, rfl⟩ dX5_init_20 ⟨(by decide), (by decide)⟩ [3] [0, 1, 2] rfl rfl rfl rfl (by decide) (Nat.le_of_ble_eq_true rfl) rfl (fun r W1 hp => ?_)
  obtain ⟨h14, rfl, rfl⟩ := hp
  refine g_fix [.ref n3, .ref h0] [(h0, .inr (3, [.ref n1, .null, .int (nI 0), .int (nI 0), .int (nI 0), .null, .null, .null, .null])), (n1, .inr (0, [.ref h12])), (h12, .inl (ty 1, 4, .inr (.inl (zM zNo)))), (n3, .inr (0, [.ref h14])), (h14, .inl (ty 1, 4, .inr (.inl (zM zNo))))] [0, 1, 2, 3, 4] rfl rfl rfl ?_
  refine g_putfF C hnm wu_X5 tyX5 tyX5_ok nmX5 0 rfl rfl 1 (by decide) wf_X5_18 rfl rfl rfl rfl rfl (Nat.le_of_ble_eq_true rfl) dX5_init_23 [(h0, .inr (3, [.ref n1, .ref n3, .int (nI 0), .int (nI 0), .int (nI 0), .null, .null, .null, .null])), (n1, .inr (0, [.ref h12])), (h12, .inl (ty 1, 4, .inr (.inl (zM zNo)))), (n3, .inr (0, [.ref h14])), (h14, .inl (ty 1, 4, .inr (.inl (zM zNo))))] rfl ?_
  refine g_aload_n C 0 rfl dX5_init_26 ?_
  refine g_new C wu_X2 tyX2 tyX2_ok wl_X5_9 wk_X2 wi_X2 (ci := 0) rfl [.null] (by decide +kernel) (by decide) (by decide) dX5_init_27 (fun n5 => ?_)
  refine g_ws [(h0, .inr (3, [.ref n1, .ref n3, .int (nI 0), .int (nI 0), .int (nI 0), .null, .null, .null, .null])), (n1, .inr (0, [.ref h12])), (h12, .inl (ty 1, 4, .inr (.inl (zM zNo)))), (n3, .inr (0, [.ref h14])), (h14, .inl (ty 1, 4, .inr (.inl (zM zNo)))), (n5, .inr (0, [.null]))] rfl ?_
  refine g_dup C rfl dX5_init_30 ?_
  refine g_callN C hN (nA := 0) (host := "FollowedLaws") (As := []) (wr := [(h0, .inr (3, [.ref n1, .ref n3, .int (nI 0), .int (nI 0), .int (nI 0), .null, .null, .null, .null])), (n1, .inr (0, [.ref h12])), (h12, .inl (ty 1, 4, .inr (.inl (zM zNo)))), (n3, .inr (0, [.ref h14])), (h14, .inl (ty 1, 4, .inr (.inl (zM zNo))))]) (k_X2_init l D ty n5 ) (by decide) wn_X2_init wi_X2 wc_X2_init rfl rfl (by decide +kernel) ⟨(Nat.le_of_ble_eq_true rfl), (Nat.le_of_ble_eq_true rfl)⟩ ⟨rfl, rfl⟩ dX5_init_31 ⟨(by decide), (by decide)⟩ [5] [0, 1, 2, 3, 4] rfl rfl rfl rfl (by decide) (Nat.le_of_ble_eq_true rfl) rfl (fun r W1 hp => ?_)
  obtain ⟨h16, rfl, rfl⟩ := hp
  refine g_fix [.ref n5, .ref h0] [(h0, .inr (3, [.ref n1, .ref n3, .int (nI 0), .int (nI 0), .int (nI 0), .null, .null, .null, .null])), (n1, .inr (0, [.ref h12])), (h12, .inl (ty 1, 4, .inr (.inl (zM zNo)))), (n3, .inr (0, [.ref h14])), (h14, .inl (ty 1, 4, .inr (.inl (zM zNo)))), (n5, .inr (0, [.ref h16])), (h16, .inl (ty 1, 4, .inr (.inl (zM zNo))))] [0, 1, 2, 3, 4, 5, 6] rfl rfl rfl ?_
  refine g_putfF C hnm wu_X5 tyX5 tyX5_ok nmX5 0 rfl rfl 5 (by decide) wf_X5_21 rfl rfl rfl rfl rfl (Nat.le_of_ble_eq_true rfl) dX5_init_34 [(h0, .inr (3, [.ref n1, .ref n3, .int (nI 0), .int (nI 0), .int (nI 0), .ref n5, .null, .null, .null])), (n1, .inr (0, [.ref h12])), (h12, .inl (ty 1, 4, .inr (.inl (zM zNo)))), (n3, .inr (0, [.ref h14])), (h14, .inl (ty 1, 4, .inr (.inl (zM zNo)))), (n5, .inr (0, [.ref h16])), (h16, .inl (ty 1, 4, .inr (.inl (zM zNo))))] rfl ?_
  refine g_aload_n C 0 rfl dX5_init_37 ?_
  refine g_sipush C (nI 256) sp_256 dX5_init_38 ?_
  refine g_newI C 256 (by decide) wa_FieldType_int (by decide) (by decide) dX5_init_41 (fun n7 => ?_)
  refine g_ws [(h0, .inr (3, [.ref n1, .ref n3, .int (nI 0), .int (nI 0), .int (nI 0), .ref n5, .null, .null, .null])), (n1, .inr (0, [.ref h12])), (h12, .inl (ty 1, 4, .inr (.inl (zM zNo)))), (n3, .inr (0, [.ref h14])), (h14, .inl (ty 1, 4, .inr (.inl (zM zNo)))), (n5, .inr (0, [.ref h16])), (h16, .inl (ty 1, 4, .inr (.inl (zM zNo)))), (n7, .inl (ty 0, 256, .inl (fun _ => 0)))] rfl ?_
  refine g_putfF C hnm wu_X5 tyX5 tyX5_ok nmX5 0 rfl rfl 6 (by decide) wf_X5_26 rfl rfl rfl rfl rfl (Nat.le_of_ble_eq_true rfl) dX5_init_43 [(h0, .inr (3, [.ref n1, .ref n3, .int (nI 0), .int (nI 0), .int (nI 0), .ref n5, .ref n7, .null, .null])), (n1, .inr (0, [.ref h12])), (h12, .inl (ty 1, 4, .inr (.inl (zM zNo)))), (n3, .inr (0, [.ref h14])), (h14, .inl (ty 1, 4, .inr (.inl (zM zNo)))), (n5, .inr (0, [.ref h16])), (h16, .inl (ty 1, 4, .inr (.inl (zM zNo)))), (n7, .inl (ty 0, 256, .inl (fun _ => 0)))] rfl ?_
  refine g_aload_n C 0 rfl dX5_init_46 ?_
  refine g_sipush C (nI 256) sp_256 dX5_init_47 ?_
  refine g_newI C 256 (by decide) wa_FieldType_int (by decide) (by decide) dX5_init_50 (fun n8 => ?_)
  refine g_ws [(h0, .inr (3, [.ref n1, .ref n3, .int (nI 0), .int (nI 0), .int (nI 0), .ref n5, .ref n7, .null, .null])), (n1, .inr (0, [.ref h12])), (h12, .inl (ty 1, 4, .inr (.inl (zM zNo)))), (n3, .inr (0, [.ref h14])), (h14, .inl (ty 1, 4, .inr (.inl (zM zNo)))), (n5, .inr (0, [.ref h16])), (h16, .inl (ty 1, 4, .inr (.inl (zM zNo)))), (n7, .inl (ty 0, 256, .inl (fun _ => 0))), (n8, .inl (ty 0, 256, .inl (fun _ => 0)))] rfl ?_
  refine g_putfF C hnm wu_X5 tyX5 tyX5_ok nmX5 0 rfl rfl 7 (by decide) wf_X5_30 rfl rfl rfl rfl rfl (Nat.le_of_ble_eq_true rfl) dX5_init_52 [(h0, .inr (3, [.ref n1, .ref n3, .int (nI 0), .int (nI 0), .int (nI 0), .ref n5, .ref n7, .ref n8, .null])), (n1, .inr (0, [.ref h12])), (h12, .inl (ty 1, 4, .inr (.inl (zM zNo)))), (n3, .inr (0, [.ref h14])), (h14, .inl (ty 1, 4, .inr (.inl (zM zNo)))), (n5, .inr (0, [.ref h16])), (h16, .inl (ty 1, 4, .inr (.inl (zM zNo)))), (n7, .inl (ty 0, 256, .inl (fun _ => 0))), (n8, .inl (ty 0, 256, .inl (fun _ => 0)))] rfl ?_
  refine g_aload_n C 0 rfl dX5_init_55 ?_
  refine g_bipush C (nI 105) bp_105 dX5_init_56 ?_
  refine g_newI C 105 (by decide) wa_FieldType_int (by decide) (by decide) dX5_init_58 (fun n9 => ?_)
  refine g_ws [(h0, .inr (3, [.ref n1, .ref n3, .int (nI 0), .int (nI 0), .int (nI 0), .ref n5, .ref n7, .ref n8, .null])), (n1, .inr (0, [.ref h12])), (h12, .inl (ty 1, 4, .inr (.inl (zM zNo)))), (n3, .inr (0, [.ref h14])), (h14, .inl (ty 1, 4, .inr (.inl (zM zNo)))), (n5, .inr (0, [.ref h16])), (h16, .inl (ty 1, 4, .inr (.inl (zM zNo)))), (n7, .inl (ty 0, 256, .inl (fun _ => 0))), (n8, .inl (ty 0, 256, .inl (fun _ => 0))), (n9, .inl (ty 0, 105, .inl (fun _ => 0)))] rfl ?_
  refine g_putfF C hnm wu_X5 tyX5 tyX5_ok nmX5 0 rfl rfl 8 (by decide) wf_X5_33 rfl rfl rfl rfl rfl (Nat.le_of_ble_eq_true rfl) dX5_init_60 [(h0, .inr (3, [.ref n1, .ref n3, .int (nI 0), .int (nI 0), .int (nI 0), .ref n5, .ref n7, .ref n8, .ref n9])), (n1, .inr (0, [.ref h12])), (h12, .inl (ty 1, 4, .inr (.inl (zM zNo)))), (n3, .inr (0, [.ref h14])), (h14, .inl (ty 1, 4, .inr (.inl (zM zNo)))), (n5, .inr (0, [.ref h16])), (h16, .inl (ty 1, 4, .inr (.inl (zM zNo)))), (n7, .inl (ty 0, 256, .inl (fun _ => 0))), (n8, .inl (ty 0, 256, .inl (fun _ => 0))), (n9, .inl (ty 0, 105, .inl (fun _ => 0)))] rfl ?_
  exact g_vret E dX5_init_63 (by decide) (by decide) ⟨n1, h12, n3, h14, n5, h16, n7, n8, n9, rfl, rfl⟩
