theorem tk_m1 {c : Nat} {Y : YT} (h3 : Y.2.1 = 3) (hc : c = 59) (hs : stb Y = true) : tk c Y = (true, (0, 0, Y.2.2)) := by unfold tk; rw [if_pos h3, if_pos ⟨hc, hs⟩]
theorem tk_m2 {c : Nat} {Y : YT} (h3 : Y.2.1 = 3) (h : ¬ (c = 59 ∧ stb Y = true)) (h2 : (c = 60 ∧ Y.1 = 0) ∨ (c = 38 ∧ Y.1 = 1)) : tk c Y = (true, (Y.1 + 1, 0, Y.2.2)) := by unfold tk; rw [if_pos h3, if_neg h, if_pos h2]
theorem tk_m3 {c : Nat} {Y : YT} (h3 : Y.2.1 = 3) (h : ¬ (c = 59 ∧ stb Y = true)) (h2 : ¬ ((c = 60 ∧ Y.1 = 0) ∨ (c = 38 ∧ Y.1 = 1))) : tk c Y = (false, Y) := by unfold tk; rw [if_pos h3, if_neg h, if_neg h2]
theorem tk_a0 {c : Nat} {Y : YT} (h3 : Y.2.1 ≠ 3) (h : (if Y.2.1 = 0 then ltc c else tmc c) = 256) : tk c Y = (false, Y) := by unfold tk; rw [if_neg h3, if_pos h]
theorem tk_a1 {c : Nat} {Y : YT} (h3 : Y.2.1 = 0) (h : ltc c ≠ 256) : tk c Y = (true, (Y.1, Y.2.1 + 1, upN Y.2.2 Y.1 (64 * ltc c + 8 * 0 + 0))) := by
  unfold tk
  rw [if_neg (by omega)]
  simp only [h3, if_true, h, if_false]
theorem tk_a2 {c : Nat} {Y : YT} (h3 : Y.2.1 = 1) (h : tmc c ≠ 256) : tk c Y = (true, (Y.1, Y.2.1 + 1, upN Y.2.2 Y.1 (Y.2.2 Y.1 + (64 * 0 + 8 * tmc c + 0)))) := by
  unfold tk
  rw [if_neg (by omega)]
  simp only [h3, show ¬ (1 : Nat) = 0 by decide, if_true, h, if_false]
theorem tk_a3 {c : Nat} {Y : YT} (h3 : Y.2.1 = 2) (h : tmc c ≠ 256) : tk c Y = (true, (Y.1, Y.2.1 + 1, upN Y.2.2 Y.1 (Y.2.2 Y.1 + tmc c))) := by
  unfold tk
  rw [if_neg (by omega)]
  simp only [h3, show ¬ (2 : Nat) = 0 by decide, show ¬ (2 : Nat) = 1 by decide, h, if_false]
theorem eA_eq : ∀ c, c < 257 → (eA c = nI 59 ↔ c = 59) ∧ (eA c = nI 60 ↔ c = 60) ∧ (eA c = nI 38 ↔ c = 38) := by decide +kernel
theorem ltc_256 {c : Nat} (h : ltc c ≤ 256) : eA (ltc c) = -1 ↔ ltc c = 256 := eA_m1 h
theorem ltc_b {c : Nat} : ltc c ≤ 256 := by unfold ltc; grind
theorem tmc_b {c : Nat} : tmc c ≤ 256 := by unfold tmc; grind
theorem ltm_b {c x : Nat} : (if x = 0 then ltc c else tmc c) ≤ 256 := by
  by_cases h : x = 0
  · rw [if_pos h]; exact ltc_b
  · rw [if_neg h]; exact tmc_b

def r_X3_takesMark : Room := { frames := 2, cells := 0, slots := 0, locals := 42 }
set_option maxRecDepth 100000 in
set_option maxHeartbeats 4000000 in
theorem k_X3_takesMark (l : Launch) (D : va_G) (ty : Nat → ClassId) (y0 : Nat) (y1 : Nat) (Y : YT) (c : Nat) (hY : okY Y) (hc : c < 257) (h3 : Y.2.1 = 3) : gM l D ty yX3_takesMark cX3_takesMark 2 (some (FieldType.boolean : FieldType)) r_X3_takesMark 0 0 [.ref y0, .int (eA c)] [(y0, .inr (1, [.ref y1, .int (nI (Y.1)), .int (nI (Y.2.1))])), (y1, .inl (ty 0, 3, .inl (tI Y.2.2)))] (fun (zr : Option Value) (zW : va_W) => zr = some (.int (bI ((tk c Y).1))) ∧ zW = [(y0, .inr (1, [.ref y1, .int (nI ((tk c Y).2.1)), .int (nI ((tk c Y).2.2.1))])), (y1, .inl (ty 0, 3, .inl (tI (tk c Y).2.2.2)))]) := by
  have h1 := hY.1
  have e5 := (eA_eq c hc).1
  have e6 := (eA_eq c hc).2.1
  have e3 := (eA_eq c hc).2.2
  refine gM_of RX3 rfl (by decide +kernel) (Nat.le_of_ble_eq_true rfl) ?_
  intro pg en s0 mi ag bl mth cd AA HH QQ C E hnm
  show gW pg l en r_X3_takesMark s0 mi ag bl mth cd 2 D AA HH QQ 0 [(0, .ref y0), (1, .int (eA c))] [] [(y0, .inr (1, [.ref y1, .int (nI (Y.1)), .int (nI (Y.2.1))])), (y1, .inl (ty 0, 3, .inl (tI Y.2.2)))] 0 0
  refine g_iload_n C 1 rfl dX3_takesMark_0 ?_
  refine g_bipush C (nI 59) bp_59 dX3_takesMark_1 ?_
  refine g_icmp_ne C 19 dX3_takesMark_3 rfl (fun c3 => ?_) (fun c3 => ?_)
  · skip
    refine g_iload_n C 1 rfl dX3_takesMark_19 ?_
    refine g_bipush C (nI 60) bp_60 dX3_takesMark_20 ?_
    refine g_icmp_ne C 32 dX3_takesMark_22 rfl (fun c22 => ?_) (fun c22 => ?_)
    · skip
      refine g_iload_n C 1 rfl dX3_takesMark_32 ?_
      refine g_bipush C (nI 38) bp_38 dX3_takesMark_33 ?_
      refine g_icmp_ne C 63 dX3_takesMark_35 rfl (fun c35 => ?_) (fun c35 => ?_)
      · skip
        refine g_iconst C (nI 0) ic_0 dX3_takesMark_63 ?_
        exact g_zret E false rfl dX3_takesMark_64 (by decide) (by decide) ⟨(congrArg (fun z => some (Value.int (bI z))) (by rw [tk_m3 h3 (by grind) (by grind)])), (by rw [tk_m3 h3 (by grind) (by grind)])⟩
      · skip
        refine g_aload_n C 0 rfl dX3_takesMark_38 ?_
        refine g_getf C wu_X3 0 rfl rfl 1 (by decide) wf_X3_36 rfl rfl dX3_takesMark_39 ?_
        refine g_iconst C (nI 1) ic_1 dX3_takesMark_42 ?_
        refine g_icmp_neN C Y.1 1 63 rfl rfl (by omega) (by omega) dX3_takesMark_43 rfl (fun c43 => ?_) (fun c43 => ?_)
        · skip
          refine g_iconst C (nI 0) ic_0 dX3_takesMark_63 ?_
          exact g_zret E false rfl dX3_takesMark_64 (by decide) (by decide) ⟨(congrArg (fun z => some (Value.int (bI z))) (by rw [tk_m3 h3 (by grind) (by grind)])), (by rw [tk_m3 h3 (by grind) (by grind)])⟩
        · skip
          refine g_aload_n C 0 rfl dX3_takesMark_46 ?_
          refine g_dup C rfl dX3_takesMark_47 ?_
          refine g_getf C wu_X3 0 rfl rfl 1 (by decide) wf_X3_36 rfl rfl dX3_takesMark_48 ?_
          refine g_iconst C (nI 1) ic_1 dX3_takesMark_51 ?_
          refine g_iadd C (nI (Y.1 + 1)) dX3_takesMark_52 (nI_add _ _) ?_
          refine g_putf C wu_X3 tyX3 tyX3_ok nmX3 0 rfl rfl 1 (by decide) wf_X3_36 rfl rfl rfl rfl (Nat.le_of_ble_eq_true rfl) dX3_takesMark_53 [(y0, .inr (1, [.ref y1, .int (nI (Y.1 + 1)), .int (nI (Y.2.1))])), (y1, .inl (ty 0, 3, .inl (tI Y.2.2)))] rfl ?_
          refine g_aload_n C 0 rfl dX3_takesMark_56 ?_
          refine g_iconst C (nI 0) ic_0 dX3_takesMark_57 ?_
          refine g_putf C wu_X3 tyX3 tyX3_ok nmX3 0 rfl rfl 2 (by decide) wf_X3_32 rfl rfl rfl rfl (Nat.le_of_ble_eq_true rfl) dX3_takesMark_58 [(y0, .inr (1, [.ref y1, .int (nI (Y.1 + 1)), .int (nI 0)])), (y1, .inl (ty 0, 3, .inl (tI Y.2.2)))] rfl ?_
          refine g_iconst C (nI 1) ic_1 dX3_takesMark_61 ?_
          exact g_zret E true rfl dX3_takesMark_62 (by decide) (by decide) ⟨(congrArg (fun z => some (Value.int (bI z))) (by rw [tk_m2 h3 (by grind) (by grind)])), (by rw [tk_m2 h3 (by grind) (by grind)])⟩
    · skip
      refine g_aload_n C 0 rfl dX3_takesMark_25 ?_
      refine g_getf C wu_X3 0 rfl rfl 1 (by decide) wf_X3_36 rfl rfl dX3_takesMark_26 ?_
      refine g_if_eqN C Y.1 46 rfl (by omega) dX3_takesMark_29 rfl (fun c29 => ?_) (fun c29 => ?_)
      · skip
        refine g_aload_n C 0 rfl dX3_takesMark_46 ?_
        refine g_dup C rfl dX3_takesMark_47 ?_
        refine g_getf C wu_X3 0 rfl rfl 1 (by decide) wf_X3_36 rfl rfl dX3_takesMark_48 ?_
        refine g_iconst C (nI 1) ic_1 dX3_takesMark_51 ?_
        refine g_iadd C (nI (Y.1 + 1)) dX3_takesMark_52 (nI_add _ _) ?_
        refine g_putf C wu_X3 tyX3 tyX3_ok nmX3 0 rfl rfl 1 (by decide) wf_X3_36 rfl rfl rfl rfl (Nat.le_of_ble_eq_true rfl) dX3_takesMark_53 [(y0, .inr (1, [.ref y1, .int (nI (Y.1 + 1)), .int (nI (Y.2.1))])), (y1, .inl (ty 0, 3, .inl (tI Y.2.2)))] rfl ?_
        refine g_aload_n C 0 rfl dX3_takesMark_56 ?_
        refine g_iconst C (nI 0) ic_0 dX3_takesMark_57 ?_
        refine g_putf C wu_X3 tyX3 tyX3_ok nmX3 0 rfl rfl 2 (by decide) wf_X3_32 rfl rfl rfl rfl (Nat.le_of_ble_eq_true rfl) dX3_takesMark_58 [(y0, .inr (1, [.ref y1, .int (nI (Y.1 + 1)), .int (nI 0)])), (y1, .inl (ty 0, 3, .inl (tI Y.2.2)))] rfl ?_
        refine g_iconst C (nI 1) ic_1 dX3_takesMark_61 ?_
        exact g_zret E true rfl dX3_takesMark_62 (by decide) (by decide) ⟨(congrArg (fun z => some (Value.int (bI z))) (by rw [tk_m2 h3 (by grind) (by grind)])), (by rw [tk_m2 h3 (by grind) (by grind)])⟩
      · skip
        refine g_iload_n C 1 rfl dX3_takesMark_32 ?_
        refine g_bipush C (nI 38) bp_38 dX3_takesMark_33 ?_
        refine g_icmp_ne C 63 dX3_takesMark_35 rfl (fun c35 => ?_) (fun c35 => ?_)
        · skip
          refine g_iconst C (nI 0) ic_0 dX3_takesMark_63 ?_
          exact g_zret E false rfl dX3_takesMark_64 (by decide) (by decide) ⟨(congrArg (fun z => some (Value.int (bI z))) (by rw [tk_m3 h3 (by grind) (by grind)])), (by rw [tk_m3 h3 (by grind) (by grind)])⟩
        · skip
          refine g_aload_n C 0 rfl dX3_takesMark_38 ?_
          refine g_getf C wu_X3 0 rfl rfl 1 (by decide) wf_X3_36 rfl rfl dX3_takesMark_39 ?_
          refine g_iconst C (nI 1) ic_1 dX3_takesMark_42 ?_
          refine g_icmp_neN C Y.1 1 63 rfl rfl (by omega) (by omega) dX3_takesMark_43 rfl (fun c43 => ?_) (fun c43 => ?_)
          · skip
            refine g_iconst C (nI 0) ic_0 dX3_takesMark_63 ?_
            exact g_zret E false rfl dX3_takesMark_64 (by decide) (by decide) ⟨(congrArg (fun z => some (Value.int (bI z))) (by rw [tk_m3 h3 (by grind) (by grind)])), (by rw [tk_m3 h3 (by grind) (by grind)])⟩
          · skip
            refine g_aload_n C 0 rfl dX3_takesMark_46 ?_
            refine g_dup C rfl dX3_takesMark_47 ?_
            refine g_getf C wu_X3 0 rfl rfl 1 (by decide) wf_X3_36 rfl rfl dX3_takesMark_48 ?_
            refine g_iconst C (nI 1) ic_1 dX3_takesMark_51 ?_
            refine g_iadd C (nI (Y.1 + 1)) dX3_takesMark_52 (nI_add _ _) ?_
            refine g_putf C wu_X3 tyX3 tyX3_ok nmX3 0 rfl rfl 1 (by decide) wf_X3_36 rfl rfl rfl rfl (Nat.le_of_ble_eq_true rfl) dX3_takesMark_53 [(y0, .inr (1, [.ref y1, .int (nI (Y.1 + 1)), .int (nI (Y.2.1))])), (y1, .inl (ty 0, 3, .inl (tI Y.2.2)))] rfl ?_
            refine g_aload_n C 0 rfl dX3_takesMark_56 ?_
            refine g_iconst C (nI 0) ic_0 dX3_takesMark_57 ?_
            refine g_putf C wu_X3 tyX3 tyX3_ok nmX3 0 rfl rfl 2 (by decide) wf_X3_32 rfl rfl rfl rfl (Nat.le_of_ble_eq_true rfl) dX3_takesMark_58 [(y0, .inr (1, [.ref y1, .int (nI (Y.1 + 1)), .int (nI 0)])), (y1, .inl (ty 0, 3, .inl (tI Y.2.2)))] rfl ?_
            refine g_iconst C (nI 1) ic_1 dX3_takesMark_61 ?_
            exact g_zret E true rfl dX3_takesMark_62 (by decide) (by decide) ⟨(congrArg (fun z => some (Value.int (bI z))) (by rw [tk_m2 h3 (by grind) (by grind)])), (by rw [tk_m2 h3 (by grind) (by grind)])⟩
  · skip
    refine g_aload_n C 0 rfl dX3_takesMark_6 ?_
    refine g_callV C (nA := 0) (ci := 1) (q0 := 0) (As := []) (wr := []) (k_X3_standsBehindLaw l D ty y0 y1 Y hY) wm_X3_86 wn_X3_standsBehindLaw wv_X3_standsBehindLaw wi_X3 wc_X3_standsBehindLaw rfl (by decide +kernel) ⟨(Nat.le_of_ble_eq_true rfl), (Nat.le_of_ble_eq_true rfl)⟩ ⟨rfl, rfl⟩ dX3_takesMark_7 ⟨Nat.zero_le _, Nat.zero_le _⟩ rfl rfl rfl [0, 1] [] rfl rfl rfl rfl (by decide) (Nat.le_of_ble_eq_true rfl) rfl (fun r W1 hp => ?_)
    obtain ⟨rfl, rfl⟩ := hp
    refine g_fix [.int (bI (stb Y))] [(y0, .inr (1, [.ref y1, .int (nI (Y.1)), .int (nI (Y.2.1))])), (y1, .inl (ty 0, 3, .inl (tI Y.2.2)))] [0, 1] rfl rfl rfl ?_
    refine g_if_eqB C (stb Y) 19 rfl dX3_takesMark_10 rfl (fun c10 => ?_) (fun c10 => ?_)
    · skip
      refine g_iload_n C 1 rfl dX3_takesMark_19 ?_
      refine g_bipush C (nI 60) bp_60 dX3_takesMark_20 ?_
      refine g_icmp_ne C 32 dX3_takesMark_22 rfl (fun c22 => ?_) (fun c22 => ?_)
      · skip
        refine g_iload_n C 1 rfl dX3_takesMark_32 ?_
        refine g_bipush C (nI 38) bp_38 dX3_takesMark_33 ?_
        refine g_icmp_ne C 63 dX3_takesMark_35 rfl (fun c35 => ?_) (fun c35 => ?_)
        · skip
          refine g_iconst C (nI 0) ic_0 dX3_takesMark_63 ?_
          exact g_zret E false rfl dX3_takesMark_64 (by decide) (by decide) ⟨(congrArg (fun z => some (Value.int (bI z))) (by rw [tk_m3 h3 (by grind) (by grind)])), (by rw [tk_m3 h3 (by grind) (by grind)])⟩
        · skip
          refine g_aload_n C 0 rfl dX3_takesMark_38 ?_
          refine g_getf C wu_X3 0 rfl rfl 1 (by decide) wf_X3_36 rfl rfl dX3_takesMark_39 ?_
          refine g_iconst C (nI 1) ic_1 dX3_takesMark_42 ?_
          refine g_icmp_neN C Y.1 1 63 rfl rfl (by omega) (by omega) dX3_takesMark_43 rfl (fun c43 => ?_) (fun c43 => ?_)
          · skip
            refine g_iconst C (nI 0) ic_0 dX3_takesMark_63 ?_
            exact g_zret E false rfl dX3_takesMark_64 (by decide) (by decide) ⟨(congrArg (fun z => some (Value.int (bI z))) (by rw [tk_m3 h3 (by grind) (by grind)])), (by rw [tk_m3 h3 (by grind) (by grind)])⟩
          · skip
            refine g_aload_n C 0 rfl dX3_takesMark_46 ?_
            refine g_dup C rfl dX3_takesMark_47 ?_
            refine g_getf C wu_X3 0 rfl rfl 1 (by decide) wf_X3_36 rfl rfl dX3_takesMark_48 ?_
            refine g_iconst C (nI 1) ic_1 dX3_takesMark_51 ?_
            refine g_iadd C (nI (Y.1 + 1)) dX3_takesMark_52 (nI_add _ _) ?_
            refine g_putf C wu_X3 tyX3 tyX3_ok nmX3 0 rfl rfl 1 (by decide) wf_X3_36 rfl rfl rfl rfl (Nat.le_of_ble_eq_true rfl) dX3_takesMark_53 [(y0, .inr (1, [.ref y1, .int (nI (Y.1 + 1)), .int (nI (Y.2.1))])), (y1, .inl (ty 0, 3, .inl (tI Y.2.2)))] rfl ?_
            refine g_aload_n C 0 rfl dX3_takesMark_56 ?_
            refine g_iconst C (nI 0) ic_0 dX3_takesMark_57 ?_
            refine g_putf C wu_X3 tyX3 tyX3_ok nmX3 0 rfl rfl 2 (by decide) wf_X3_32 rfl rfl rfl rfl (Nat.le_of_ble_eq_true rfl) dX3_takesMark_58 [(y0, .inr (1, [.ref y1, .int (nI (Y.1 + 1)), .int (nI 0)])), (y1, .inl (ty 0, 3, .inl (tI Y.2.2)))] rfl ?_
            refine g_iconst C (nI 1) ic_1 dX3_takesMark_61 ?_
            exact g_zret E true rfl dX3_takesMark_62 (by decide) (by decide) ⟨(congrArg (fun z => some (Value.int (bI z))) (by rw [tk_m2 h3 (by grind) (by grind)])), (by rw [tk_m2 h3 (by grind) (by grind)])⟩
      · skip
        refine g_aload_n C 0 rfl dX3_takesMark_25 ?_
        refine g_getf C wu_X3 0 rfl rfl 1 (by decide) wf_X3_36 rfl rfl dX3_takesMark_26 ?_
        refine g_if_eqN C Y.1 46 rfl (by omega) dX3_takesMark_29 rfl (fun c29 => ?_) (fun c29 => ?_)
        · skip
          refine g_aload_n C 0 rfl dX3_takesMark_46 ?_
          refine g_dup C rfl dX3_takesMark_47 ?_
          refine g_getf C wu_X3 0 rfl rfl 1 (by decide) wf_X3_36 rfl rfl dX3_takesMark_48 ?_
          refine g_iconst C (nI 1) ic_1 dX3_takesMark_51 ?_
          refine g_iadd C (nI (Y.1 + 1)) dX3_takesMark_52 (nI_add _ _) ?_
          refine g_putf C wu_X3 tyX3 tyX3_ok nmX3 0 rfl rfl 1 (by decide) wf_X3_36 rfl rfl rfl rfl (Nat.le_of_ble_eq_true rfl) dX3_takesMark_53 [(y0, .inr (1, [.ref y1, .int (nI (Y.1 + 1)), .int (nI (Y.2.1))])), (y1, .inl (ty 0, 3, .inl (tI Y.2.2)))] rfl ?_
          refine g_aload_n C 0 rfl dX3_takesMark_56 ?_
          refine g_iconst C (nI 0) ic_0 dX3_takesMark_57 ?_
          refine g_putf C wu_X3 tyX3 tyX3_ok nmX3 0 rfl rfl 2 (by decide) wf_X3_32 rfl rfl rfl rfl (Nat.le_of_ble_eq_true rfl) dX3_takesMark_58 [(y0, .inr (1, [.ref y1, .int (nI (Y.1 + 1)), .int (nI 0)])), (y1, .inl (ty 0, 3, .inl (tI Y.2.2)))] rfl ?_
          refine g_iconst C (nI 1) ic_1 dX3_takesMark_61 ?_
          exact g_zret E true rfl dX3_takesMark_62 (by decide) (by decide) ⟨(congrArg (fun z => some (Value.int (bI z))) (by rw [tk_m2 h3 (by grind) (by grind)])), (by rw [tk_m2 h3 (by grind) (by grind)])⟩
        · skip
          refine g_iload_n C 1 rfl dX3_takesMark_32 ?_
          refine g_bipush C (nI 38) bp_38 dX3_takesMark_33 ?_
          refine g_icmp_ne C 63 dX3_takesMark_35 rfl (fun c35 => ?_) (fun c35 => ?_)
          · skip
            refine g_iconst C (nI 0) ic_0 dX3_takesMark_63 ?_
            exact g_zret E false rfl dX3_takesMark_64 (by decide) (by decide) ⟨(congrArg (fun z => some (Value.int (bI z))) (by rw [tk_m3 h3 (by grind) (by grind)])), (by rw [tk_m3 h3 (by grind) (by grind)])⟩
          · skip
            refine g_aload_n C 0 rfl dX3_takesMark_38 ?_
            refine g_getf C wu_X3 0 rfl rfl 1 (by decide) wf_X3_36 rfl rfl dX3_takesMark_39 ?_
            refine g_iconst C (nI 1) ic_1 dX3_takesMark_42 ?_
            refine g_icmp_neN C Y.1 1 63 rfl rfl (by omega) (by omega) dX3_takesMark_43 rfl (fun c43 => ?_) (fun c43 => ?_)
            · skip
              refine g_iconst C (nI 0) ic_0 dX3_takesMark_63 ?_
              exact g_zret E false rfl dX3_takesMark_64 (by decide) (by decide) ⟨(congrArg (fun z => some (Value.int (bI z))) (by rw [tk_m3 h3 (by grind) (by grind)])), (by rw [tk_m3 h3 (by grind) (by grind)])⟩
            · skip
              refine g_aload_n C 0 rfl dX3_takesMark_46 ?_
              refine g_dup C rfl dX3_takesMark_47 ?_
              refine g_getf C wu_X3 0 rfl rfl 1 (by decide) wf_X3_36 rfl rfl dX3_takesMark_48 ?_
              refine g_iconst C (nI 1) ic_1 dX3_takesMark_51 ?_
              refine g_iadd C (nI (Y.1 + 1)) dX3_takesMark_52 (nI_add _ _) ?_
              refine g_putf C wu_X3 tyX3 tyX3_ok nmX3 0 rfl rfl 1 (by decide) wf_X3_36 rfl rfl rfl rfl (Nat.le_of_ble_eq_true rfl) dX3_takesMark_53 [(y0, .inr (1, [.ref y1, .int (nI (Y.1 + 1)), .int (nI (Y.2.1))])), (y1, .inl (ty 0, 3, .inl (tI Y.2.2)))] rfl ?_
              refine g_aload_n C 0 rfl dX3_takesMark_56 ?_
              refine g_iconst C (nI 0) ic_0 dX3_takesMark_57 ?_
              refine g_putf C wu_X3 tyX3 tyX3_ok nmX3 0 rfl rfl 2 (by decide) wf_X3_32 rfl rfl rfl rfl (Nat.le_of_ble_eq_true rfl) dX3_takesMark_58 [(y0, .inr (1, [.ref y1, .int (nI (Y.1 + 1)), .int (nI 0)])), (y1, .inl (ty 0, 3, .inl (tI Y.2.2)))] rfl ?_
              refine g_iconst C (nI 1) ic_1 dX3_takesMark_61 ?_
              exact g_zret E true rfl dX3_takesMark_62 (by decide) (by decide) ⟨(congrArg (fun z => some (Value.int (bI z))) (by rw [tk_m2 h3 (by grind) (by grind)])), (by rw [tk_m2 h3 (by grind) (by grind)])⟩
    · skip
      refine g_aload_n C 0 rfl dX3_takesMark_13 ?_
      refine g_callV C (nA := 0) (ci := 1) (q0 := 0) (As := []) (wr := [(y1, .inl (ty 0, 3, .inl (tI Y.2.2)))]) (k_X3_begin l D ty y0 y1 Y.1 Y.2.1 ) wm_X3_15 wn_X3_begin wv_X3_begin wi_X3 wc_X3_begin rfl (by decide +kernel) ⟨(Nat.le_of_ble_eq_true rfl), (Nat.le_of_ble_eq_true rfl)⟩ ⟨rfl, rfl⟩ dX3_takesMark_14 ⟨Nat.zero_le _, Nat.zero_le _⟩ rfl rfl rfl [0] [1] rfl rfl rfl rfl (by decide) (Nat.le_of_ble_eq_true rfl) rfl (fun r W1 hp => ?_)
      obtain ⟨rfl, rfl⟩ := hp
      refine g_fix [] [(y0, .inr (1, [.ref y1, .int (nI 0), .int (nI 0)])), (y1, .inl (ty 0, 3, .inl (tI Y.2.2)))] [1, 0] rfl rfl rfl ?_
      refine g_iconst C (nI 1) ic_1 dX3_takesMark_17 ?_
      exact g_zret E true rfl dX3_takesMark_18 (by decide) (by decide) ⟨(congrArg (fun z => some (Value.int (bI z))) (by rw [tk_m1 h3 (e5.mp c3) c10])), (by rw [tk_m1 h3 (e5.mp c3) c10])⟩
def r_X3_takes : Room := { frames := 3, cells := 0, slots := 0, locals := 63 }
set_option maxRecDepth 100000 in
set_option maxHeartbeats 4000000 in
theorem k_X3_takes (l : Launch) (D : va_G) (ty : Nat → ClassId) (y0 : Nat) (y1 : Nat) (Y : YT) (c : Nat) (hY : okY Y) (hc : c < 257) : gM l D ty yX3_takes cX3_takes 3 (some (FieldType.boolean : FieldType)) r_X3_takes 0 0 [.ref y0, .int (eA c)] [(y0, .inr (1, [.ref y1, .int (nI (Y.1)), .int (nI (Y.2.1))])), (y1, .inl (ty 0, 3, .inl (tI Y.2.2)))] (fun (zr : Option Value) (zW : va_W) => zr = some (.int (bI ((tk c Y).1))) ∧ zW = [(y0, .inr (1, [.ref y1, .int (nI ((tk c Y).2.1)), .int (nI ((tk c Y).2.2.1))])), (y1, .inl (ty 0, 3, .inl (tI (tk c Y).2.2.2)))]) := by
  have h1 := hY.1
  have h2 := hY.2.1
  have h3 := hY.2.2.1 Y.1 (by omega)
  refine gM_of RX3 rfl (by decide +kernel) (Nat.le_of_ble_eq_true rfl) ?_
  intro pg en s0 mi ag bl mth cd AA HH QQ C E hnm
  show gW pg l en r_X3_takes s0 mi ag bl mth cd 3 D AA HH QQ 0 [(0, .ref y0), (1, .int (eA c))] [] [(y0, .inr (1, [.ref y1, .int (nI (Y.1)), .int (nI (Y.2.1))])), (y1, .inl (ty 0, 3, .inl (tI Y.2.2)))] 0 0
  refine g_aload_n C 0 rfl dX3_takes_0 ?_
  refine g_getf C wu_X3 0 rfl rfl 2 (by decide) wf_X3_32 rfl rfl dX3_takes_1 ?_
  refine g_iconst C (nI 3) ic_3 dX3_takes_4 ?_
  refine g_icmp_neN C Y.2.1 3 14 rfl rfl (by omega) (by omega) dX3_takes_5 rfl (fun c5 => ?_) (fun c5 => ?_)
  · skip
    refine g_aload_n C 0 rfl dX3_takes_14 ?_
    refine g_getf C wu_X3 0 rfl rfl 2 (by decide) wf_X3_32 rfl rfl dX3_takes_15 ?_
    refine g_if_neN C Y.2.1 28 rfl (by omega) dX3_takes_18 rfl (fun c18 => ?_) (fun c18 => ?_)
    · skip
      refine g_iload_n C 1 rfl dX3_takes_28 ?_
      refine g_callS0 C (nA := 1) (k_X3_termOf l D ty c (by omega)) wm_X3_79 ws_X3_termOf wi_X3 wc_X3_termOf rfl (by decide +kernel) ⟨(Nat.le_of_ble_eq_true rfl), (Nat.le_of_ble_eq_true rfl)⟩ ⟨rfl, rfl⟩ dX3_takes_29 (fun _ _ h => h.2) (Nat.le_of_ble_eq_true rfl) rfl ⟨Nat.zero_le _, Nat.zero_le _⟩ (fun r hp => ?_)
      obtain ⟨rfl, -⟩ := hp
      refine g_st [.int (eA (tmc c))] rfl ?_
      refine g_st [.int (eA (if Y.2.1 = 0 then ltc c else tmc c))] (by first | rw [if_pos c18] | rw [if_neg c18]) ?_
      refine g_istore_n C [(2, .int (eA (if Y.2.1 = 0 then ltc c else tmc c))), (0, .ref y0), (1, .int (eA c))] dX3_takes_32 rfl (by decide) rfl ?_
      refine g_iload_n C 0 rfl dX3_takes_33 ?_
      refine g_iconst C (-1) ic_m1 dX3_takes_34 ?_
      refine g_icmp_eq C 57 dX3_takes_35 rfl (fun c35 => ?_) (fun c35 => ?_)
      · skip
        have hv : (if Y.2.1 = 0 then ltc c else tmc c) = 256 := (eA_m1 ltm_b).mp c35
        have htk := tk_a0 (show Y.2.1 ≠ 3 by omega) hv
        refine g_iconst C (nI 0) ic_0 dX3_takes_57 ?_
        exact g_zret E false rfl dX3_takes_58 (by decide) (by decide) ⟨(congrArg (fun z => some (Value.int (bI z))) (by rw [htk])), (by rw [htk])⟩
      · skip
        have hv : (if Y.2.1 = 0 then ltc c else tmc c) ≠ 256 := fun z => c35 ((eA_m1 ltm_b).mpr z)
        refine g_aload_n C 1 rfl dX3_takes_38 ?_
        refine g_getf C wu_X3 0 rfl rfl 1 (by decide) wf_X3_36 rfl rfl dX3_takes_39 ?_
        refine g_if_lt C 57 dX3_takes_42 rfl (fun c42 => ?_) (fun c42 => ?_)
        · skip
          exact absurd c42 (nI_pos (by omega))
        · skip
          refine g_aload_n C 1 rfl dX3_takes_45 ?_
          refine g_getf C wu_X3 0 rfl rfl 1 (by decide) wf_X3_36 rfl rfl dX3_takes_46 ?_
          refine g_aload_n C 1 rfl dX3_takes_49 ?_
          refine g_getf C wu_X3 0 rfl rfl 0 (by decide) wf_X3_9 rfl rfl dX3_takes_50 ?_
          refine g_alen C 1 0 rfl rfl (nI 3) rfl dX3_takes_53 ?_
          refine g_icmp_ltN C Y.1 3 59 rfl rfl (by omega) (by omega) dX3_takes_54 rfl (fun c54 => ?_) (fun c54 => ?_)
          · skip
            refine g_aload_n C 1 rfl dX3_takes_59 ?_
            refine g_getf C wu_X3 0 rfl rfl 2 (by decide) wf_X3_32 rfl rfl dX3_takes_60 ?_
            refine g_if_neN C Y.2.1 84 rfl (by omega) dX3_takes_63 rfl (fun c63 => ?_) (fun c63 => ?_)
            · skip
              have c63a : Y.2.1 ≠ 0 := by omega
              rw [if_neg c63a] at hv
              refine g_lo2 [(2, .int (nI (tmc c))), (0, .ref y0), (1, .int (eA c))] (by rw [if_neg c63a, eA_n hv]) ?_
              refine g_aload_n C 1 rfl dX3_takes_84 ?_
              refine g_getf C wu_X3 0 rfl rfl 0 (by decide) wf_X3_9 rfl rfl dX3_takes_85 ?_
              refine g_aload_n C 1 rfl dX3_takes_88 ?_
              refine g_getf C wu_X3 0 rfl rfl 1 (by decide) wf_X3_36 rfl rfl dX3_takes_89 ?_
              refine g_dup2 C rfl rfl dX3_takes_92 ?_
              refine g_iald C 1 rfl Y.1 rfl (by omega) (by decide) (nI (Y.2.2 Y.1)) rfl dX3_takes_93 ?_
              refine g_aload_n C 1 rfl dX3_takes_94 ?_
              refine g_getf C wu_X3 0 rfl rfl 2 (by decide) wf_X3_32 rfl rfl dX3_takes_95 ?_
              refine g_iconst C (nI 1) ic_1 dX3_takes_98 ?_
              refine g_icmp_neN C Y.2.1 1 111 rfl rfl (by omega) (by omega) dX3_takes_99 rfl (fun c99 => ?_) (fun c99 => ?_)
              · skip
                have htk := tk_a3 (show Y.2.1 = 2 by omega) hv
                refine g_iload_n C 0 rfl dX3_takes_111 ?_
                refine g_iadd C (nI ((Y.2.2 Y.1) + (tmc c))) dX3_takes_112 (nI_add _ _) ?_
                refine g_iast C 1 rfl Y.1 rfl (by omega) (by decide) dX3_takes_113 (tI (upN Y.2.2 Y.1 ((Y.2.2 Y.1) + (tmc c)))) (tI_up _ _ _) [(y0, .inr (1, [.ref y1, .int (nI (Y.1)), .int (nI (Y.2.1))])), (y1, .inl (ty 0, 3, .inl (tI (upN Y.2.2 Y.1 ((Y.2.2 Y.1) + (tmc c))))))] rfl ?_
                refine g_aload_n C 1 rfl dX3_takes_114 ?_
                refine g_dup C rfl dX3_takes_115 ?_
                refine g_getf C wu_X3 0 rfl rfl 2 (by decide) wf_X3_32 rfl rfl dX3_takes_116 ?_
                refine g_iconst C (nI 1) ic_1 dX3_takes_119 ?_
                refine g_iadd C (nI (Y.2.1 + 1)) dX3_takes_120 (nI_add _ _) ?_
                refine g_putf C wu_X3 tyX3 tyX3_ok nmX3 0 rfl rfl 2 (by decide) wf_X3_32 rfl rfl rfl rfl (Nat.le_of_ble_eq_true rfl) dX3_takes_121 [(y0, .inr (1, [.ref y1, .int (nI (Y.1)), .int (nI (Y.2.1 + 1))])), (y1, .inl (ty 0, 3, .inl (tI (upN Y.2.2 Y.1 ((Y.2.2 Y.1) + (tmc c))))))] rfl ?_
                refine g_iconst C (nI 1) ic_1 dX3_takes_124 ?_
                exact g_zret E true rfl dX3_takes_125 (by decide) (by decide) ⟨(congrArg (fun z => some (Value.int (bI z))) (by rw [htk])), (by rw [htk])⟩
              · skip
                have htk := tk_a2 (show Y.2.1 = 1 by omega) hv
                refine g_iconst C (nI 0) ic_0 dX3_takes_102 ?_
                refine g_iload_n C 0 rfl dX3_takes_103 ?_
                refine g_iconst C (nI 0) ic_0 dX3_takes_104 ?_
                refine g_callS0 C (nA := 3) (k_X1_of l D ty 0 (tmc c) 0 ) wm_X3_82 ws_X1_of wi_X1 wc_X1_of rfl (by decide +kernel) ⟨(Nat.le_of_ble_eq_true rfl), (Nat.le_of_ble_eq_true rfl)⟩ ⟨rfl, rfl⟩ dX3_takes_105 (fun _ _ h => h.2) (Nat.le_of_ble_eq_true rfl) rfl ⟨Nat.zero_le _, Nat.zero_le _⟩ (fun r hp => ?_)
                obtain ⟨rfl, -⟩ := hp
                refine g_st [.int (nI (64 * 0 + 8 * (tmc c) + 0)), .int (nI (Y.2.2 Y.1)), .int (nI (Y.1)), .ref y1] rfl ?_
                refine g_goto C 112 dX3_takes_108 rfl ?_
                refine g_iadd C (nI ((Y.2.2 Y.1) + (64 * 0 + 8 * (tmc c) + 0))) dX3_takes_112 (nI_add _ _) ?_
                refine g_iast C 1 rfl Y.1 rfl (by omega) (by decide) dX3_takes_113 (tI (upN Y.2.2 Y.1 ((Y.2.2 Y.1) + (64 * 0 + 8 * (tmc c) + 0)))) (tI_up _ _ _) [(y0, .inr (1, [.ref y1, .int (nI (Y.1)), .int (nI (Y.2.1))])), (y1, .inl (ty 0, 3, .inl (tI (upN Y.2.2 Y.1 ((Y.2.2 Y.1) + (64 * 0 + 8 * (tmc c) + 0))))))] rfl ?_
                refine g_aload_n C 1 rfl dX3_takes_114 ?_
                refine g_dup C rfl dX3_takes_115 ?_
                refine g_getf C wu_X3 0 rfl rfl 2 (by decide) wf_X3_32 rfl rfl dX3_takes_116 ?_
                refine g_iconst C (nI 1) ic_1 dX3_takes_119 ?_
                refine g_iadd C (nI (Y.2.1 + 1)) dX3_takes_120 (nI_add _ _) ?_
                refine g_putf C wu_X3 tyX3 tyX3_ok nmX3 0 rfl rfl 2 (by decide) wf_X3_32 rfl rfl rfl rfl (Nat.le_of_ble_eq_true rfl) dX3_takes_121 [(y0, .inr (1, [.ref y1, .int (nI (Y.1)), .int (nI (Y.2.1 + 1))])), (y1, .inl (ty 0, 3, .inl (tI (upN Y.2.2 Y.1 ((Y.2.2 Y.1) + (64 * 0 + 8 * (tmc c) + 0))))))] rfl ?_
                refine g_iconst C (nI 1) ic_1 dX3_takes_124 ?_
                exact g_zret E true rfl dX3_takes_125 (by decide) (by decide) ⟨(congrArg (fun z => some (Value.int (bI z))) (by rw [htk])), (by rw [htk])⟩
            · skip
              have c63a : Y.2.1 = 0 := by omega
              rw [if_pos c63a] at hv
              have htk := tk_a1 c63a hv
              refine g_lo2 [(2, .int (nI (ltc c))), (0, .ref y0), (1, .int (eA c))] (by rw [if_pos c63a, eA_n hv]) ?_
              refine g_aload_n C 1 rfl dX3_takes_66 ?_
              refine g_getf C wu_X3 0 rfl rfl 0 (by decide) wf_X3_9 rfl rfl dX3_takes_67 ?_
              refine g_aload_n C 1 rfl dX3_takes_70 ?_
              refine g_getf C wu_X3 0 rfl rfl 1 (by decide) wf_X3_36 rfl rfl dX3_takes_71 ?_
              refine g_iload_n C 0 rfl dX3_takes_74 ?_
              refine g_iconst C (nI 0) ic_0 dX3_takes_75 ?_
              refine g_iconst C (nI 0) ic_0 dX3_takes_76 ?_
              refine g_callS0 C (nA := 3) (k_X1_of l D ty (ltc c) 0 0 ) wm_X3_82 ws_X1_of wi_X1 wc_X1_of rfl (by decide +kernel) ⟨(Nat.le_of_ble_eq_true rfl), (Nat.le_of_ble_eq_true rfl)⟩ ⟨rfl, rfl⟩ dX3_takes_77 (fun _ _ h => h.2) (Nat.le_of_ble_eq_true rfl) rfl ⟨Nat.zero_le _, Nat.zero_le _⟩ (fun r hp => ?_)
              obtain ⟨rfl, -⟩ := hp
              refine g_st [.int (nI (64 * (ltc c) + 8 * 0 + 0)), .int (nI (Y.1)), .ref y1] rfl ?_
              refine g_iast C 1 rfl Y.1 rfl (by omega) (by decide) dX3_takes_80 (tI (upN Y.2.2 Y.1 (64 * ltc c + 8 * 0 + 0))) (tI_up _ _ _) [(y0, .inr (1, [.ref y1, .int (nI (Y.1)), .int (nI (Y.2.1))])), (y1, .inl (ty 0, 3, .inl (tI (upN Y.2.2 Y.1 (64 * ltc c + 8 * 0 + 0)))))] rfl ?_
              refine g_goto C 114 dX3_takes_81 rfl ?_
              refine g_aload_n C 1 rfl dX3_takes_114 ?_
              refine g_dup C rfl dX3_takes_115 ?_
              refine g_getf C wu_X3 0 rfl rfl 2 (by decide) wf_X3_32 rfl rfl dX3_takes_116 ?_
              refine g_iconst C (nI 1) ic_1 dX3_takes_119 ?_
              refine g_iadd C (nI (Y.2.1 + 1)) dX3_takes_120 (nI_add _ _) ?_
              refine g_putf C wu_X3 tyX3 tyX3_ok nmX3 0 rfl rfl 2 (by decide) wf_X3_32 rfl rfl rfl rfl (Nat.le_of_ble_eq_true rfl) dX3_takes_121 [(y0, .inr (1, [.ref y1, .int (nI (Y.1)), .int (nI (Y.2.1 + 1))])), (y1, .inl (ty 0, 3, .inl (tI (upN Y.2.2 Y.1 (64 * ltc c + 8 * 0 + 0)))))] rfl ?_
              refine g_iconst C (nI 1) ic_1 dX3_takes_124 ?_
              exact g_zret E true rfl dX3_takes_125 (by decide) (by decide) ⟨(congrArg (fun z => some (Value.int (bI z))) (by rw [htk])), (by rw [htk])⟩
          · skip
            exact absurd c54 (by omega)
    · skip
      refine g_iload_n C 1 rfl dX3_takes_21 ?_
      refine g_callS0 C (nA := 1) (k_X3_letterOf l D ty c (by omega)) wm_X3_76 ws_X3_letterOf wi_X3 wc_X3_letterOf rfl (by decide +kernel) ⟨(Nat.le_of_ble_eq_true rfl), (Nat.le_of_ble_eq_true rfl)⟩ ⟨rfl, rfl⟩ dX3_takes_22 (fun _ _ h => h.2) (Nat.le_of_ble_eq_true rfl) rfl ⟨Nat.zero_le _, Nat.zero_le _⟩ (fun r hp => ?_)
      obtain ⟨rfl, -⟩ := hp
      refine g_st [.int (eA (ltc c))] rfl ?_
      skip
      refine g_goto C 32 dX3_takes_25 rfl ?_
      refine g_st [.int (eA (if Y.2.1 = 0 then ltc c else tmc c))] (by first | rw [if_pos c18] | rw [if_neg c18]) ?_
      refine g_istore_n C [(2, .int (eA (if Y.2.1 = 0 then ltc c else tmc c))), (0, .ref y0), (1, .int (eA c))] dX3_takes_32 rfl (by decide) rfl ?_
      refine g_iload_n C 0 rfl dX3_takes_33 ?_
      refine g_iconst C (-1) ic_m1 dX3_takes_34 ?_
      refine g_icmp_eq C 57 dX3_takes_35 rfl (fun c35 => ?_) (fun c35 => ?_)
      · skip
        have hv : (if Y.2.1 = 0 then ltc c else tmc c) = 256 := (eA_m1 ltm_b).mp c35
        have htk := tk_a0 (show Y.2.1 ≠ 3 by omega) hv
        refine g_iconst C (nI 0) ic_0 dX3_takes_57 ?_
        exact g_zret E false rfl dX3_takes_58 (by decide) (by decide) ⟨(congrArg (fun z => some (Value.int (bI z))) (by rw [htk])), (by rw [htk])⟩
      · skip
        have hv : (if Y.2.1 = 0 then ltc c else tmc c) ≠ 256 := fun z => c35 ((eA_m1 ltm_b).mpr z)
        refine g_aload_n C 1 rfl dX3_takes_38 ?_
        refine g_getf C wu_X3 0 rfl rfl 1 (by decide) wf_X3_36 rfl rfl dX3_takes_39 ?_
        refine g_if_lt C 57 dX3_takes_42 rfl (fun c42 => ?_) (fun c42 => ?_)
        · skip
          exact absurd c42 (nI_pos (by omega))
        · skip
          refine g_aload_n C 1 rfl dX3_takes_45 ?_
          refine g_getf C wu_X3 0 rfl rfl 1 (by decide) wf_X3_36 rfl rfl dX3_takes_46 ?_
          refine g_aload_n C 1 rfl dX3_takes_49 ?_
          refine g_getf C wu_X3 0 rfl rfl 0 (by decide) wf_X3_9 rfl rfl dX3_takes_50 ?_
          refine g_alen C 1 0 rfl rfl (nI 3) rfl dX3_takes_53 ?_
          refine g_icmp_ltN C Y.1 3 59 rfl rfl (by omega) (by omega) dX3_takes_54 rfl (fun c54 => ?_) (fun c54 => ?_)
          · skip
            refine g_aload_n C 1 rfl dX3_takes_59 ?_
            refine g_getf C wu_X3 0 rfl rfl 2 (by decide) wf_X3_32 rfl rfl dX3_takes_60 ?_
            refine g_if_neN C Y.2.1 84 rfl (by omega) dX3_takes_63 rfl (fun c63 => ?_) (fun c63 => ?_)
            · skip
              have c63a : Y.2.1 ≠ 0 := by omega
              rw [if_neg c63a] at hv
              refine g_lo2 [(2, .int (nI (tmc c))), (0, .ref y0), (1, .int (eA c))] (by rw [if_neg c63a, eA_n hv]) ?_
              refine g_aload_n C 1 rfl dX3_takes_84 ?_
              refine g_getf C wu_X3 0 rfl rfl 0 (by decide) wf_X3_9 rfl rfl dX3_takes_85 ?_
              refine g_aload_n C 1 rfl dX3_takes_88 ?_
              refine g_getf C wu_X3 0 rfl rfl 1 (by decide) wf_X3_36 rfl rfl dX3_takes_89 ?_
              refine g_dup2 C rfl rfl dX3_takes_92 ?_
              refine g_iald C 1 rfl Y.1 rfl (by omega) (by decide) (nI (Y.2.2 Y.1)) rfl dX3_takes_93 ?_
              refine g_aload_n C 1 rfl dX3_takes_94 ?_
              refine g_getf C wu_X3 0 rfl rfl 2 (by decide) wf_X3_32 rfl rfl dX3_takes_95 ?_
              refine g_iconst C (nI 1) ic_1 dX3_takes_98 ?_
              refine g_icmp_neN C Y.2.1 1 111 rfl rfl (by omega) (by omega) dX3_takes_99 rfl (fun c99 => ?_) (fun c99 => ?_)
              · skip
                have htk := tk_a3 (show Y.2.1 = 2 by omega) hv
                refine g_iload_n C 0 rfl dX3_takes_111 ?_
                refine g_iadd C (nI ((Y.2.2 Y.1) + (tmc c))) dX3_takes_112 (nI_add _ _) ?_
                refine g_iast C 1 rfl Y.1 rfl (by omega) (by decide) dX3_takes_113 (tI (upN Y.2.2 Y.1 ((Y.2.2 Y.1) + (tmc c)))) (tI_up _ _ _) [(y0, .inr (1, [.ref y1, .int (nI (Y.1)), .int (nI (Y.2.1))])), (y1, .inl (ty 0, 3, .inl (tI (upN Y.2.2 Y.1 ((Y.2.2 Y.1) + (tmc c))))))] rfl ?_
                refine g_aload_n C 1 rfl dX3_takes_114 ?_
                refine g_dup C rfl dX3_takes_115 ?_
                refine g_getf C wu_X3 0 rfl rfl 2 (by decide) wf_X3_32 rfl rfl dX3_takes_116 ?_
                refine g_iconst C (nI 1) ic_1 dX3_takes_119 ?_
                refine g_iadd C (nI (Y.2.1 + 1)) dX3_takes_120 (nI_add _ _) ?_
                refine g_putf C wu_X3 tyX3 tyX3_ok nmX3 0 rfl rfl 2 (by decide) wf_X3_32 rfl rfl rfl rfl (Nat.le_of_ble_eq_true rfl) dX3_takes_121 [(y0, .inr (1, [.ref y1, .int (nI (Y.1)), .int (nI (Y.2.1 + 1))])), (y1, .inl (ty 0, 3, .inl (tI (upN Y.2.2 Y.1 ((Y.2.2 Y.1) + (tmc c))))))] rfl ?_
                refine g_iconst C (nI 1) ic_1 dX3_takes_124 ?_
                exact g_zret E true rfl dX3_takes_125 (by decide) (by decide) ⟨(congrArg (fun z => some (Value.int (bI z))) (by rw [htk])), (by rw [htk])⟩
              · skip
                have htk := tk_a2 (show Y.2.1 = 1 by omega) hv
                refine g_iconst C (nI 0) ic_0 dX3_takes_102 ?_
                refine g_iload_n C 0 rfl dX3_takes_103 ?_
                refine g_iconst C (nI 0) ic_0 dX3_takes_104 ?_
                refine g_callS0 C (nA := 3) (k_X1_of l D ty 0 (tmc c) 0 ) wm_X3_82 ws_X1_of wi_X1 wc_X1_of rfl (by decide +kernel) ⟨(Nat.le_of_ble_eq_true rfl), (Nat.le_of_ble_eq_true rfl)⟩ ⟨rfl, rfl⟩ dX3_takes_105 (fun _ _ h => h.2) (Nat.le_of_ble_eq_true rfl) rfl ⟨Nat.zero_le _, Nat.zero_le _⟩ (fun r hp => ?_)
                obtain ⟨rfl, -⟩ := hp
                refine g_st [.int (nI (64 * 0 + 8 * (tmc c) + 0)), .int (nI (Y.2.2 Y.1)), .int (nI (Y.1)), .ref y1] rfl ?_
                refine g_goto C 112 dX3_takes_108 rfl ?_
                refine g_iadd C (nI ((Y.2.2 Y.1) + (64 * 0 + 8 * (tmc c) + 0))) dX3_takes_112 (nI_add _ _) ?_
                refine g_iast C 1 rfl Y.1 rfl (by omega) (by decide) dX3_takes_113 (tI (upN Y.2.2 Y.1 ((Y.2.2 Y.1) + (64 * 0 + 8 * (tmc c) + 0)))) (tI_up _ _ _) [(y0, .inr (1, [.ref y1, .int (nI (Y.1)), .int (nI (Y.2.1))])), (y1, .inl (ty 0, 3, .inl (tI (upN Y.2.2 Y.1 ((Y.2.2 Y.1) + (64 * 0 + 8 * (tmc c) + 0))))))] rfl ?_
                refine g_aload_n C 1 rfl dX3_takes_114 ?_
                refine g_dup C rfl dX3_takes_115 ?_
                refine g_getf C wu_X3 0 rfl rfl 2 (by decide) wf_X3_32 rfl rfl dX3_takes_116 ?_
                refine g_iconst C (nI 1) ic_1 dX3_takes_119 ?_
                refine g_iadd C (nI (Y.2.1 + 1)) dX3_takes_120 (nI_add _ _) ?_
                refine g_putf C wu_X3 tyX3 tyX3_ok nmX3 0 rfl rfl 2 (by decide) wf_X3_32 rfl rfl rfl rfl (Nat.le_of_ble_eq_true rfl) dX3_takes_121 [(y0, .inr (1, [.ref y1, .int (nI (Y.1)), .int (nI (Y.2.1 + 1))])), (y1, .inl (ty 0, 3, .inl (tI (upN Y.2.2 Y.1 ((Y.2.2 Y.1) + (64 * 0 + 8 * (tmc c) + 0))))))] rfl ?_
                refine g_iconst C (nI 1) ic_1 dX3_takes_124 ?_
                exact g_zret E true rfl dX3_takes_125 (by decide) (by decide) ⟨(congrArg (fun z => some (Value.int (bI z))) (by rw [htk])), (by rw [htk])⟩
            · skip
              have c63a : Y.2.1 = 0 := by omega
              rw [if_pos c63a] at hv
              have htk := tk_a1 c63a hv
              refine g_lo2 [(2, .int (nI (ltc c))), (0, .ref y0), (1, .int (eA c))] (by rw [if_pos c63a, eA_n hv]) ?_
              refine g_aload_n C 1 rfl dX3_takes_66 ?_
              refine g_getf C wu_X3 0 rfl rfl 0 (by decide) wf_X3_9 rfl rfl dX3_takes_67 ?_
              refine g_aload_n C 1 rfl dX3_takes_70 ?_
              refine g_getf C wu_X3 0 rfl rfl 1 (by decide) wf_X3_36 rfl rfl dX3_takes_71 ?_
              refine g_iload_n C 0 rfl dX3_takes_74 ?_
              refine g_iconst C (nI 0) ic_0 dX3_takes_75 ?_
              refine g_iconst C (nI 0) ic_0 dX3_takes_76 ?_
              refine g_callS0 C (nA := 3) (k_X1_of l D ty (ltc c) 0 0 ) wm_X3_82 ws_X1_of wi_X1 wc_X1_of rfl (by decide +kernel) ⟨(Nat.le_of_ble_eq_true rfl), (Nat.le_of_ble_eq_true rfl)⟩ ⟨rfl, rfl⟩ dX3_takes_77 (fun _ _ h => h.2) (Nat.le_of_ble_eq_true rfl) rfl ⟨Nat.zero_le _, Nat.zero_le _⟩ (fun r hp => ?_)
              obtain ⟨rfl, -⟩ := hp
              refine g_st [.int (nI (64 * (ltc c) + 8 * 0 + 0)), .int (nI (Y.1)), .ref y1] rfl ?_
              refine g_iast C 1 rfl Y.1 rfl (by omega) (by decide) dX3_takes_80 (tI (upN Y.2.2 Y.1 (64 * ltc c + 8 * 0 + 0))) (tI_up _ _ _) [(y0, .inr (1, [.ref y1, .int (nI (Y.1)), .int (nI (Y.2.1))])), (y1, .inl (ty 0, 3, .inl (tI (upN Y.2.2 Y.1 (64 * ltc c + 8 * 0 + 0)))))] rfl ?_
              refine g_goto C 114 dX3_takes_81 rfl ?_
              refine g_aload_n C 1 rfl dX3_takes_114 ?_
              refine g_dup C rfl dX3_takes_115 ?_
              refine g_getf C wu_X3 0 rfl rfl 2 (by decide) wf_X3_32 rfl rfl dX3_takes_116 ?_
              refine g_iconst C (nI 1) ic_1 dX3_takes_119 ?_
              refine g_iadd C (nI (Y.2.1 + 1)) dX3_takes_120 (nI_add _ _) ?_
              refine g_putf C wu_X3 tyX3 tyX3_ok nmX3 0 rfl rfl 2 (by decide) wf_X3_32 rfl rfl rfl rfl (Nat.le_of_ble_eq_true rfl) dX3_takes_121 [(y0, .inr (1, [.ref y1, .int (nI (Y.1)), .int (nI (Y.2.1 + 1))])), (y1, .inl (ty 0, 3, .inl (tI (upN Y.2.2 Y.1 (64 * ltc c + 8 * 0 + 0)))))] rfl ?_
              refine g_iconst C (nI 1) ic_1 dX3_takes_124 ?_
              exact g_zret E true rfl dX3_takes_125 (by decide) (by decide) ⟨(congrArg (fun z => some (Value.int (bI z))) (by rw [htk])), (by rw [htk])⟩
          · skip
            exact absurd c54 (by omega)
  · skip
    refine g_aload_n C 0 rfl dX3_takes_8 ?_
    refine g_iload_n C 1 rfl dX3_takes_9 ?_
    refine g_callV C (nA := 1) (ci := 1) (q0 := 0) (As := [.int (eA c)]) (wr := []) (k_X3_takesMark l D ty y0 y1 Y c hY (by omega) (by omega)) wm_X3_73 wn_X3_takesMark wv_X3_takesMark wi_X3 wc_X3_takesMark rfl (by decide +kernel) ⟨(Nat.le_of_ble_eq_true rfl), (Nat.le_of_ble_eq_true rfl)⟩ ⟨rfl, rfl⟩ dX3_takes_10 ⟨Nat.zero_le _, Nat.zero_le _⟩ rfl rfl rfl [0, 1] [] rfl rfl rfl rfl (by decide) (Nat.le_of_ble_eq_true rfl) rfl (fun r W1 hp => ?_)
    obtain ⟨rfl, rfl⟩ := hp
    refine g_fix [.int (bI ((tk c Y).1))] [(y0, .inr (1, [.ref y1, .int (nI ((tk c Y).2.1)), .int (nI ((tk c Y).2.2.1))])), (y1, .inl (ty 0, 3, .inl (tI (tk c Y).2.2.2)))] [0, 1] rfl rfl rfl ?_
    exact g_zret E ((tk c Y).1) rfl dX3_takes_13 (by decide) (by decide) ⟨rfl, rfl⟩
def r_X3_errorIn : Room := { frames := 4, cells := 0, slots := 0, locals := 85 }
set_option maxRecDepth 100000 in
set_option maxHeartbeats 4000000 in
theorem k_X3_errorIn (l : Launch) (D : va_G) (ty : Nat → ClassId) (y0 : Nat) (y1 : Nat) (Y : YT) (t0 : Nat) (t1 : Nat) (b : Nat → Nat) (len : Nat) (hY : okY Y) (hl : len ≤ 60) (hb : ∀ j, j < len → b j < 128) : gM l D ty yX3_errorIn cX3_errorIn 3 (some (FieldType.int : FieldType)) r_X3_errorIn 0 0 [.ref y0, .ref t0] [(y0, .inr (1, [.ref y1, .int (nI (Y.1)), .int (nI (Y.2.1))])), (y1, .inl (ty 0, 3, .inl (tI Y.2.2))), (t0, .inr (4, [.ref t1, .int (nI len)])), (t1, .inl (ty 0, 60, .inl (tI b)))] (fun (zr : Option Value) (zW : va_W) => ∃ (Y9 : YT), (fe b Y.2.2 len = none → Y9 = ry b Y.2.2 len) ∧ okY Y9 ∧ zr = some (.int (nI ((fe b Y.2.2 len).getD len))) ∧ zW = [(y0, .inr (1, [.ref y1, .int (nI (Y9.1)), .int (nI (Y9.2.1))])), (y1, .inl (ty 0, 3, .inl (tI Y9.2.2))), (t0, .inr (4, [.ref t1, .int (nI len)])), (t1, .inl (ty 0, 60, .inl (tI b)))]) := by
  have hry : ∀ n, okY (ry b Y.2.2 n) := okY_ry hY.2.2.1
  refine gM_of RX3 rfl (by decide +kernel) (Nat.le_of_ble_eq_true rfl) ?_
  intro pg en s0 mi ag bl mth cd AA HH QQ C E hnm
  show gW pg l en r_X3_errorIn s0 mi ag bl mth cd 3 D AA HH QQ 0 [(0, .ref y0), (1, .ref t0)] [] [(y0, .inr (1, [.ref y1, .int (nI (Y.1)), .int (nI (Y.2.1))])), (y1, .inl (ty 0, 3, .inl (tI Y.2.2))), (t0, .inr (4, [.ref t1, .int (nI len)])), (t1, .inl (ty 0, 60, .inl (tI b)))] 0 0
  refine g_aload_n C 0 rfl dX3_errorIn_0 ?_
  refine g_callV C (nA := 0) (ci := 1) (q0 := 0) (As := []) (wr := [(y1, .inl (ty 0, 3, .inl (tI Y.2.2))), (t0, .inr (4, [.ref t1, .int (nI len)])), (t1, .inl (ty 0, 60, .inl (tI b)))]) (k_X3_begin l D ty y0 y1 Y.1 Y.2.1 ) wm_X3_15 wn_X3_begin wv_X3_begin wi_X3 wc_X3_begin rfl (by decide +kernel) ⟨(Nat.le_of_ble_eq_true rfl), (Nat.le_of_ble_eq_true rfl)⟩ ⟨rfl, rfl⟩ dX3_errorIn_1 ⟨Nat.zero_le _, Nat.zero_le _⟩ rfl rfl rfl [0] [1, 2, 3] rfl rfl rfl rfl (by decide) (Nat.le_of_ble_eq_true rfl) rfl (fun r W1 hp => ?_)
  obtain ⟨rfl, rfl⟩ := hp
  refine g_fix [] [(y0, .inr (1, [.ref y1, .int (nI 0), .int (nI 0)])), (y1, .inl (ty 0, 3, .inl (tI Y.2.2))), (t0, .inr (4, [.ref t1, .int (nI len)])), (t1, .inl (ty 0, 60, .inl (tI b)))] [3, 0, 1, 2] rfl rfl rfl ?_
  refine g_iconst C (nI 0) ic_0 dX3_errorIn_4 ?_
  refine g_istore_n C [(2, .int (nI 0)), (0, .ref y0), (1, .ref t0)] dX3_errorIn_5 rfl (by decide) rfl ?_
  refine g_lo [1, 2, 0] [(0, .ref y0), (1, .ref t0), (2, .int (nI 0))] rfl ?_
  have L6 : ∀ (fu6 : Nat) (i : Nat) (hi : i ≤ len) (hn : fe b Y.2.2 i = none), (len - i) < fu6 → gW pg l en r_X3_errorIn s0 mi ag bl mth cd 3 D AA HH QQ 6 [(0, .ref y0), (1, .ref t0), (2, .int (nI i))] [] [(y0, .inr (1, [.ref y1, .int (nI ((ry b Y.2.2 i).1)), .int (nI ((ry b Y.2.2 i).2.1))])), (y1, .inl (ty 0, 3, .inl (tI (ry b Y.2.2 i).2.2))), (t0, .inr (4, [.ref t1, .int (nI len)])), (t1, .inl (ty 0, 60, .inl (tI b)))] 0 0 := by
    intro fu6
    induction fu6 with
    | zero => intro i hi hn hfu; exact absurd hfu (Nat.not_lt_zero _)
    | succ fu6 ih6 =>
      intro i hi hn hfu6
      refine g_iload_n C 2 rfl dX3_errorIn_6 ?_
      refine g_aload_n C 1 rfl dX3_errorIn_7 ?_
      refine g_callV C (nA := 0) (ci := 4) (q0 := 0) (As := []) (wr := [(y0, .inr (1, [.ref y1, .int (nI ((ry b Y.2.2 i).1)), .int (nI ((ry b Y.2.2 i).2.1))])), (y1, .inl (ty 0, 3, .inl (tI (ry b Y.2.2 i).2.2))), (t1, .inl (ty 0, 60, .inl (tI b)))]) (k_X6_size l D ty t0 t1 len ) wm_X3_18 wn_X6_size wv_X6_size wi_X6 wc_X6_size rfl (by decide +kernel) ⟨(Nat.le_of_ble_eq_true rfl), (Nat.le_of_ble_eq_true rfl)⟩ ⟨rfl, rfl⟩ dX3_errorIn_8 ⟨Nat.zero_le _, Nat.zero_le _⟩ rfl rfl rfl [2] [0, 1, 3] rfl rfl rfl rfl (by decide) (Nat.le_of_ble_eq_true rfl) rfl (fun r W1 hp => ?_)
      obtain ⟨rfl, rfl⟩ := hp
      refine g_fix [.int (nI len), .int (nI i)] [(y0, .inr (1, [.ref y1, .int (nI ((ry b Y.2.2 i).1)), .int (nI ((ry b Y.2.2 i).2.1))])), (y1, .inl (ty 0, 3, .inl (tI (ry b Y.2.2 i).2.2))), (t0, .inr (4, [.ref t1, .int (nI len)])), (t1, .inl (ty 0, 60, .inl (tI b)))] [0, 1, 3, 2] rfl rfl rfl ?_
      refine g_icmp_geN C i len 34 rfl rfl (by omega) (by omega) dX3_errorIn_11 rfl (fun c11 => ?_) (fun c11 => ?_)
      · skip
        refine g_aload_n C 1 rfl dX3_errorIn_34 ?_
        refine g_callV C (nA := 0) (ci := 4) (q0 := 0) (As := []) (wr := [(y0, .inr (1, [.ref y1, .int (nI ((ry b Y.2.2 i).1)), .int (nI ((ry b Y.2.2 i).2.1))])), (y1, .inl (ty 0, 3, .inl (tI (ry b Y.2.2 i).2.2))), (t1, .inl (ty 0, 60, .inl (tI b)))]) (k_X6_size l D ty t0 t1 len ) wm_X3_18 wn_X6_size wv_X6_size wi_X6 wc_X6_size rfl (by decide +kernel) ⟨(Nat.le_of_ble_eq_true rfl), (Nat.le_of_ble_eq_true rfl)⟩ ⟨rfl, rfl⟩ dX3_errorIn_35 ⟨Nat.zero_le _, Nat.zero_le _⟩ rfl rfl rfl [2] [0, 1, 3] rfl rfl rfl rfl (by decide) (Nat.le_of_ble_eq_true rfl) rfl (fun r W1 hp => ?_)
        obtain ⟨rfl, rfl⟩ := hp
        refine g_fix [.int (nI len)] [(y0, .inr (1, [.ref y1, .int (nI ((ry b Y.2.2 i).1)), .int (nI ((ry b Y.2.2 i).2.1))])), (y1, .inl (ty 0, 3, .inl (tI (ry b Y.2.2 i).2.2))), (t0, .inr (4, [.ref t1, .int (nI len)])), (t1, .inl (ty 0, 60, .inl (tI b)))] [0, 1, 3, 2] rfl rfl rfl ?_
        exact g_iret E dX3_errorIn_38 (by decide) (by decide) ⟨(ry b Y.2.2 i), (fun _ => by rw [show i = len by omega]), (hry i), (congrArg (fun z => some (Value.int (nI z))) (by rw [show fe b Y.2.2 len = none by rw [← show i = len by omega]; exact hn]; rfl)), rfl⟩
      · skip
        refine g_aload_n C 0 rfl dX3_errorIn_14 ?_
        refine g_aload_n C 1 rfl dX3_errorIn_15 ?_
        refine g_iload_n C 2 rfl dX3_errorIn_16 ?_
        refine g_callV C (nA := 1) (ci := 4) (q0 := 0) (As := [.int (nI i)]) (wr := [(y0, .inr (1, [.ref y1, .int (nI ((ry b Y.2.2 i).1)), .int (nI ((ry b Y.2.2 i).2.1))])), (y1, .inl (ty 0, 3, .inl (tI (ry b Y.2.2 i).2.2)))]) (k_X6_at l D ty t0 t1 b len i (by omega) (by omega) hb) wm_X3_24 wn_X6_at wv_X6_at wi_X6 wc_X6_at rfl (by decide +kernel) ⟨(Nat.le_of_ble_eq_true rfl), (Nat.le_of_ble_eq_true rfl)⟩ ⟨rfl, rfl⟩ dX3_errorIn_17 ⟨Nat.zero_le _, Nat.zero_le _⟩ rfl rfl rfl [2, 3] [0, 1] rfl rfl rfl rfl (by decide) (Nat.le_of_ble_eq_true rfl) rfl (fun r W1 hp => ?_)
        obtain ⟨rfl, rfl⟩ := hp
        refine g_fix [.int (eA (tc b len i)), .ref y0] [(y0, .inr (1, [.ref y1, .int (nI ((ry b Y.2.2 i).1)), .int (nI ((ry b Y.2.2 i).2.1))])), (y1, .inl (ty 0, 3, .inl (tI (ry b Y.2.2 i).2.2))), (t0, .inr (4, [.ref t1, .int (nI len)])), (t1, .inl (ty 0, 60, .inl (tI b)))] [0, 1, 2, 3] rfl rfl rfl ?_
        refine g_st [.int (eA (b i)), .ref y0] (by rw [show tc b len i = b i from if_pos c11]) ?_
        refine g_callV C (nA := 1) (ci := 1) (q0 := 0) (As := [.int (eA (b i))]) (wr := [(t0, .inr (4, [.ref t1, .int (nI len)])), (t1, .inl (ty 0, 60, .inl (tI b)))]) (k_X3_takes l D ty y0 y1 (ry b Y.2.2 i) (b i) (hry i) (by have := hb i (by omega); omega)) wm_X3_28 wn_X3_takes wv_X3_takes wi_X3 wc_X3_takes rfl (by decide +kernel) ⟨(Nat.le_of_ble_eq_true rfl), (Nat.le_of_ble_eq_true rfl)⟩ ⟨rfl, rfl⟩ dX3_errorIn_20 ⟨Nat.zero_le _, Nat.zero_le _⟩ rfl rfl rfl [0, 1] [2, 3] rfl rfl rfl rfl (by decide) (Nat.le_of_ble_eq_true rfl) rfl (fun r W1 hp => ?_)
        obtain ⟨rfl, rfl⟩ := hp
        refine g_fix [.int (bI ((tk (b i) (ry b Y.2.2 i)).1))] [(y0, .inr (1, [.ref y1, .int (nI ((tk (b i) (ry b Y.2.2 i)).2.1)), .int (nI ((tk (b i) (ry b Y.2.2 i)).2.2.1))])), (y1, .inl (ty 0, 3, .inl (tI (tk (b i) (ry b Y.2.2 i)).2.2.2))), (t0, .inr (4, [.ref t1, .int (nI len)])), (t1, .inl (ty 0, 60, .inl (tI b)))] [2, 3, 0, 1] rfl rfl rfl ?_
        refine g_if_neB C ((tk (b i) (ry b Y.2.2 i)).1) 28 rfl dX3_errorIn_23 rfl (fun c23 => ?_) (fun c23 => ?_)
        · skip
          refine g_iinc C (nI (i + 1)) [(2, .int (nI (i + 1))), (0, .ref y0), (1, .ref t0)] 2 dX3_errorIn_28 rfl (ii_1 _) (by decide) rfl ?_
          refine g_goto C 6 dX3_errorIn_31 rfl ?_
          refine g_lo [1, 2, 0] [(0, .ref y0), (1, .ref t0), (2, .int (nI (i + 1)))] rfl ?_
          exact ih6 (i + 1) (by omega) (by rw [fe_s hn, if_pos c23]) (by omega)
        · skip
          refine g_iload_n C 2 rfl dX3_errorIn_26 ?_
          exact g_iret E dX3_errorIn_27 (by decide) (by decide) ⟨(ry b Y.2.2 (i + 1)), (fun z => absurd z (by rw [show len = (i + 1) + (len - (i + 1)) by omega, fe_le (a := i) (by rw [fe_s hn, c23]; rfl)]; simp)), (hry (i + 1)), (congrArg (fun z => some (Value.int (nI z))) (by rw [show fe b Y.2.2 len = some i by rw [show len = (i + 1) + (len - (i + 1)) by omega]; exact fe_le (by rw [fe_s hn, c23]; rfl) _]; rfl)), rfl⟩
  exact L6 (len - 0 + 1) 0 (by omega) rfl (Nat.lt_succ_self _)
