theorem rsv_lt {g rt d c : Nat → Nat} (hg : okG g rt d) (hc : okC c) {t : Nat} (ht : t < 16) : rsv rt c t < 16 := by
  unfold rsv
  split
  · omega
  · have h1 := (hg (t - 8) (by omega)).1
    have h2 := hc _ h1
    split <;> omega
theorem tmM_lt {t f : Nat} (ht : t < 8) (hf : f ≤ 4) : tmM t f < 16 := by
  unfold tmM
  split <;> omega
theorem eR_up (c : Nat → Nat) (u v : Nat) (h : v ≠ 256) : upd (eR c) u (nI v) = eR (upN c u v) := by
  funext j
  unfold upd eR upN
  by_cases e : j = u
  · simp [e, eA_n h]
  · simp [e]
def mkG (A B : Nat) (g : Nat → Nat) : Nat → Nat := if A < 8 then g else if B < 8 then g else upN g (A - 8) (B - 8)
def mkC (A B : Nat) (c : Nat → Nat) : Nat → Nat := if A < 8 then (if B < 8 then c else upN c (B - 8) A) else if B < 8 then upN c (A - 8) B else c
def mkB (A B : Nat) : Bool := if A < 8 then (if B < 8 then decide (A = B) else true) else true
def rsN (A B h : Nat) : Nat := h / 64 * 64 + 8 * (if A < 8 then A else 4) + (if B < 8 then B else if A < 8 then 4 else if A = B then 4 else 5)

def r_X8_makesAlike : Room := { frames := 2, cells := 0, slots := 0, locals := 44 }
set_option maxRecDepth 100000 in
set_option maxHeartbeats 4000000 in
theorem k_X8_makesAlike (l : Launch) (D : va_G) (ty : Nat → ClassId) (x0 : Nat) (th : Nat) (i1 : Nat) (i2 : Nat) (sd : Nat) (i3 : Nat) (ln : Nat) (j1 : Nat) (j2 : Nat) (j3 : Nat) (j4 : Nat) (j5 : Nat) (j6 : Nat) (fm : Nat) (rd : Nat) (mt : Nat) (dr : Nat) (j7 : Nat) (j8 : Nat) (tt : Nat) (wl : Bool) (j9 : Nat) (lm : Nat) (hs : Int64) (g : Nat → Nat) (rt : Nat → Nat) (d : Nat → Nat) (c : Nat → Nat) (t : Nat) (u : Nat) (hg : okG g rt d) (hc : okC c) (ht : t < 16) (hu : u < 16) : gM l D ty yX8_makesAlike cX8_makesAlike 5 (some (FieldType.boolean : FieldType)) r_X8_makesAlike 0 0 [.ref x0, .int (nI t), .int (nI u)] [(x0, .inr (6, [.int (nI th), .ref i1, .ref i2, .int (nI sd), .ref i3, .int (nI ln), .ref j1, .ref j2, .ref j3, .ref j4, .ref j5, .ref j6, .int (nI fm), .int (nI rd), .int (nI mt), .int (nI dr), .ref j7, .ref j8, .int (nI tt), .int (bI (wl)), .ref j9, .int (nI lm), .long (hs)])), (j7, .inl (ty 0, 8, .inl (tI g))), (j8, .inl (ty 0, 8, .inl (eR c)))] (fun (zr : Option Value) (zW : va_W) => zr = some (.int (bI (mkB (rsv rt c t) (rsv rt c u)))) ∧ zW = [(x0, .inr (6, [.int (nI th), .ref i1, .ref i2, .int (nI sd), .ref i3, .int (nI ln), .ref j1, .ref j2, .ref j3, .ref j4, .ref j5, .ref j6, .int (nI fm), .int (nI rd), .int (nI mt), .int (nI dr), .ref j7, .ref j8, .int (nI tt), .int (bI (wl)), .ref j9, .int (nI lm), .long (hs)])), (j7, .inl (ty 0, 8, .inl (tI (mkG (rsv rt c t) (rsv rt c u) g)))), (j8, .inl (ty 0, 8, .inl (eR (mkC (rsv rt c t) (rsv rt c u) c))))]) := by
  have hA := rsv_lt hg hc ht
  have hB := rsv_lt hg hc hu
  refine gM_of RX8 rfl (by decide +kernel) (Nat.le_of_ble_eq_true rfl) ?_
  intro pg en s0 mi ag bl mth cd AA HH QQ C E hnm
  show gW pg l en r_X8_makesAlike s0 mi ag bl mth cd 5 D AA HH QQ 0 [(0, .ref x0), (1, .int (nI t)), (2, .int (nI u))] [] [(x0, .inr (6, [.int (nI th), .ref i1, .ref i2, .int (nI sd), .ref i3, .int (nI ln), .ref j1, .ref j2, .ref j3, .ref j4, .ref j5, .ref j6, .int (nI fm), .int (nI rd), .int (nI mt), .int (nI dr), .ref j7, .ref j8, .int (nI tt), .int (bI (wl)), .ref j9, .int (nI lm), .long (hs)])), (j7, .inl (ty 0, 8, .inl (tI g))), (j8, .inl (ty 0, 8, .inl (eR c)))] 0 0
  refine g_aload_n C 0 rfl dX8_makesAlike_0 ?_
  refine g_iload_n C 1 rfl dX8_makesAlike_1 ?_
  refine g_callV C (nA := 1) (ci := 6) (q0 := 0) (As := [.int (nI t)]) (wr := []) (k_X8_resolved l D ty x0 th i1 i2 sd i3 ln j1 j2 j3 j4 j5 j6 fm rd mt dr j7 j8 tt wl j9 lm hs g rt d c t hg hc (by omega)) wm_X8_66 wn_X8_resolved wv_X8_resolved wi_X8 wc_X8_resolved rfl (by decide +kernel) ⟨(Nat.le_of_ble_eq_true rfl), (Nat.le_of_ble_eq_true rfl)⟩ ⟨rfl, rfl⟩ dX8_makesAlike_2 ⟨Nat.zero_le _, Nat.zero_le _⟩ rfl rfl rfl [0, 1, 2] [] rfl rfl rfl rfl (by decide) (Nat.le_of_ble_eq_true rfl) rfl (fun r W1 hp => ?_)
  obtain ⟨rfl, rfl⟩ := hp
  refine g_fix [.int (nI (rsv rt c t))] [(x0, .inr (6, [.int (nI th), .ref i1, .ref i2, .int (nI sd), .ref i3, .int (nI ln), .ref j1, .ref j2, .ref j3, .ref j4, .ref j5, .ref j6, .int (nI fm), .int (nI rd), .int (nI mt), .int (nI dr), .ref j7, .ref j8, .int (nI tt), .int (bI (wl)), .ref j9, .int (nI lm), .long (hs)])), (j7, .inl (ty 0, 8, .inl (tI g))), (j8, .inl (ty 0, 8, .inl (eR c)))] [0, 1, 2] rfl rfl rfl ?_
  refine g_istore_n C [(3, .int (nI (rsv rt c t))), (0, .ref x0), (1, .int (nI t)), (2, .int (nI u))] dX8_makesAlike_5 rfl (by decide) rfl ?_
  refine g_aload_n C 1 rfl dX8_makesAlike_6 ?_
  refine g_iload_n C 3 rfl dX8_makesAlike_7 ?_
  refine g_callV C (nA := 1) (ci := 6) (q0 := 0) (As := [.int (nI u)]) (wr := []) (k_X8_resolved l D ty x0 th i1 i2 sd i3 ln j1 j2 j3 j4 j5 j6 fm rd mt dr j7 j8 tt wl j9 lm hs g rt d c u hg hc (by omega)) wm_X8_66 wn_X8_resolved wv_X8_resolved wi_X8 wc_X8_resolved rfl (by decide +kernel) ⟨(Nat.le_of_ble_eq_true rfl), (Nat.le_of_ble_eq_true rfl)⟩ ⟨rfl, rfl⟩ dX8_makesAlike_8 ⟨Nat.zero_le _, Nat.zero_le _⟩ rfl rfl rfl [0, 1, 2] [] rfl rfl rfl rfl (by decide) (Nat.le_of_ble_eq_true rfl) rfl (fun r W1 hp => ?_)
  obtain ⟨rfl, rfl⟩ := hp
  refine g_fix [.int (nI (rsv rt c u))] [(x0, .inr (6, [.int (nI th), .ref i1, .ref i2, .int (nI sd), .ref i3, .int (nI ln), .ref j1, .ref j2, .ref j3, .ref j4, .ref j5, .ref j6, .int (nI fm), .int (nI rd), .int (nI mt), .int (nI dr), .ref j7, .ref j8, .int (nI tt), .int (bI (wl)), .ref j9, .int (nI lm), .long (hs)])), (j7, .inl (ty 0, 8, .inl (tI g))), (j8, .inl (ty 0, 8, .inl (eR c)))] [0, 1, 2] rfl rfl rfl ?_
  refine g_istore C [(4, .int (nI (rsv rt c u))), (3, .int (nI (rsv rt c t))), (0, .ref x0), (1, .int (nI t)), (2, .int (nI u))] dX8_makesAlike_11 (by decide) rfl ?_
  refine g_iload_n C 1 rfl dX8_makesAlike_13 ?_
  refine g_bipush C (nI 8) bp_8 dX8_makesAlike_14 ?_
  refine g_icmp_geN C (rsv rt c t) 8 38 rfl rfl (by omega) (by omega) dX8_makesAlike_16 rfl (fun c16 => ?_) (fun c16 => ?_)
  · skip
    refine g_iload_n C 1 rfl dX8_makesAlike_38 ?_
    refine g_bipush C (nI 8) bp_8 dX8_makesAlike_39 ?_
    refine g_icmp_geN C (rsv rt c t) 8 58 rfl rfl (by omega) (by omega) dX8_makesAlike_41 rfl (fun c41 => ?_) (fun c41 => ?_)
    · skip
      refine g_iload C 0 rfl dX8_makesAlike_58 ?_
      refine g_bipush C (nI 8) bp_8 dX8_makesAlike_60 ?_
      refine g_icmp_geN C (rsv rt c u) 8 79 rfl rfl (by omega) (by omega) dX8_makesAlike_62 rfl (fun c62 => ?_) (fun c62 => ?_)
      · skip
        refine g_aload_n C 2 rfl dX8_makesAlike_79 ?_
        refine g_getf C wu_X8 0 rfl rfl 16 (by decide) wf_X8_38 rfl rfl dX8_makesAlike_80 ?_
        refine g_iload_n C 1 rfl dX8_makesAlike_83 ?_
        refine g_bipush C (nI 8) bp_8 dX8_makesAlike_84 ?_
        refine g_isub C (nI ((rsv rt c t) - 8)) dX8_makesAlike_86 (pk_sub (by omega)) ?_
        refine g_iload C 0 rfl dX8_makesAlike_87 ?_
        refine g_bipush C (nI 8) bp_8 dX8_makesAlike_89 ?_
        refine g_isub C (nI ((rsv rt c u) - 8)) dX8_makesAlike_91 (pk_sub (by omega)) ?_
        refine g_iast C 1 rfl ((rsv rt c t) - 8) rfl (by omega) (by decide) dX8_makesAlike_92 (tI (upN g (rsv rt c t - 8) (rsv rt c u - 8))) (tI_up _ _ _) [(x0, .inr (6, [.int (nI th), .ref i1, .ref i2, .int (nI sd), .ref i3, .int (nI ln), .ref j1, .ref j2, .ref j3, .ref j4, .ref j5, .ref j6, .int (nI fm), .int (nI rd), .int (nI mt), .int (nI dr), .ref j7, .ref j8, .int (nI tt), .int (bI (wl)), .ref j9, .int (nI lm), .long (hs)])), (j7, .inl (ty 0, 8, .inl (tI (upN g (rsv rt c t - 8) (rsv rt c u - 8))))), (j8, .inl (ty 0, 8, .inl (eR c)))] rfl ?_
        refine g_iconst C (nI 1) ic_1 dX8_makesAlike_93 ?_
        exact g_zret E true rfl dX8_makesAlike_94 (by decide) (by decide) ⟨(congrArg (fun z => some (Value.int (bI z))) (by unfold mkB; by_cases z : rsv rt c t < 8; (rw [if_pos z, if_neg (by omega)]); (rw [if_neg z]))), (by unfold mkG mkC; by_cases z : rsv rt c t < 8 <;> by_cases z2 : rsv rt c u < 8 <;> first | omega | simp only [z, z2, if_true, if_false])⟩
      · skip
        refine g_aload_n C 2 rfl dX8_makesAlike_65 ?_
        refine g_getf C wu_X8 0 rfl rfl 17 (by decide) wf_X8_41 rfl rfl dX8_makesAlike_66 ?_
        refine g_iload_n C 1 rfl dX8_makesAlike_69 ?_
        refine g_bipush C (nI 8) bp_8 dX8_makesAlike_70 ?_
        refine g_isub C (nI ((rsv rt c t) - 8)) dX8_makesAlike_72 (pk_sub (by omega)) ?_
        refine g_iload C 0 rfl dX8_makesAlike_73 ?_
        refine g_iast C 2 rfl ((rsv rt c t) - 8) rfl (by omega) (by decide) dX8_makesAlike_75 (eR (upN c (rsv rt c t - 8) (rsv rt c u))) (eR_up _ _ _ (by omega)) [(x0, .inr (6, [.int (nI th), .ref i1, .ref i2, .int (nI sd), .ref i3, .int (nI ln), .ref j1, .ref j2, .ref j3, .ref j4, .ref j5, .ref j6, .int (nI fm), .int (nI rd), .int (nI mt), .int (nI dr), .ref j7, .ref j8, .int (nI tt), .int (bI (wl)), .ref j9, .int (nI lm), .long (hs)])), (j7, .inl (ty 0, 8, .inl (tI g))), (j8, .inl (ty 0, 8, .inl (eR (upN c (rsv rt c t - 8) (rsv rt c u)))))] rfl ?_
        refine g_goto C 93 dX8_makesAlike_76 rfl ?_
        refine g_iconst C (nI 1) ic_1 dX8_makesAlike_93 ?_
        exact g_zret E true rfl dX8_makesAlike_94 (by decide) (by decide) ⟨(congrArg (fun z => some (Value.int (bI z))) (by unfold mkB; by_cases z : rsv rt c t < 8; (rw [if_pos z, if_neg (by omega)]); (rw [if_neg z]))), (by unfold mkG mkC; by_cases z : rsv rt c t < 8 <;> by_cases z2 : rsv rt c u < 8 <;> first | omega | simp only [z, z2, if_true, if_false])⟩
    · skip
      refine g_aload_n C 2 rfl dX8_makesAlike_44 ?_
      refine g_getf C wu_X8 0 rfl rfl 17 (by decide) wf_X8_41 rfl rfl dX8_makesAlike_45 ?_
      refine g_iload C 0 rfl dX8_makesAlike_48 ?_
      refine g_bipush C (nI 8) bp_8 dX8_makesAlike_50 ?_
      refine g_isub C (nI ((rsv rt c u) - 8)) dX8_makesAlike_52 (pk_sub (by omega)) ?_
      refine g_iload_n C 1 rfl dX8_makesAlike_53 ?_
      refine g_iast C 2 rfl ((rsv rt c u) - 8) rfl (by omega) (by decide) dX8_makesAlike_54 (eR (upN c (rsv rt c u - 8) (rsv rt c t))) (eR_up _ _ _ (by omega)) [(x0, .inr (6, [.int (nI th), .ref i1, .ref i2, .int (nI sd), .ref i3, .int (nI ln), .ref j1, .ref j2, .ref j3, .ref j4, .ref j5, .ref j6, .int (nI fm), .int (nI rd), .int (nI mt), .int (nI dr), .ref j7, .ref j8, .int (nI tt), .int (bI (wl)), .ref j9, .int (nI lm), .long (hs)])), (j7, .inl (ty 0, 8, .inl (tI g))), (j8, .inl (ty 0, 8, .inl (eR (upN c (rsv rt c u - 8) (rsv rt c t)))))] rfl ?_
      refine g_goto C 93 dX8_makesAlike_55 rfl ?_
      refine g_iconst C (nI 1) ic_1 dX8_makesAlike_93 ?_
      exact g_zret E true rfl dX8_makesAlike_94 (by decide) (by decide) ⟨(congrArg (fun z => some (Value.int (bI z))) (by unfold mkB; by_cases z : rsv rt c t < 8; (rw [if_pos z, if_neg (by omega)]); (rw [if_neg z]))), (by unfold mkG mkC; by_cases z : rsv rt c t < 8 <;> by_cases z2 : rsv rt c u < 8 <;> first | omega | simp only [z, z2, if_true, if_false])⟩
  · skip
    refine g_iload C 0 rfl dX8_makesAlike_19 ?_
    refine g_bipush C (nI 8) bp_8 dX8_makesAlike_21 ?_
    refine g_icmp_geN C (rsv rt c u) 8 38 rfl rfl (by omega) (by omega) dX8_makesAlike_23 rfl (fun c23 => ?_) (fun c23 => ?_)
    · skip
      refine g_iload_n C 1 rfl dX8_makesAlike_38 ?_
      refine g_bipush C (nI 8) bp_8 dX8_makesAlike_39 ?_
      refine g_icmp_geN C (rsv rt c t) 8 58 rfl rfl (by omega) (by omega) dX8_makesAlike_41 rfl (fun c41 => ?_) (fun c41 => ?_)
      · skip
        refine g_iload C 0 rfl dX8_makesAlike_58 ?_
        refine g_bipush C (nI 8) bp_8 dX8_makesAlike_60 ?_
        refine g_icmp_geN C (rsv rt c u) 8 79 rfl rfl (by omega) (by omega) dX8_makesAlike_62 rfl (fun c62 => ?_) (fun c62 => ?_)
        · skip
          refine g_aload_n C 2 rfl dX8_makesAlike_79 ?_
          refine g_getf C wu_X8 0 rfl rfl 16 (by decide) wf_X8_38 rfl rfl dX8_makesAlike_80 ?_
          refine g_iload_n C 1 rfl dX8_makesAlike_83 ?_
          refine g_bipush C (nI 8) bp_8 dX8_makesAlike_84 ?_
          refine g_isub C (nI ((rsv rt c t) - 8)) dX8_makesAlike_86 (pk_sub (by omega)) ?_
          refine g_iload C 0 rfl dX8_makesAlike_87 ?_
          refine g_bipush C (nI 8) bp_8 dX8_makesAlike_89 ?_
          refine g_isub C (nI ((rsv rt c u) - 8)) dX8_makesAlike_91 (pk_sub (by omega)) ?_
          refine g_iast C 1 rfl ((rsv rt c t) - 8) rfl (by omega) (by decide) dX8_makesAlike_92 (tI (upN g (rsv rt c t - 8) (rsv rt c u - 8))) (tI_up _ _ _) [(x0, .inr (6, [.int (nI th), .ref i1, .ref i2, .int (nI sd), .ref i3, .int (nI ln), .ref j1, .ref j2, .ref j3, .ref j4, .ref j5, .ref j6, .int (nI fm), .int (nI rd), .int (nI mt), .int (nI dr), .ref j7, .ref j8, .int (nI tt), .int (bI (wl)), .ref j9, .int (nI lm), .long (hs)])), (j7, .inl (ty 0, 8, .inl (tI (upN g (rsv rt c t - 8) (rsv rt c u - 8))))), (j8, .inl (ty 0, 8, .inl (eR c)))] rfl ?_
          refine g_iconst C (nI 1) ic_1 dX8_makesAlike_93 ?_
          exact g_zret E true rfl dX8_makesAlike_94 (by decide) (by decide) ⟨(congrArg (fun z => some (Value.int (bI z))) (by unfold mkB; by_cases z : rsv rt c t < 8; (rw [if_pos z, if_neg (by omega)]); (rw [if_neg z]))), (by unfold mkG mkC; by_cases z : rsv rt c t < 8 <;> by_cases z2 : rsv rt c u < 8 <;> first | omega | simp only [z, z2, if_true, if_false])⟩
        · skip
          refine g_aload_n C 2 rfl dX8_makesAlike_65 ?_
          refine g_getf C wu_X8 0 rfl rfl 17 (by decide) wf_X8_41 rfl rfl dX8_makesAlike_66 ?_
          refine g_iload_n C 1 rfl dX8_makesAlike_69 ?_
          refine g_bipush C (nI 8) bp_8 dX8_makesAlike_70 ?_
          refine g_isub C (nI ((rsv rt c t) - 8)) dX8_makesAlike_72 (pk_sub (by omega)) ?_
          refine g_iload C 0 rfl dX8_makesAlike_73 ?_
          refine g_iast C 2 rfl ((rsv rt c t) - 8) rfl (by omega) (by decide) dX8_makesAlike_75 (eR (upN c (rsv rt c t - 8) (rsv rt c u))) (eR_up _ _ _ (by omega)) [(x0, .inr (6, [.int (nI th), .ref i1, .ref i2, .int (nI sd), .ref i3, .int (nI ln), .ref j1, .ref j2, .ref j3, .ref j4, .ref j5, .ref j6, .int (nI fm), .int (nI rd), .int (nI mt), .int (nI dr), .ref j7, .ref j8, .int (nI tt), .int (bI (wl)), .ref j9, .int (nI lm), .long (hs)])), (j7, .inl (ty 0, 8, .inl (tI g))), (j8, .inl (ty 0, 8, .inl (eR (upN c (rsv rt c t - 8) (rsv rt c u)))))] rfl ?_
          refine g_goto C 93 dX8_makesAlike_76 rfl ?_
          refine g_iconst C (nI 1) ic_1 dX8_makesAlike_93 ?_
          exact g_zret E true rfl dX8_makesAlike_94 (by decide) (by decide) ⟨(congrArg (fun z => some (Value.int (bI z))) (by unfold mkB; by_cases z : rsv rt c t < 8; (rw [if_pos z, if_neg (by omega)]); (rw [if_neg z]))), (by unfold mkG mkC; by_cases z : rsv rt c t < 8 <;> by_cases z2 : rsv rt c u < 8 <;> first | omega | simp only [z, z2, if_true, if_false])⟩
      · skip
        refine g_aload_n C 2 rfl dX8_makesAlike_44 ?_
        refine g_getf C wu_X8 0 rfl rfl 17 (by decide) wf_X8_41 rfl rfl dX8_makesAlike_45 ?_
        refine g_iload C 0 rfl dX8_makesAlike_48 ?_
        refine g_bipush C (nI 8) bp_8 dX8_makesAlike_50 ?_
        refine g_isub C (nI ((rsv rt c u) - 8)) dX8_makesAlike_52 (pk_sub (by omega)) ?_
        refine g_iload_n C 1 rfl dX8_makesAlike_53 ?_
        refine g_iast C 2 rfl ((rsv rt c u) - 8) rfl (by omega) (by decide) dX8_makesAlike_54 (eR (upN c (rsv rt c u - 8) (rsv rt c t))) (eR_up _ _ _ (by omega)) [(x0, .inr (6, [.int (nI th), .ref i1, .ref i2, .int (nI sd), .ref i3, .int (nI ln), .ref j1, .ref j2, .ref j3, .ref j4, .ref j5, .ref j6, .int (nI fm), .int (nI rd), .int (nI mt), .int (nI dr), .ref j7, .ref j8, .int (nI tt), .int (bI (wl)), .ref j9, .int (nI lm), .long (hs)])), (j7, .inl (ty 0, 8, .inl (tI g))), (j8, .inl (ty 0, 8, .inl (eR (upN c (rsv rt c u - 8) (rsv rt c t)))))] rfl ?_
        refine g_goto C 93 dX8_makesAlike_55 rfl ?_
        refine g_iconst C (nI 1) ic_1 dX8_makesAlike_93 ?_
        exact g_zret E true rfl dX8_makesAlike_94 (by decide) (by decide) ⟨(congrArg (fun z => some (Value.int (bI z))) (by unfold mkB; by_cases z : rsv rt c t < 8; (rw [if_pos z, if_neg (by omega)]); (rw [if_neg z]))), (by unfold mkG mkC; by_cases z : rsv rt c t < 8 <;> by_cases z2 : rsv rt c u < 8 <;> first | omega | simp only [z, z2, if_true, if_false])⟩
    · skip
      refine g_iload_n C 1 rfl dX8_makesAlike_26 ?_
      refine g_iload C 0 rfl dX8_makesAlike_27 ?_
      refine g_icmp_neN C (rsv rt c t) (rsv rt c u) 36 rfl rfl (by omega) (by omega) dX8_makesAlike_29 rfl (fun c29 => ?_) (fun c29 => ?_)
      · skip
        refine g_iconst C (nI 0) ic_0 dX8_makesAlike_36 ?_
        exact g_zret E false rfl dX8_makesAlike_37 (by decide) (by decide) ⟨(congrArg (fun z => some (Value.int (bI z))) (by unfold mkB; rw [if_pos (by omega), if_pos (by omega)]; first | exact (decide_eq_true (by omega)).symm | exact (decide_eq_false (by omega)).symm)), (by unfold mkG mkC; rw [if_pos (show rsv rt c t < 8 by omega), if_pos (show rsv rt c t < 8 by omega), if_pos (show rsv rt c u < 8 by omega)])⟩
      · skip
        refine g_iconst C (nI 1) ic_1 dX8_makesAlike_32 ?_
        refine g_goto C 37 dX8_makesAlike_33 rfl ?_
        exact g_zret E true rfl dX8_makesAlike_37 (by decide) (by decide) ⟨(congrArg (fun z => some (Value.int (bI z))) (by unfold mkB; rw [if_pos (by omega), if_pos (by omega)]; first | exact (decide_eq_true (by omega)).symm | exact (decide_eq_false (by omega)).symm)), (by unfold mkG mkC; rw [if_pos (show rsv rt c t < 8 by omega), if_pos (show rsv rt c t < 8 by omega), if_pos (show rsv rt c u < 8 by omega)])⟩
def r_X8_result : Room := { frames := 2, cells := 0, slots := 0, locals := 44 }
set_option maxRecDepth 100000 in
set_option maxHeartbeats 4000000 in
theorem k_X8_result (l : Launch) (D : va_G) (ty : Nat → ClassId) (x0 : Nat) (th : Nat) (i1 : Nat) (i2 : Nat) (sd : Nat) (i3 : Nat) (ln : Nat) (j1 : Nat) (j2 : Nat) (j3 : Nat) (j4 : Nat) (j5 : Nat) (j6 : Nat) (fm : Nat) (rd : Nat) (mt : Nat) (dr : Nat) (j7 : Nat) (j8 : Nat) (tt : Nat) (wl : Bool) (j9 : Nat) (lm : Nat) (hs : Int64) (g : Nat → Nat) (rt : Nat → Nat) (d : Nat → Nat) (c : Nat → Nat) (h : Nat) (hg : okG g rt d) (hc : okC c) (hh : h < 256) : gM l D ty yX8_result cX8_result 5 (some (FieldType.int : FieldType)) r_X8_result 0 0 [.ref x0, .int (nI h)] [(x0, .inr (6, [.int (nI th), .ref i1, .ref i2, .int (nI sd), .ref i3, .int (nI ln), .ref j1, .ref j2, .ref j3, .ref j4, .ref j5, .ref j6, .int (nI fm), .int (nI rd), .int (nI mt), .int (nI dr), .ref j7, .ref j8, .int (nI tt), .int (bI (wl)), .ref j9, .int (nI lm), .long (hs)])), (j7, .inl (ty 0, 8, .inl (tI g))), (j8, .inl (ty 0, 8, .inl (eR c)))] (fun (zr : Option Value) (zW : va_W) => zr = some (.int (nI (rsN (rsv rt c (tmM (h / 8 % 8) 0)) (rsv rt c (tmM (h % 8) 0)) h))) ∧ zW = [(x0, .inr (6, [.int (nI th), .ref i1, .ref i2, .int (nI sd), .ref i3, .int (nI ln), .ref j1, .ref j2, .ref j3, .ref j4, .ref j5, .ref j6, .int (nI fm), .int (nI rd), .int (nI mt), .int (nI dr), .ref j7, .ref j8, .int (nI tt), .int (bI (wl)), .ref j9, .int (nI lm), .long (hs)])), (j7, .inl (ty 0, 8, .inl (tI g))), (j8, .inl (ty 0, 8, .inl (eR c)))]) := by
  have hA := rsv_lt hg hc (tmM_lt (t := h / 8 % 8) (f := 0) (by omega) (by omega))
  have hB := rsv_lt hg hc (tmM_lt (t := h % 8) (f := 0) (by omega) (by omega))
  refine gM_of RX8 rfl (by decide +kernel) (Nat.le_of_ble_eq_true rfl) ?_
  intro pg en s0 mi ag bl mth cd AA HH QQ C E hnm
  show gW pg l en r_X8_result s0 mi ag bl mth cd 5 D AA HH QQ 0 [(0, .ref x0), (1, .int (nI h))] [] [(x0, .inr (6, [.int (nI th), .ref i1, .ref i2, .int (nI sd), .ref i3, .int (nI ln), .ref j1, .ref j2, .ref j3, .ref j4, .ref j5, .ref j6, .int (nI fm), .int (nI rd), .int (nI mt), .int (nI dr), .ref j7, .ref j8, .int (nI tt), .int (bI (wl)), .ref j9, .int (nI lm), .long (hs)])), (j7, .inl (ty 0, 8, .inl (tI g))), (j8, .inl (ty 0, 8, .inl (eR c)))] 0 0
  refine g_aload_n C 0 rfl dX8_result_0 ?_
  refine g_iload_n C 1 rfl dX8_result_1 ?_
  refine g_bipush C (nI 8) bp_8 dX8_result_2 ?_
  refine g_idiv C (nI (h / 8)) (by decide +kernel) dX8_result_4 (pk_div (by omega) (by omega) (by omega)) ?_
  refine g_bipush C (nI 8) bp_8 dX8_result_5 ?_
  refine g_irem C (nI ((h / 8) % 8)) (by decide +kernel) dX8_result_7 (pk_rem (by omega) (by omega) (by omega)) ?_
  refine g_iconst C (nI 0) ic_0 dX8_result_8 ?_
  refine g_callS0 C (nA := 2) (k_X8_term l D ty ((h / 8) % 8) 0 (by omega) (by omega)) wm_X8_69 ws_X8_term wi_X8 wc_X8_term rfl (by decide +kernel) ⟨(Nat.le_of_ble_eq_true rfl), (Nat.le_of_ble_eq_true rfl)⟩ ⟨rfl, rfl⟩ dX8_result_9 (fun _ _ h => h.2) (Nat.le_of_ble_eq_true rfl) rfl ⟨Nat.zero_le _, Nat.zero_le _⟩ (fun r hp => ?_)
  obtain ⟨rfl, -⟩ := hp
  refine g_st [.int (nI (tmM ((h / 8) % 8) 0)), .ref x0] rfl ?_
  refine g_callV C (nA := 1) (ci := 6) (q0 := 0) (As := [.int (nI (tmM ((h / 8) % 8) 0))]) (wr := []) (k_X8_resolved l D ty x0 th i1 i2 sd i3 ln j1 j2 j3 j4 j5 j6 fm rd mt dr j7 j8 tt wl j9 lm hs g rt d c (tmM ((h / 8) % 8) 0) hg hc (tmM_lt (by omega) (by omega))) wm_X8_66 wn_X8_resolved wv_X8_resolved wi_X8 wc_X8_resolved rfl (by decide +kernel) ⟨(Nat.le_of_ble_eq_true rfl), (Nat.le_of_ble_eq_true rfl)⟩ ⟨rfl, rfl⟩ dX8_result_12 ⟨Nat.zero_le _, Nat.zero_le _⟩ rfl rfl rfl [0, 1, 2] [] rfl rfl rfl rfl (by decide) (Nat.le_of_ble_eq_true rfl) rfl (fun r W1 hp => ?_)
  obtain ⟨rfl, rfl⟩ := hp
  refine g_fix [.int (nI (rsv rt c (tmM ((h / 8) % 8) 0)))] [(x0, .inr (6, [.int (nI th), .ref i1, .ref i2, .int (nI sd), .ref i3, .int (nI ln), .ref j1, .ref j2, .ref j3, .ref j4, .ref j5, .ref j6, .int (nI fm), .int (nI rd), .int (nI mt), .int (nI dr), .ref j7, .ref j8, .int (nI tt), .int (bI (wl)), .ref j9, .int (nI lm), .long (hs)])), (j7, .inl (ty 0, 8, .inl (tI g))), (j8, .inl (ty 0, 8, .inl (eR c)))] [0, 1, 2] rfl rfl rfl ?_
  refine g_istore_n C [(2, .int (nI (rsv rt c (tmM ((h / 8) % 8) 0)))), (0, .ref x0), (1, .int (nI h))] dX8_result_15 rfl (by decide) rfl ?_
  refine g_aload_n C 1 rfl dX8_result_16 ?_
  refine g_iload_n C 2 rfl dX8_result_17 ?_
  refine g_bipush C (nI 8) bp_8 dX8_result_18 ?_
  refine g_irem C (nI (h % 8)) (by decide +kernel) dX8_result_20 (pk_rem (by omega) (by omega) (by omega)) ?_
  refine g_iconst C (nI 0) ic_0 dX8_result_21 ?_
  refine g_callS0 C (nA := 2) (k_X8_term l D ty (h % 8) 0 (by omega) (by omega)) wm_X8_69 ws_X8_term wi_X8 wc_X8_term rfl (by decide +kernel) ⟨(Nat.le_of_ble_eq_true rfl), (Nat.le_of_ble_eq_true rfl)⟩ ⟨rfl, rfl⟩ dX8_result_22 (fun _ _ h => h.2) (Nat.le_of_ble_eq_true rfl) rfl ⟨Nat.zero_le _, Nat.zero_le _⟩ (fun r hp => ?_)
  obtain ⟨rfl, -⟩ := hp
  refine g_st [.int (nI (tmM (h % 8) 0)), .ref x0] rfl ?_
  refine g_callV C (nA := 1) (ci := 6) (q0 := 0) (As := [.int (nI (tmM (h % 8) 0))]) (wr := []) (k_X8_resolved l D ty x0 th i1 i2 sd i3 ln j1 j2 j3 j4 j5 j6 fm rd mt dr j7 j8 tt wl j9 lm hs g rt d c (tmM (h % 8) 0) hg hc (tmM_lt (by omega) (by omega))) wm_X8_66 wn_X8_resolved wv_X8_resolved wi_X8 wc_X8_resolved rfl (by decide +kernel) ⟨(Nat.le_of_ble_eq_true rfl), (Nat.le_of_ble_eq_true rfl)⟩ ⟨rfl, rfl⟩ dX8_result_25 ⟨Nat.zero_le _, Nat.zero_le _⟩ rfl rfl rfl [0, 1, 2] [] rfl rfl rfl rfl (by decide) (Nat.le_of_ble_eq_true rfl) rfl (fun r W1 hp => ?_)
  obtain ⟨rfl, rfl⟩ := hp
  refine g_fix [.int (nI (rsv rt c (tmM (h % 8) 0)))] [(x0, .inr (6, [.int (nI th), .ref i1, .ref i2, .int (nI sd), .ref i3, .int (nI ln), .ref j1, .ref j2, .ref j3, .ref j4, .ref j5, .ref j6, .int (nI fm), .int (nI rd), .int (nI mt), .int (nI dr), .ref j7, .ref j8, .int (nI tt), .int (bI (wl)), .ref j9, .int (nI lm), .long (hs)])), (j7, .inl (ty 0, 8, .inl (tI g))), (j8, .inl (ty 0, 8, .inl (eR c)))] [0, 1, 2] rfl rfl rfl ?_
  refine g_istore_n C [(3, .int (nI (rsv rt c (tmM (h % 8) 0)))), (2, .int (nI (rsv rt c (tmM ((h / 8) % 8) 0)))), (0, .ref x0), (1, .int (nI h))] dX8_result_28 rfl (by decide) rfl ?_
  refine g_iload_n C 0 rfl dX8_result_29 ?_
  refine g_bipush C (nI 8) bp_8 dX8_result_30 ?_
  refine g_icmp_geN C (rsv rt c (tmM (h % 8) 0)) 8 39 rfl rfl (by omega) (by omega) dX8_result_32 rfl (fun c32 => ?_) (fun c32 => ?_)
  · skip
    refine g_iload_n C 1 rfl dX8_result_39 ?_
    refine g_bipush C (nI 8) bp_8 dX8_result_40 ?_
    refine g_icmp_ltN C (rsv rt c (tmM ((h / 8) % 8) 0)) 8 50 rfl rfl (by omega) (by omega) dX8_result_42 rfl (fun c42 => ?_) (fun c42 => ?_)
    · skip
      refine g_iconst C (nI 4) ic_4 dX8_result_50 ?_
      refine g_goto C 55 dX8_result_51 rfl ?_
      refine g_istore C [(4, .int (nI 4)), (3, .int (nI (rsv rt c (tmM (h % 8) 0)))), (2, .int (nI (rsv rt c (tmM ((h / 8) % 8) 0)))), (0, .ref x0), (1, .int (nI h))] dX8_result_55 (by decide) rfl ?_
      refine g_iload_n C 4 rfl dX8_result_57 ?_
      refine g_bipush C (nI 64) bp_64 dX8_result_58 ?_
      refine g_idiv C (nI (h / 64)) (by decide +kernel) dX8_result_60 (pk_div (by omega) (by omega) (by omega)) ?_
      refine g_bipush C (nI 64) bp_64 dX8_result_61 ?_
      refine g_imul C (nI ((h / 64) * 64)) dX8_result_63 (pk_mul _ _) ?_
      refine g_bipush C (nI 8) bp_8 dX8_result_64 ?_
      refine g_iload_n C 2 rfl dX8_result_66 ?_
      refine g_bipush C (nI 8) bp_8 dX8_result_67 ?_
      refine g_icmp_geN C (rsv rt c (tmM ((h / 8) % 8) 0)) 8 76 rfl rfl (by omega) (by omega) dX8_result_69 rfl (fun c69 => ?_) (fun c69 => ?_)
      · skip
        refine g_iconst C (nI 4) ic_4 dX8_result_76 ?_
        refine g_imul C (nI 32) dX8_result_77 (pk_mul _ _) ?_
        refine g_iadd C (nI (((h / 64) * 64) + 32)) dX8_result_78 (nI_add _ _) ?_
        refine g_iload C 0 rfl dX8_result_79 ?_
        refine g_iadd C (nI ((((h / 64) * 64) + 32) + 4)) dX8_result_81 (nI_add _ _) ?_
        exact g_iret E dX8_result_82 (by decide) (by decide) ⟨(congrArg (fun z => some (Value.int (nI z))) (by unfold rsN; simp only [*, if_true, if_false]; first | done | omega | (repeat first | rw [if_pos (by omega)] | rw [if_neg (by omega)]))), rfl⟩
      · skip
        refine g_iload_n C 2 rfl dX8_result_72 ?_
        refine g_goto C 77 dX8_result_73 rfl ?_
        refine g_imul C (nI (8 * (rsv rt c (tmM ((h / 8) % 8) 0)))) dX8_result_77 (pk_mul _ _) ?_
        refine g_iadd C (nI (((h / 64) * 64) + (8 * (rsv rt c (tmM ((h / 8) % 8) 0))))) dX8_result_78 (nI_add _ _) ?_
        refine g_iload C 0 rfl dX8_result_79 ?_
        refine g_iadd C (nI ((((h / 64) * 64) + (8 * (rsv rt c (tmM ((h / 8) % 8) 0)))) + 4)) dX8_result_81 (nI_add _ _) ?_
        exact g_iret E dX8_result_82 (by decide) (by decide) ⟨(congrArg (fun z => some (Value.int (nI z))) (by unfold rsN; simp only [*, if_true, if_false]; first | done | omega | (repeat first | rw [if_pos (by omega)] | rw [if_neg (by omega)]))), rfl⟩
    · skip
      refine g_iload_n C 1 rfl dX8_result_45 ?_
      refine g_iload_n C 0 rfl dX8_result_46 ?_
      refine g_icmp_neN C (rsv rt c (tmM ((h / 8) % 8) 0)) (rsv rt c (tmM (h % 8) 0)) 54 rfl rfl (by omega) (by omega) dX8_result_47 rfl (fun c47 => ?_) (fun c47 => ?_)
      · skip
        refine g_iconst C (nI 5) ic_5 dX8_result_54 ?_
        refine g_istore C [(4, .int (nI 5)), (3, .int (nI (rsv rt c (tmM (h % 8) 0)))), (2, .int (nI (rsv rt c (tmM ((h / 8) % 8) 0)))), (0, .ref x0), (1, .int (nI h))] dX8_result_55 (by decide) rfl ?_
        refine g_iload_n C 4 rfl dX8_result_57 ?_
        refine g_bipush C (nI 64) bp_64 dX8_result_58 ?_
        refine g_idiv C (nI (h / 64)) (by decide +kernel) dX8_result_60 (pk_div (by omega) (by omega) (by omega)) ?_
        refine g_bipush C (nI 64) bp_64 dX8_result_61 ?_
        refine g_imul C (nI ((h / 64) * 64)) dX8_result_63 (pk_mul _ _) ?_
        refine g_bipush C (nI 8) bp_8 dX8_result_64 ?_
        refine g_iload_n C 2 rfl dX8_result_66 ?_
        refine g_bipush C (nI 8) bp_8 dX8_result_67 ?_
        refine g_icmp_geN C (rsv rt c (tmM ((h / 8) % 8) 0)) 8 76 rfl rfl (by omega) (by omega) dX8_result_69 rfl (fun c69 => ?_) (fun c69 => ?_)
        · skip
          refine g_iconst C (nI 4) ic_4 dX8_result_76 ?_
          refine g_imul C (nI 32) dX8_result_77 (pk_mul _ _) ?_
          refine g_iadd C (nI (((h / 64) * 64) + 32)) dX8_result_78 (nI_add _ _) ?_
          refine g_iload C 0 rfl dX8_result_79 ?_
          refine g_iadd C (nI ((((h / 64) * 64) + 32) + 5)) dX8_result_81 (nI_add _ _) ?_
          exact g_iret E dX8_result_82 (by decide) (by decide) ⟨(congrArg (fun z => some (Value.int (nI z))) (by unfold rsN; simp only [*, if_true, if_false]; first | done | omega | (repeat first | rw [if_pos (by omega)] | rw [if_neg (by omega)]))), rfl⟩
        · skip
          refine g_iload_n C 2 rfl dX8_result_72 ?_
          refine g_goto C 77 dX8_result_73 rfl ?_
          refine g_imul C (nI (8 * (rsv rt c (tmM ((h / 8) % 8) 0)))) dX8_result_77 (pk_mul _ _) ?_
          refine g_iadd C (nI (((h / 64) * 64) + (8 * (rsv rt c (tmM ((h / 8) % 8) 0))))) dX8_result_78 (nI_add _ _) ?_
          refine g_iload C 0 rfl dX8_result_79 ?_
          refine g_iadd C (nI ((((h / 64) * 64) + (8 * (rsv rt c (tmM ((h / 8) % 8) 0)))) + 5)) dX8_result_81 (nI_add _ _) ?_
          exact g_iret E dX8_result_82 (by decide) (by decide) ⟨(congrArg (fun z => some (Value.int (nI z))) (by unfold rsN; simp only [*, if_true, if_false]; first | done | omega | (repeat first | rw [if_pos (by omega)] | rw [if_neg (by omega)]))), rfl⟩
      · skip
        refine g_iconst C (nI 4) ic_4 dX8_result_50 ?_
        refine g_goto C 55 dX8_result_51 rfl ?_
        refine g_istore C [(4, .int (nI 4)), (3, .int (nI (rsv rt c (tmM (h % 8) 0)))), (2, .int (nI (rsv rt c (tmM ((h / 8) % 8) 0)))), (0, .ref x0), (1, .int (nI h))] dX8_result_55 (by decide) rfl ?_
        refine g_iload_n C 4 rfl dX8_result_57 ?_
        refine g_bipush C (nI 64) bp_64 dX8_result_58 ?_
        refine g_idiv C (nI (h / 64)) (by decide +kernel) dX8_result_60 (pk_div (by omega) (by omega) (by omega)) ?_
        refine g_bipush C (nI 64) bp_64 dX8_result_61 ?_
        refine g_imul C (nI ((h / 64) * 64)) dX8_result_63 (pk_mul _ _) ?_
        refine g_bipush C (nI 8) bp_8 dX8_result_64 ?_
        refine g_iload_n C 2 rfl dX8_result_66 ?_
        refine g_bipush C (nI 8) bp_8 dX8_result_67 ?_
        refine g_icmp_geN C (rsv rt c (tmM ((h / 8) % 8) 0)) 8 76 rfl rfl (by omega) (by omega) dX8_result_69 rfl (fun c69 => ?_) (fun c69 => ?_)
        · skip
          refine g_iconst C (nI 4) ic_4 dX8_result_76 ?_
          refine g_imul C (nI 32) dX8_result_77 (pk_mul _ _) ?_
          refine g_iadd C (nI (((h / 64) * 64) + 32)) dX8_result_78 (nI_add _ _) ?_
          refine g_iload C 0 rfl dX8_result_79 ?_
          refine g_iadd C (nI ((((h / 64) * 64) + 32) + 4)) dX8_result_81 (nI_add _ _) ?_
          exact g_iret E dX8_result_82 (by decide) (by decide) ⟨(congrArg (fun z => some (Value.int (nI z))) (by unfold rsN; simp only [*, if_true, if_false]; first | done | omega | (repeat first | rw [if_pos (by omega)] | rw [if_neg (by omega)]))), rfl⟩
        · skip
          refine g_iload_n C 2 rfl dX8_result_72 ?_
          refine g_goto C 77 dX8_result_73 rfl ?_
          refine g_imul C (nI (8 * (rsv rt c (tmM ((h / 8) % 8) 0)))) dX8_result_77 (pk_mul _ _) ?_
          refine g_iadd C (nI (((h / 64) * 64) + (8 * (rsv rt c (tmM ((h / 8) % 8) 0))))) dX8_result_78 (nI_add _ _) ?_
          refine g_iload C 0 rfl dX8_result_79 ?_
          refine g_iadd C (nI ((((h / 64) * 64) + (8 * (rsv rt c (tmM ((h / 8) % 8) 0)))) + 4)) dX8_result_81 (nI_add _ _) ?_
          exact g_iret E dX8_result_82 (by decide) (by decide) ⟨(congrArg (fun z => some (Value.int (nI z))) (by unfold rsN; simp only [*, if_true, if_false]; first | done | omega | (repeat first | rw [if_pos (by omega)] | rw [if_neg (by omega)]))), rfl⟩
  · skip
    refine g_iload_n C 0 rfl dX8_result_35 ?_
    refine g_goto C 55 dX8_result_36 rfl ?_
    refine g_istore C [(4, .int (nI (rsv rt c (tmM (h % 8) 0)))), (3, .int (nI (rsv rt c (tmM (h % 8) 0)))), (2, .int (nI (rsv rt c (tmM ((h / 8) % 8) 0)))), (0, .ref x0), (1, .int (nI h))] dX8_result_55 (by decide) rfl ?_
    refine g_iload_n C 4 rfl dX8_result_57 ?_
    refine g_bipush C (nI 64) bp_64 dX8_result_58 ?_
    refine g_idiv C (nI (h / 64)) (by decide +kernel) dX8_result_60 (pk_div (by omega) (by omega) (by omega)) ?_
    refine g_bipush C (nI 64) bp_64 dX8_result_61 ?_
    refine g_imul C (nI ((h / 64) * 64)) dX8_result_63 (pk_mul _ _) ?_
    refine g_bipush C (nI 8) bp_8 dX8_result_64 ?_
    refine g_iload_n C 2 rfl dX8_result_66 ?_
    refine g_bipush C (nI 8) bp_8 dX8_result_67 ?_
    refine g_icmp_geN C (rsv rt c (tmM ((h / 8) % 8) 0)) 8 76 rfl rfl (by omega) (by omega) dX8_result_69 rfl (fun c69 => ?_) (fun c69 => ?_)
    · skip
      refine g_iconst C (nI 4) ic_4 dX8_result_76 ?_
      refine g_imul C (nI 32) dX8_result_77 (pk_mul _ _) ?_
      refine g_iadd C (nI (((h / 64) * 64) + 32)) dX8_result_78 (nI_add _ _) ?_
      refine g_iload C 0 rfl dX8_result_79 ?_
      refine g_iadd C (nI ((((h / 64) * 64) + 32) + (rsv rt c (tmM (h % 8) 0)))) dX8_result_81 (nI_add _ _) ?_
      exact g_iret E dX8_result_82 (by decide) (by decide) ⟨(congrArg (fun z => some (Value.int (nI z))) (by unfold rsN; simp only [*, if_true, if_false]; first | done | omega | (repeat first | rw [if_pos (by omega)] | rw [if_neg (by omega)]))), rfl⟩
    · skip
      refine g_iload_n C 2 rfl dX8_result_72 ?_
      refine g_goto C 77 dX8_result_73 rfl ?_
      refine g_imul C (nI (8 * (rsv rt c (tmM ((h / 8) % 8) 0)))) dX8_result_77 (pk_mul _ _) ?_
      refine g_iadd C (nI (((h / 64) * 64) + (8 * (rsv rt c (tmM ((h / 8) % 8) 0))))) dX8_result_78 (nI_add _ _) ?_
      refine g_iload C 0 rfl dX8_result_79 ?_
      refine g_iadd C (nI ((((h / 64) * 64) + (8 * (rsv rt c (tmM ((h / 8) % 8) 0)))) + (rsv rt c (tmM (h % 8) 0)))) dX8_result_81 (nI_add _ _) ?_
      exact g_iret E dX8_result_82 (by decide) (by decide) ⟨(congrArg (fun z => some (Value.int (nI z))) (by unfold rsN; simp only [*, if_true, if_false]; first | done | omega | (repeat first | rw [if_pos (by omega)] | rw [if_neg (by omega)]))), rfl⟩
