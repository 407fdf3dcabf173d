theorem inI_f {v a b : Int32} (h : v < a ∨ b < v) : inI v a b = false := by
  unfold inI
  by_cases h1 : v < a
  · rw [if_pos h1]
  · rw [if_neg h1, if_pos (h.resolve_left h1)]
theorem inI_t {x a b : Nat} (h1 : a ≤ x) (h2 : x ≤ b) (hb : b < 2 ^ 31) : inI (nI x) (nI a) (nI b) = true := by
  rw [inI_N (by omega) (by omega) hb]
  exact decide_eq_true ⟨h1, h2⟩

def r_X8_remove_ok : Room := { frames := 1, cells := 0, slots := 0, locals := 22 }
set_option maxRecDepth 100000 in
set_option maxHeartbeats 4000000 in
theorem k_X8_remove_ok (l : Launch) (D : va_G) (ty : Nat → ClassId) (x0 : Nat) (th : Nat) (i1 : Nat) (i2 : Nat) (sd : Nat) (i3 : Nat) (ln : Nat) (j1 : Nat) (j2 : Nat) (j3 : Nat) (j4 : Nat) (j5 : Nat) (j6 : Nat) (fm : Nat) (rd : Nat) (mt : Nat) (dr : Nat) (j7 : Nat) (j8 : Nat) (tt : Nat) (wl : Bool) (j9 : Nat) (lm : Nat) (hs : Int64) (T : Nat → Bool) (q : Nat → Nat) (nr : Nat) (R : Nat → Int32) (V : Nat → LT) (r : Nat) (hsd : sd ≤ 6) (hR : okR V sd R) (hr : r < nr) (hn : nr ≤ 6) : gM l D ty yX8_remove cX8_remove 3 (some (FieldType.int : FieldType)) r_X8_remove_ok 0 0 [.ref x0, .int (nI r)] [(x0, .inr (6, [.int (nI th), .ref i1, .ref i2, .int (nI sd), .ref i3, .int (nI ln), .ref j1, .ref j2, .ref j3, .ref j4, .ref j5, .ref j6, .int (nI fm), .int (nI rd), .int (nI mt), .int (nI dr), .ref j7, .ref j8, .int (nI tt), .int (bI (wl)), .ref j9, .int (nI lm), .long (hs)])), (i1, .inl (ty 0, 275, .inl (eR (sM T q nr)))), (i2, .inl (ty 0, 1650, .inl (R)))] (fun (zr : Option Value) (zW : va_W) => ∃ (R9 : Nat → Int32), okR (svV V sd (T, q, nr)) (svC sd) R9 ∧ zr = some (.int (nI (nr - 1))) ∧ zW = [(x0, .inr (6, [.int (nI 0), .ref i1, .ref i2, .int (nI (svC sd)), .ref i3, .int (nI ln), .ref j1, .ref j2, .ref j3, .ref j4, .ref j5, .ref j6, .int (nI fm), .int (nI rd), .int (nI mt), .int (nI dr), .ref j7, .ref j8, .int (nI tt), .int (bI (wl)), .ref j9, .int (nI lm), .long (hs)])), (i1, .inl (ty 0, 275, .inl (eR (sM T (zQ (dRi q r (3 * (nr - 1))) (nr - 1) 3) (nr - 1))))), (i2, .inl (ty 0, 1650, .inl (R9)))]) := by
  refine gM_of RX8 rfl (by decide +kernel) (Nat.le_of_ble_eq_true rfl) ?_
  intro pg en s0 mi ag bl mth cd AA HH QQ C E hnm
  show gW pg l en r_X8_remove_ok s0 mi ag bl mth cd 3 D AA HH QQ 0 [(0, .ref x0), (1, .int (nI r))] [] [(x0, .inr (6, [.int (nI th), .ref i1, .ref i2, .int (nI sd), .ref i3, .int (nI ln), .ref j1, .ref j2, .ref j3, .ref j4, .ref j5, .ref j6, .int (nI fm), .int (nI rd), .int (nI mt), .int (nI dr), .ref j7, .ref j8, .int (nI tt), .int (bI (wl)), .ref j9, .int (nI lm), .long (hs)])), (i1, .inl (ty 0, 275, .inl (eR (sM T q nr)))), (i2, .inl (ty 0, 1650, .inl (R)))] 0 0
  refine g_aload_n C 0 rfl dX8_remove_0 ?_
  refine g_iconst C (nI 0) ic_0 dX8_remove_1 ?_
  refine g_putf C wu_X8 tyX8 tyX8_ok nmX8 0 rfl rfl 0 (by decide) wf_X8_47 rfl rfl rfl rfl (Nat.le_of_ble_eq_true rfl) dX8_remove_2 [(x0, .inr (6, [.int (nI 0), .ref i1, .ref i2, .int (nI sd), .ref i3, .int (nI ln), .ref j1, .ref j2, .ref j3, .ref j4, .ref j5, .ref j6, .int (nI fm), .int (nI rd), .int (nI mt), .int (nI dr), .ref j7, .ref j8, .int (nI tt), .int (bI (wl)), .ref j9, .int (nI lm), .long (hs)])), (i1, .inl (ty 0, 275, .inl (eR (sM T q nr)))), (i2, .inl (ty 0, 1650, .inl (R)))] rfl ?_
  refine g_iload_n C 1 rfl dX8_remove_5 ?_
  refine g_iconst C (nI 0) ic_0 dX8_remove_6 ?_
  refine g_aload_n C 0 rfl dX8_remove_7 ?_
  refine g_getf C wu_X8 0 rfl rfl 1 (by decide) wf_X8_7 rfl rfl dX8_remove_8 ?_
  refine g_sipush C (nI 256) sp_256 dX8_remove_11 ?_
  refine g_iald C 1 rfl 256 rfl (by omega) (by decide) (nI nr) (sM_n (by omega)) dX8_remove_14 ?_
  refine g_iconst C (nI 1) ic_1 dX8_remove_15 ?_
  refine g_isub C (nI (nr - 1)) dX8_remove_16 (pk_sub (by omega)) ?_
  refine g_callS0 C (nA := 3) (k_X8_in l D ty ((nI r)) ((nI 0)) ((nI (nr - 1))) ) wm_X8_54 ws_X8_in wi_X8 wc_X8_in rfl (by decide +kernel) ⟨(Nat.le_of_ble_eq_true rfl), (Nat.le_of_ble_eq_true rfl)⟩ ⟨rfl, rfl⟩ dX8_remove_17 (fun _ _ h => h.2) (Nat.le_of_ble_eq_true rfl) rfl ⟨Nat.zero_le _, Nat.zero_le _⟩ (fun r hp => ?_)
  obtain ⟨rfl, -⟩ := hp
  refine g_st [.int (bI (inI ((nI r)) ((nI 0)) ((nI (nr - 1)))))] rfl ?_
  refine g_if_neB C (inI ((nI r)) ((nI 0)) ((nI (nr - 1)))) 29 rfl dX8_remove_20 rfl (fun c20 => ?_) (fun c20 => ?_)
  · skip
    refine g_aload_n C 0 rfl dX8_remove_29 ?_
    refine g_callV C (nA := 0) (ci := 6) (q0 := 0) (As := []) (wr := []) (k_X8_saves l D ty x0 0 i1 i2 sd i3 ln j1 j2 j3 j4 j5 j6 fm rd mt dr j7 j8 tt wl j9 lm hs T q nr R V hsd hR) wm_X8_138 wn_X8_saves wv_X8_saves wi_X8 wc_X8_saves rfl (by decide +kernel) ⟨(Nat.le_of_ble_eq_true rfl), (Nat.le_of_ble_eq_true rfl)⟩ ⟨rfl, rfl⟩ dX8_remove_30 ⟨Nat.zero_le _, Nat.zero_le _⟩ rfl rfl rfl [0, 1, 2] [] rfl rfl rfl rfl (by decide) (Nat.le_of_ble_eq_true rfl) rfl (fun r W1 hp => ?_)
    obtain ⟨R5, hR5, rfl, rfl⟩ := hp
    refine g_fix [] [(x0, .inr (6, [.int (nI 0), .ref i1, .ref i2, .int (nI (svC sd)), .ref i3, .int (nI ln), .ref j1, .ref j2, .ref j3, .ref j4, .ref j5, .ref j6, .int (nI fm), .int (nI rd), .int (nI mt), .int (nI dr), .ref j7, .ref j8, .int (nI tt), .int (bI (wl)), .ref j9, .int (nI lm), .long (hs)])), (i1, .inl (ty 0, 275, .inl (eR (sM T q nr)))), (i2, .inl (ty 0, 1650, .inl (R5)))] [0, 1, 2] rfl rfl rfl ?_
    refine g_sipush C (nI 257) sp_257 dX8_remove_33 ?_
    refine g_iconst C (nI 3) ic_3 dX8_remove_36 ?_
    refine g_iload_n C 1 rfl dX8_remove_37 ?_
    refine g_imul C (nI (3 * r)) dX8_remove_38 (pk_mul _ _) ?_
    refine g_iadd C (nI (257 + (3 * r))) dX8_remove_39 (nI_add _ _) ?_
    refine g_istore_n C [(2, .int (nI (257 + (3 * r)))), (0, .ref x0), (1, .int (nI r))] dX8_remove_40 rfl (by decide) rfl ?_
    refine g_lo [1, 0] [(0, .ref x0), (2, .int (nI (257 + (3 * r))))] rfl ?_
    refine g_ws [(x0, .inr (6, [.int (nI 0), .ref i1, .ref i2, .int (nI (svC sd)), .ref i3, .int (nI ln), .ref j1, .ref j2, .ref j3, .ref j4, .ref j5, .ref j6, .int (nI fm), .int (nI rd), .int (nI mt), .int (nI dr), .ref j7, .ref j8, .int (nI tt), .int (bI (wl)), .ref j9, .int (nI lm), .long (hs)])), (i1, .inl (ty 0, 275, .inl (eR (sM T (dRi q r (3 * r)) nr)))), (i2, .inl (ty 0, 1650, .inl (R5)))] (by rw [dRi_0]) ?_
    have L41 : ∀ (fu41 : Nat) (i : Nat) (hi : 3 * r ≤ i) (hi2 : i ≤ 3 * (nr - 1)), (3 * (nr - 1) - i) < fu41 → gW pg l en r_X8_remove_ok s0 mi ag bl mth cd 3 D AA HH QQ 41 [(0, .ref x0), (2, .int (nI (257 + i)))] [] [(x0, .inr (6, [.int (nI 0), .ref i1, .ref i2, .int (nI (svC sd)), .ref i3, .int (nI ln), .ref j1, .ref j2, .ref j3, .ref j4, .ref j5, .ref j6, .int (nI fm), .int (nI rd), .int (nI mt), .int (nI dr), .ref j7, .ref j8, .int (nI tt), .int (bI (wl)), .ref j9, .int (nI lm), .long (hs)])), (i1, .inl (ty 0, 275, .inl (eR (sM T (dRi q r i) nr)))), (i2, .inl (ty 0, 1650, .inl (R5)))] 0 0 := by
      intro fu41
      induction fu41 with
      | zero => intro i hi hi2 hfu; exact absurd hfu (Nat.not_lt_zero _)
      | succ fu41 ih41 =>
        intro i hi hi2 hfu41
        refine g_iload_n C 1 rfl dX8_remove_41 ?_
        refine g_sipush C (nI 257) sp_257 dX8_remove_42 ?_
        refine g_iconst C (nI 3) ic_3 dX8_remove_45 ?_
        refine g_aload_n C 0 rfl dX8_remove_46 ?_
        refine g_getf C wu_X8 0 rfl rfl 1 (by decide) wf_X8_7 rfl rfl dX8_remove_47 ?_
        refine g_sipush C (nI 256) sp_256 dX8_remove_50 ?_
        refine g_iald C 1 rfl 256 rfl (by omega) (by decide) (nI nr) (sM_n (by omega)) dX8_remove_53 ?_
        refine g_iconst C (nI 1) ic_1 dX8_remove_54 ?_
        refine g_isub C (nI (nr - 1)) dX8_remove_55 (pk_sub (by omega)) ?_
        refine g_imul C (nI (3 * (nr - 1))) dX8_remove_56 (pk_mul _ _) ?_
        refine g_iadd C (nI (257 + (3 * (nr - 1)))) dX8_remove_57 (nI_add _ _) ?_
        refine g_icmp_geN C (257 + i) (257 + (3 * (nr - 1))) 81 rfl rfl (by omega) (by omega) dX8_remove_58 rfl (fun c58 => ?_) (fun c58 => ?_)
        · skip
          refine g_ws [(x0, .inr (6, [.int (nI 0), .ref i1, .ref i2, .int (nI (svC sd)), .ref i3, .int (nI ln), .ref j1, .ref j2, .ref j3, .ref j4, .ref j5, .ref j6, .int (nI fm), .int (nI rd), .int (nI mt), .int (nI dr), .ref j7, .ref j8, .int (nI tt), .int (bI (wl)), .ref j9, .int (nI lm), .long (hs)])), (i1, .inl (ty 0, 275, .inl (eR (sM T (dRi q r (3 * (nr - 1))) nr)))), (i2, .inl (ty 0, 1650, .inl (R5)))] (by rw [show i = 3 * (nr - 1) by omega]) ?_
          refine g_aload_n C 0 rfl dX8_remove_81 ?_
          refine g_getf C wu_X8 0 rfl rfl 1 (by decide) wf_X8_7 rfl rfl dX8_remove_82 ?_
          refine g_sipush C (nI 256) sp_256 dX8_remove_85 ?_
          refine g_dup2 C rfl rfl dX8_remove_88 ?_
          refine g_iald C 1 rfl 256 rfl (by omega) (by decide) (nI nr) (sM_n (by omega)) dX8_remove_89 ?_
          refine g_iconst C (nI 1) ic_1 dX8_remove_90 ?_
          refine g_isub C (nI (nr - 1)) dX8_remove_91 (pk_sub (by omega)) ?_
          refine g_iast C 1 rfl 256 rfl (by omega) (by decide) dX8_remove_92 (eR (sM T (dRi q r (3 * (nr - 1))) (nr - 1))) (sM_nr _ _ _ (by omega)) [(x0, .inr (6, [.int (nI 0), .ref i1, .ref i2, .int (nI (svC sd)), .ref i3, .int (nI ln), .ref j1, .ref j2, .ref j3, .ref j4, .ref j5, .ref j6, .int (nI fm), .int (nI rd), .int (nI mt), .int (nI dr), .ref j7, .ref j8, .int (nI tt), .int (bI (wl)), .ref j9, .int (nI lm), .long (hs)])), (i1, .inl (ty 0, 275, .inl (eR (sM T (dRi q r (3 * (nr - 1))) (nr - 1))))), (i2, .inl (ty 0, 1650, .inl (R5)))] rfl ?_
          refine g_iconst C (nI 0) ic_0 dX8_remove_93 ?_
          refine g_istore_n C [(2, .int (nI 0)), (0, .ref x0)] dX8_remove_94 rfl (by decide) rfl ?_
          refine g_lo [1, 0] [(0, .ref x0), (2, .int (nI 0))] rfl ?_
          refine g_ws [(x0, .inr (6, [.int (nI 0), .ref i1, .ref i2, .int (nI (svC sd)), .ref i3, .int (nI ln), .ref j1, .ref j2, .ref j3, .ref j4, .ref j5, .ref j6, .int (nI fm), .int (nI rd), .int (nI mt), .int (nI dr), .ref j7, .ref j8, .int (nI tt), .int (bI (wl)), .ref j9, .int (nI lm), .long (hs)])), (i1, .inl (ty 0, 275, .inl (eR (sM T (zQ (dRi q r (3 * (nr - 1))) (nr - 1) 0) (nr - 1))))), (i2, .inl (ty 0, 1650, .inl (R5)))] (by rw [zQ_0]) ?_
          have L95 : ∀ (fu95 : Nat) (k : Nat) (hk : k ≤ 3), (3 - k) < fu95 → gW pg l en r_X8_remove_ok s0 mi ag bl mth cd 3 D AA HH QQ 95 [(0, .ref x0), (2, .int (nI k))] [] [(x0, .inr (6, [.int (nI 0), .ref i1, .ref i2, .int (nI (svC sd)), .ref i3, .int (nI ln), .ref j1, .ref j2, .ref j3, .ref j4, .ref j5, .ref j6, .int (nI fm), .int (nI rd), .int (nI mt), .int (nI dr), .ref j7, .ref j8, .int (nI tt), .int (bI (wl)), .ref j9, .int (nI lm), .long (hs)])), (i1, .inl (ty 0, 275, .inl (eR (sM T (zQ (dRi q r (3 * (nr - 1))) (nr - 1) k) (nr - 1))))), (i2, .inl (ty 0, 1650, .inl (R5)))] 0 0 := by
            intro fu95
            induction fu95 with
            | zero => intro k hk hfu; exact absurd hfu (Nat.not_lt_zero _)
            | succ fu95 ih95 =>
              intro k hk hfu95
              refine g_iload_n C 1 rfl dX8_remove_95 ?_
              refine g_iconst C (nI 3) ic_3 dX8_remove_96 ?_
              refine g_icmp_geN C k 3 128 rfl rfl (by omega) (by omega) dX8_remove_97 rfl (fun c97 => ?_) (fun c97 => ?_)
              · skip
                refine g_ws [(x0, .inr (6, [.int (nI 0), .ref i1, .ref i2, .int (nI (svC sd)), .ref i3, .int (nI ln), .ref j1, .ref j2, .ref j3, .ref j4, .ref j5, .ref j6, .int (nI fm), .int (nI rd), .int (nI mt), .int (nI dr), .ref j7, .ref j8, .int (nI tt), .int (bI (wl)), .ref j9, .int (nI lm), .long (hs)])), (i1, .inl (ty 0, 275, .inl (eR (sM T (zQ (dRi q r (3 * (nr - 1))) (nr - 1) 3) (nr - 1))))), (i2, .inl (ty 0, 1650, .inl (R5)))] (by rw [show k = 3 by omega]) ?_
                refine g_aload_n C 0 rfl dX8_remove_128 ?_
                refine g_getf C wu_X8 0 rfl rfl 1 (by decide) wf_X8_7 rfl rfl dX8_remove_129 ?_
                refine g_sipush C (nI 256) sp_256 dX8_remove_132 ?_
                refine g_iald C 1 rfl 256 rfl (by omega) (by decide) (nI (nr - 1)) (sM_n (by omega)) dX8_remove_135 ?_
                exact g_iret E dX8_remove_136 (by decide) (by decide) ⟨R5, hR5, rfl, rfl⟩
              · skip
                refine g_aload_n C 0 rfl dX8_remove_100 ?_
                refine g_getf C wu_X8 0 rfl rfl 1 (by decide) wf_X8_7 rfl rfl dX8_remove_101 ?_
                refine g_sipush C (nI 257) sp_257 dX8_remove_104 ?_
                refine g_iconst C (nI 3) ic_3 dX8_remove_107 ?_
                refine g_aload_n C 0 rfl dX8_remove_108 ?_
                refine g_getf C wu_X8 0 rfl rfl 1 (by decide) wf_X8_7 rfl rfl dX8_remove_109 ?_
                refine g_sipush C (nI 256) sp_256 dX8_remove_112 ?_
                refine g_iald C 1 rfl 256 rfl (by omega) (by decide) (nI (nr - 1)) (sM_n (by omega)) dX8_remove_115 ?_
                refine g_imul C (nI (3 * (nr - 1))) dX8_remove_116 (pk_mul _ _) ?_
                refine g_iadd C (nI (257 + (3 * (nr - 1)))) dX8_remove_117 (nI_add _ _) ?_
                refine g_iload_n C 1 rfl dX8_remove_118 ?_
                refine g_iadd C (nI ((257 + (3 * (nr - 1))) + k)) dX8_remove_119 (nI_add _ _) ?_
                refine g_iconst C (nI 0) ic_0 dX8_remove_120 ?_
                refine g_iast C 1 rfl ((257 + (3 * (nr - 1))) + k) rfl (by omega) (by decide) dX8_remove_121 (eR (sM T (zQ (dRi q r (3 * (nr - 1))) (nr - 1) (k + 1)) (nr - 1))) (sM_zQ _ _ _ _ _) [(x0, .inr (6, [.int (nI 0), .ref i1, .ref i2, .int (nI (svC sd)), .ref i3, .int (nI ln), .ref j1, .ref j2, .ref j3, .ref j4, .ref j5, .ref j6, .int (nI fm), .int (nI rd), .int (nI mt), .int (nI dr), .ref j7, .ref j8, .int (nI tt), .int (bI (wl)), .ref j9, .int (nI lm), .long (hs)])), (i1, .inl (ty 0, 275, .inl (eR (sM T (zQ (dRi q r (3 * (nr - 1))) (nr - 1) (k + 1)) (nr - 1))))), (i2, .inl (ty 0, 1650, .inl (R5)))] rfl ?_
                refine g_iinc C (nI (k + 1)) [(2, .int (nI (k + 1))), (0, .ref x0)] 1 dX8_remove_122 rfl (ii_1 _) (by decide) rfl ?_
                refine g_goto C 95 dX8_remove_125 rfl ?_
                refine g_lo [1, 0] [(0, .ref x0), (2, .int (nI (k + 1)))] rfl ?_
                exact ih95 (k + 1) (by omega) (by omega)
          exact L95 (3 - 0 + 1) 0 (by omega) (Nat.lt_succ_self _)
        · skip
          refine g_aload_n C 0 rfl dX8_remove_61 ?_
          refine g_getf C wu_X8 0 rfl rfl 1 (by decide) wf_X8_7 rfl rfl dX8_remove_62 ?_
          refine g_iload_n C 1 rfl dX8_remove_65 ?_
          refine g_aload_n C 0 rfl dX8_remove_66 ?_
          refine g_getf C wu_X8 0 rfl rfl 1 (by decide) wf_X8_7 rfl rfl dX8_remove_67 ?_
          refine g_iload_n C 1 rfl dX8_remove_70 ?_
          refine g_iconst C (nI 3) ic_3 dX8_remove_71 ?_
          refine g_iadd C (nI ((257 + i) + 3)) dX8_remove_72 (nI_add _ _) ?_
          refine g_iald C 1 rfl ((257 + i) + 3) rfl (by omega) (by decide) (eA (q (i + 3))) (by show eA (sM T (dRi q r i) nr (257 + i + 3)) = _; rw [show 257 + i + 3 = 257 + (i + 3) by omega, sM_q]; unfold dRi; rw [if_neg (by omega)]) dX8_remove_73 ?_
          refine g_iast C 1 rfl (257 + i) rfl (by omega) (by decide) dX8_remove_74 (eR (sM T (dRi q r (i + 1)) nr)) (sM_dR _ _ hi (by omega)) [(x0, .inr (6, [.int (nI 0), .ref i1, .ref i2, .int (nI (svC sd)), .ref i3, .int (nI ln), .ref j1, .ref j2, .ref j3, .ref j4, .ref j5, .ref j6, .int (nI fm), .int (nI rd), .int (nI mt), .int (nI dr), .ref j7, .ref j8, .int (nI tt), .int (bI (wl)), .ref j9, .int (nI lm), .long (hs)])), (i1, .inl (ty 0, 275, .inl (eR (sM T (dRi q r (i + 1)) nr)))), (i2, .inl (ty 0, 1650, .inl (R5)))] rfl ?_
          refine g_iinc C (nI ((257 + i) + 1)) [(2, .int (nI ((257 + i) + 1))), (0, .ref x0)] 1 dX8_remove_75 rfl (ii_1 _) (by decide) rfl ?_
          refine g_goto C 41 dX8_remove_78 rfl ?_
          refine g_lo [1, 0] [(0, .ref x0), (2, .int (nI ((257 + i) + 1)))] rfl ?_
          exact ih41 (i + 1) (by omega) (by omega) (by omega)
    exact L41 (3 * (nr - 1) - (3 * r) + 1) (3 * r) (by omega) (by omega) (Nat.lt_succ_self _)
  · skip
    exact absurd c20 (by rw [inI_t (by omega) (by omega) (by omega)]; decide)
def r_X8_remove_x1 : Room := { frames := 1, cells := 0, slots := 0, locals := 22 }
set_option maxRecDepth 100000 in
set_option maxHeartbeats 4000000 in
theorem k_X8_remove_x1 (l : Launch) (D : va_G) (ty : Nat → ClassId) (x0 : Nat) (th : Nat) (i1 : Nat) (i2 : Nat) (sd : Nat) (i3 : Nat) (ln : Nat) (j1 : Nat) (j2 : Nat) (j3 : Nat) (j4 : Nat) (j5 : Nat) (j6 : Nat) (fm : Nat) (rd : Nat) (mt : Nat) (dr : Nat) (j7 : Nat) (j8 : Nat) (tt : Nat) (wl : Bool) (j9 : Nat) (lm : Nat) (hs : Int64) (T : Nat → Bool) (q : Nat → Nat) (nr : Nat) (z1 : Int32) (hn : nr ≤ 6) (hr : hR z1 nr = false) : gM l D ty yX8_remove cX8_remove 3 (some (FieldType.int : FieldType)) r_X8_remove_x1 0 0 [.ref x0, .int (z1)] [(x0, .inr (6, [.int (nI th), .ref i1, .ref i2, .int (nI sd), .ref i3, .int (nI ln), .ref j1, .ref j2, .ref j3, .ref j4, .ref j5, .ref j6, .int (nI fm), .int (nI rd), .int (nI mt), .int (nI dr), .ref j7, .ref j8, .int (nI tt), .int (bI (wl)), .ref j9, .int (nI lm), .long (hs)])), (i1, .inl (ty 0, 275, .inl (eR (sM T q nr))))] (fun (zr : Option Value) (zW : va_W) => zr = some (.int (nI 0)) ∧ zW = [(x0, .inr (6, [.int (nI 1), .ref i1, .ref i2, .int (nI sd), .ref i3, .int (nI ln), .ref j1, .ref j2, .ref j3, .ref j4, .ref j5, .ref j6, .int (nI fm), .int (nI rd), .int (nI mt), .int (nI dr), .ref j7, .ref j8, .int (nI tt), .int (bI (wl)), .ref j9, .int (nI lm), .long (hs)])), (i1, .inl (ty 0, 275, .inl (eR (sM T q nr))))]) := by
  refine gM_of RX8 rfl (by decide +kernel) (Nat.le_of_ble_eq_true rfl) ?_
  intro pg en s0 mi ag bl mth cd AA HH QQ C E hnm
  show gW pg l en r_X8_remove_x1 s0 mi ag bl mth cd 3 D AA HH QQ 0 [(0, .ref x0), (1, .int (z1))] [] [(x0, .inr (6, [.int (nI th), .ref i1, .ref i2, .int (nI sd), .ref i3, .int (nI ln), .ref j1, .ref j2, .ref j3, .ref j4, .ref j5, .ref j6, .int (nI fm), .int (nI rd), .int (nI mt), .int (nI dr), .ref j7, .ref j8, .int (nI tt), .int (bI (wl)), .ref j9, .int (nI lm), .long (hs)])), (i1, .inl (ty 0, 275, .inl (eR (sM T q nr))))] 0 0
  refine g_aload_n C 0 rfl dX8_remove_0 ?_
  refine g_iconst C (nI 0) ic_0 dX8_remove_1 ?_
  refine g_putf C wu_X8 tyX8 tyX8_ok nmX8 0 rfl rfl 0 (by decide) wf_X8_47 rfl rfl rfl rfl (Nat.le_of_ble_eq_true rfl) dX8_remove_2 [(x0, .inr (6, [.int (nI 0), .ref i1, .ref i2, .int (nI sd), .ref i3, .int (nI ln), .ref j1, .ref j2, .ref j3, .ref j4, .ref j5, .ref j6, .int (nI fm), .int (nI rd), .int (nI mt), .int (nI dr), .ref j7, .ref j8, .int (nI tt), .int (bI (wl)), .ref j9, .int (nI lm), .long (hs)])), (i1, .inl (ty 0, 275, .inl (eR (sM T q nr))))] rfl ?_
  refine g_iload_n C 1 rfl dX8_remove_5 ?_
  refine g_iconst C (nI 0) ic_0 dX8_remove_6 ?_
  refine g_aload_n C 0 rfl dX8_remove_7 ?_
  refine g_getf C wu_X8 0 rfl rfl 1 (by decide) wf_X8_7 rfl rfl dX8_remove_8 ?_
  refine g_sipush C (nI 256) sp_256 dX8_remove_11 ?_
  refine g_iald C 1 rfl 256 rfl (by omega) (by decide) (nI nr) (sM_n (by omega)) dX8_remove_14 ?_
  refine g_iconst C (nI 1) ic_1 dX8_remove_15 ?_
  refine g_isub C (nI nr - nI 1) dX8_remove_16 rfl ?_
  refine g_callS0 C (nA := 3) (k_X8_in l D ty z1 ((nI 0)) (nI nr - nI 1) ) wm_X8_54 ws_X8_in wi_X8 wc_X8_in rfl (by decide +kernel) ⟨(Nat.le_of_ble_eq_true rfl), (Nat.le_of_ble_eq_true rfl)⟩ ⟨rfl, rfl⟩ dX8_remove_17 (fun _ _ h => h.2) (Nat.le_of_ble_eq_true rfl) rfl ⟨Nat.zero_le _, Nat.zero_le _⟩ (fun r hp => ?_)
  obtain ⟨rfl, -⟩ := hp
  refine g_st [.int (bI (inI z1 ((nI 0)) (nI nr - nI 1)))] rfl ?_
  refine g_if_neB C (inI z1 ((nI 0)) (nI nr - nI 1)) 29 rfl dX8_remove_20 rfl (fun c20 => ?_) (fun c20 => ?_)
  · skip
    exact absurd (c20.symm.trans ((inI_R z1 hn).trans hr)) (by decide)
  · skip
    refine g_aload_n C 0 rfl dX8_remove_23 ?_
    refine g_iconst C (nI 1) ic_1 dX8_remove_24 ?_
    refine g_callV C (nA := 1) (ci := 6) (q0 := 0) (As := [.int (nI 1)]) (wr := [(i1, .inl (ty 0, 275, .inl (eR (sM T q nr))))]) (k_X8_fails l D ty x0 0 i1 i2 sd i3 ln j1 j2 j3 j4 j5 j6 fm rd mt dr j7 j8 tt wl j9 lm hs 1 ) wm_X8_131 wn_X8_fails wv_X8_fails wi_X8 wc_X8_fails rfl (by decide +kernel) ⟨(Nat.le_of_ble_eq_true rfl), (Nat.le_of_ble_eq_true rfl)⟩ ⟨rfl, rfl⟩ dX8_remove_25 ⟨Nat.zero_le _, Nat.zero_le _⟩ rfl rfl rfl [0] [1] rfl rfl rfl rfl (by decide) (Nat.le_of_ble_eq_true rfl) rfl (fun r W1 hp => ?_)
    obtain ⟨rfl, rfl⟩ := hp
    refine g_fix [.int (nI 0)] [(x0, .inr (6, [.int (nI 1), .ref i1, .ref i2, .int (nI sd), .ref i3, .int (nI ln), .ref j1, .ref j2, .ref j3, .ref j4, .ref j5, .ref j6, .int (nI fm), .int (nI rd), .int (nI mt), .int (nI dr), .ref j7, .ref j8, .int (nI tt), .int (bI (wl)), .ref j9, .int (nI lm), .long (hs)])), (i1, .inl (ty 0, 275, .inl (eR (sM T q nr))))] [1, 0] rfl rfl rfl ?_
    exact g_iret E dX8_remove_28 (by decide) (by decide) ⟨rfl, rfl⟩
def r_X8_partOf_x1 : Room := { frames := 1, cells := 0, slots := 0, locals := 22 }
set_option maxRecDepth 100000 in
set_option maxHeartbeats 4000000 in
theorem k_X8_partOf_x1 (l : Launch) (D : va_G) (ty : Nat → ClassId) (x0 : Nat) (th : Nat) (i1 : Nat) (i2 : Nat) (sd : Nat) (i3 : Nat) (ln : Nat) (j1 : Nat) (j2 : Nat) (j3 : Nat) (j4 : Nat) (j5 : Nat) (j6 : Nat) (fm : Nat) (rd : Nat) (mt : Nat) (dr : Nat) (j7 : Nat) (j8 : Nat) (tt : Nat) (wl : Bool) (j9 : Nat) (lm : Nat) (hs : Int64) (T : Nat → Bool) (q : Nat → Nat) (nr : Nat) (z1 : Int32) (z2 : Int32) (hn : nr ≤ 6) (hr : hR z1 nr = false) : gM l D ty yX8_partOf cX8_partOf 3 (some (FieldType.int : FieldType)) r_X8_partOf_x1 0 0 [.ref x0, .int (z1), .int (z2)] [(x0, .inr (6, [.int (nI th), .ref i1, .ref i2, .int (nI sd), .ref i3, .int (nI ln), .ref j1, .ref j2, .ref j3, .ref j4, .ref j5, .ref j6, .int (nI fm), .int (nI rd), .int (nI mt), .int (nI dr), .ref j7, .ref j8, .int (nI tt), .int (bI (wl)), .ref j9, .int (nI lm), .long (hs)])), (i1, .inl (ty 0, 275, .inl (eR (sM T q nr))))] (fun (zr : Option Value) (zW : va_W) => zr = some (.int (nI 0)) ∧ zW = [(x0, .inr (6, [.int (nI 1), .ref i1, .ref i2, .int (nI sd), .ref i3, .int (nI ln), .ref j1, .ref j2, .ref j3, .ref j4, .ref j5, .ref j6, .int (nI fm), .int (nI rd), .int (nI mt), .int (nI dr), .ref j7, .ref j8, .int (nI tt), .int (bI (wl)), .ref j9, .int (nI lm), .long (hs)])), (i1, .inl (ty 0, 275, .inl (eR (sM T q nr))))]) := by
  refine gM_of RX8 rfl (by decide +kernel) (Nat.le_of_ble_eq_true rfl) ?_
  intro pg en s0 mi ag bl mth cd AA HH QQ C E hnm
  show gW pg l en r_X8_partOf_x1 s0 mi ag bl mth cd 3 D AA HH QQ 0 [(0, .ref x0), (1, .int (z1)), (2, .int (z2))] [] [(x0, .inr (6, [.int (nI th), .ref i1, .ref i2, .int (nI sd), .ref i3, .int (nI ln), .ref j1, .ref j2, .ref j3, .ref j4, .ref j5, .ref j6, .int (nI fm), .int (nI rd), .int (nI mt), .int (nI dr), .ref j7, .ref j8, .int (nI tt), .int (bI (wl)), .ref j9, .int (nI lm), .long (hs)])), (i1, .inl (ty 0, 275, .inl (eR (sM T q nr))))] 0 0
  refine g_aload_n C 0 rfl dX8_partOf_0 ?_
  refine g_iconst C (nI 0) ic_0 dX8_partOf_1 ?_
  refine g_putf C wu_X8 tyX8 tyX8_ok nmX8 0 rfl rfl 0 (by decide) wf_X8_47 rfl rfl rfl rfl (Nat.le_of_ble_eq_true rfl) dX8_partOf_2 [(x0, .inr (6, [.int (nI 0), .ref i1, .ref i2, .int (nI sd), .ref i3, .int (nI ln), .ref j1, .ref j2, .ref j3, .ref j4, .ref j5, .ref j6, .int (nI fm), .int (nI rd), .int (nI mt), .int (nI dr), .ref j7, .ref j8, .int (nI tt), .int (bI (wl)), .ref j9, .int (nI lm), .long (hs)])), (i1, .inl (ty 0, 275, .inl (eR (sM T q nr))))] rfl ?_
  refine g_iload_n C 1 rfl dX8_partOf_5 ?_
  refine g_iconst C (nI 0) ic_0 dX8_partOf_6 ?_
  refine g_aload_n C 0 rfl dX8_partOf_7 ?_
  refine g_getf C wu_X8 0 rfl rfl 1 (by decide) wf_X8_7 rfl rfl dX8_partOf_8 ?_
  refine g_sipush C (nI 256) sp_256 dX8_partOf_11 ?_
  refine g_iald C 1 rfl 256 rfl (by omega) (by decide) (nI nr) (sM_n (by omega)) dX8_partOf_14 ?_
  refine g_iconst C (nI 1) ic_1 dX8_partOf_15 ?_
  refine g_isub C (nI nr - nI 1) dX8_partOf_16 rfl ?_
  refine g_callS0 C (nA := 3) (k_X8_in l D ty z1 ((nI 0)) (nI nr - nI 1) ) wm_X8_54 ws_X8_in wi_X8 wc_X8_in rfl (by decide +kernel) ⟨(Nat.le_of_ble_eq_true rfl), (Nat.le_of_ble_eq_true rfl)⟩ ⟨rfl, rfl⟩ dX8_partOf_17 (fun _ _ h => h.2) (Nat.le_of_ble_eq_true rfl) rfl ⟨Nat.zero_le _, Nat.zero_le _⟩ (fun r hp => ?_)
  obtain ⟨rfl, -⟩ := hp
  refine g_st [.int (bI (inI z1 ((nI 0)) (nI nr - nI 1)))] rfl ?_
  refine g_if_neB C (inI z1 ((nI 0)) (nI nr - nI 1)) 29 rfl dX8_partOf_20 rfl (fun c20 => ?_) (fun c20 => ?_)
  · skip
    exact absurd (c20.symm.trans ((inI_R z1 hn).trans hr)) (by decide)
  · skip
    refine g_aload_n C 0 rfl dX8_partOf_23 ?_
    refine g_iconst C (nI 1) ic_1 dX8_partOf_24 ?_
    refine g_callV C (nA := 1) (ci := 6) (q0 := 0) (As := [.int (nI 1)]) (wr := [(i1, .inl (ty 0, 275, .inl (eR (sM T q nr))))]) (k_X8_fails l D ty x0 0 i1 i2 sd i3 ln j1 j2 j3 j4 j5 j6 fm rd mt dr j7 j8 tt wl j9 lm hs 1 ) wm_X8_131 wn_X8_fails wv_X8_fails wi_X8 wc_X8_fails rfl (by decide +kernel) ⟨(Nat.le_of_ble_eq_true rfl), (Nat.le_of_ble_eq_true rfl)⟩ ⟨rfl, rfl⟩ dX8_partOf_25 ⟨Nat.zero_le _, Nat.zero_le _⟩ rfl rfl rfl [0] [1] rfl rfl rfl rfl (by decide) (Nat.le_of_ble_eq_true rfl) rfl (fun r W1 hp => ?_)
    obtain ⟨rfl, rfl⟩ := hp
    refine g_fix [.int (nI 0)] [(x0, .inr (6, [.int (nI 1), .ref i1, .ref i2, .int (nI sd), .ref i3, .int (nI ln), .ref j1, .ref j2, .ref j3, .ref j4, .ref j5, .ref j6, .int (nI fm), .int (nI rd), .int (nI mt), .int (nI dr), .ref j7, .ref j8, .int (nI tt), .int (bI (wl)), .ref j9, .int (nI lm), .long (hs)])), (i1, .inl (ty 0, 275, .inl (eR (sM T q nr))))] [1, 0] rfl rfl rfl ?_
    exact g_iret E dX8_partOf_28 (by decide) (by decide) ⟨rfl, rfl⟩
def r_X8_without_x1 : Room := { frames := 10, cells := 0, slots := 0, locals := 230 }
set_option maxRecDepth 100000 in
set_option maxHeartbeats 4000000 in
theorem k_X8_without_x1 (l : Launch) (D : va_G) (ty : Nat → ClassId) (x0 : Nat) (th : Nat) (i1 : Nat) (i2 : Nat) (sd : Nat) (i3 : Nat) (ln : Nat) (j1 : Nat) (j2 : Nat) (j3 : Nat) (j4 : Nat) (j5 : Nat) (j6 : Nat) (fm : Nat) (rd : Nat) (mt : Nat) (dr : Nat) (j7 : Nat) (j8 : Nat) (tt : Nat) (wl : Bool) (j9 : Nat) (lm : Nat) (hs : Int64) (T : Nat → Bool) (q : Nat → Nat) (nr : Nat) (z1 : Int32) (z2 : Int32) (hn : nr ≤ 6) (hr : hR z1 nr = false) : gM l D ty yX8_without cX8_without 3 (some (FieldType.int : FieldType)) r_X8_without_x1 0 0 [.ref x0, .int (z1), .int (z2)] [(x0, .inr (6, [.int (nI th), .ref i1, .ref i2, .int (nI sd), .ref i3, .int (nI ln), .ref j1, .ref j2, .ref j3, .ref j4, .ref j5, .ref j6, .int (nI fm), .int (nI rd), .int (nI mt), .int (nI dr), .ref j7, .ref j8, .int (nI tt), .int (bI (wl)), .ref j9, .int (nI lm), .long (hs)])), (i1, .inl (ty 0, 275, .inl (eR (sM T q nr))))] (fun (zr : Option Value) (zW : va_W) => zr = some (.int (nI 0)) ∧ zW = [(x0, .inr (6, [.int (nI 1), .ref i1, .ref i2, .int (nI sd), .ref i3, .int (nI ln), .ref j1, .ref j2, .ref j3, .ref j4, .ref j5, .ref j6, .int (nI fm), .int (nI rd), .int (nI mt), .int (nI dr), .ref j7, .ref j8, .int (nI tt), .int (bI (wl)), .ref j9, .int (nI lm), .long (hs)])), (i1, .inl (ty 0, 275, .inl (eR (sM T q nr))))]) := by
  refine gM_of RX8 rfl (by decide +kernel) (Nat.le_of_ble_eq_true rfl) ?_
  intro pg en s0 mi ag bl mth cd AA HH QQ C E hnm
  show gW pg l en r_X8_without_x1 s0 mi ag bl mth cd 3 D AA HH QQ 0 [(0, .ref x0), (1, .int (z1)), (2, .int (z2))] [] [(x0, .inr (6, [.int (nI th), .ref i1, .ref i2, .int (nI sd), .ref i3, .int (nI ln), .ref j1, .ref j2, .ref j3, .ref j4, .ref j5, .ref j6, .int (nI fm), .int (nI rd), .int (nI mt), .int (nI dr), .ref j7, .ref j8, .int (nI tt), .int (bI (wl)), .ref j9, .int (nI lm), .long (hs)])), (i1, .inl (ty 0, 275, .inl (eR (sM T q nr))))] 0 0
  refine g_aload_n C 0 rfl dX8_without_0 ?_
  refine g_iconst C (nI 0) ic_0 dX8_without_1 ?_
  refine g_putf C wu_X8 tyX8 tyX8_ok nmX8 0 rfl rfl 0 (by decide) wf_X8_47 rfl rfl rfl rfl (Nat.le_of_ble_eq_true rfl) dX8_without_2 [(x0, .inr (6, [.int (nI 0), .ref i1, .ref i2, .int (nI sd), .ref i3, .int (nI ln), .ref j1, .ref j2, .ref j3, .ref j4, .ref j5, .ref j6, .int (nI fm), .int (nI rd), .int (nI mt), .int (nI dr), .ref j7, .ref j8, .int (nI tt), .int (bI (wl)), .ref j9, .int (nI lm), .long (hs)])), (i1, .inl (ty 0, 275, .inl (eR (sM T q nr))))] rfl ?_
  refine g_iload_n C 1 rfl dX8_without_5 ?_
  refine g_iconst C (nI 0) ic_0 dX8_without_6 ?_
  refine g_aload_n C 0 rfl dX8_without_7 ?_
  refine g_getf C wu_X8 0 rfl rfl 1 (by decide) wf_X8_7 rfl rfl dX8_without_8 ?_
  refine g_sipush C (nI 256) sp_256 dX8_without_11 ?_
  refine g_iald C 1 rfl 256 rfl (by omega) (by decide) (nI nr) (sM_n (by omega)) dX8_without_14 ?_
  refine g_iconst C (nI 1) ic_1 dX8_without_15 ?_
  refine g_isub C (nI nr - nI 1) dX8_without_16 rfl ?_
  refine g_callS0 C (nA := 3) (k_X8_in l D ty z1 ((nI 0)) (nI nr - nI 1) ) wm_X8_54 ws_X8_in wi_X8 wc_X8_in rfl (by decide +kernel) ⟨(Nat.le_of_ble_eq_true rfl), (Nat.le_of_ble_eq_true rfl)⟩ ⟨rfl, rfl⟩ dX8_without_17 (fun _ _ h => h.2) (Nat.le_of_ble_eq_true rfl) rfl ⟨Nat.zero_le _, Nat.zero_le _⟩ (fun r hp => ?_)
  obtain ⟨rfl, -⟩ := hp
  refine g_st [.int (bI (inI z1 ((nI 0)) (nI nr - nI 1)))] rfl ?_
  refine g_if_neB C (inI z1 ((nI 0)) (nI nr - nI 1)) 29 rfl dX8_without_20 rfl (fun c20 => ?_) (fun c20 => ?_)
  · skip
    exact absurd (c20.symm.trans ((inI_R z1 hn).trans hr)) (by decide)
  · skip
    refine g_aload_n C 0 rfl dX8_without_23 ?_
    refine g_iconst C (nI 1) ic_1 dX8_without_24 ?_
    refine g_callV C (nA := 1) (ci := 6) (q0 := 0) (As := [.int (nI 1)]) (wr := [(i1, .inl (ty 0, 275, .inl (eR (sM T q nr))))]) (k_X8_fails l D ty x0 0 i1 i2 sd i3 ln j1 j2 j3 j4 j5 j6 fm rd mt dr j7 j8 tt wl j9 lm hs 1 ) wm_X8_131 wn_X8_fails wv_X8_fails wi_X8 wc_X8_fails rfl (by decide +kernel) ⟨(Nat.le_of_ble_eq_true rfl), (Nat.le_of_ble_eq_true rfl)⟩ ⟨rfl, rfl⟩ dX8_without_25 ⟨Nat.zero_le _, Nat.zero_le _⟩ rfl rfl rfl [0] [1] rfl rfl rfl rfl (by decide) (Nat.le_of_ble_eq_true rfl) rfl (fun r W1 hp => ?_)
    obtain ⟨rfl, rfl⟩ := hp
    refine g_fix [.int (nI 0)] [(x0, .inr (6, [.int (nI 1), .ref i1, .ref i2, .int (nI sd), .ref i3, .int (nI ln), .ref j1, .ref j2, .ref j3, .ref j4, .ref j5, .ref j6, .int (nI fm), .int (nI rd), .int (nI mt), .int (nI dr), .ref j7, .ref j8, .int (nI tt), .int (bI (wl)), .ref j9, .int (nI lm), .long (hs)])), (i1, .inl (ty 0, 275, .inl (eR (sM T q nr))))] [1, 0] rfl rfl rfl ?_
    exact g_iret E dX8_without_28 (by decide) (by decide) ⟨rfl, rfl⟩
def r_X8_partOf_ok : Room := { frames := 1, cells := 0, slots := 0, locals := 22 }
set_option maxRecDepth 100000 in
set_option maxHeartbeats 4000000 in
theorem k_X8_partOf_ok (l : Launch) (D : va_G) (ty : Nat → ClassId) (x0 : Nat) (th : Nat) (i1 : Nat) (i2 : Nat) (sd : Nat) (i3 : Nat) (ln : Nat) (j1 : Nat) (j2 : Nat) (j3 : Nat) (j4 : Nat) (j5 : Nat) (j6 : Nat) (fm : Nat) (rd : Nat) (mt : Nat) (dr : Nat) (j7 : Nat) (j8 : Nat) (tt : Nat) (wl : Bool) (j9 : Nat) (lm : Nat) (hs : Int64) (T : Nat → Bool) (q : Nat → Nat) (nr : Nat) (r : Nat) (j : Nat) (hn : nr ≤ 6) (hr : r < nr) (hj : j < 3) : gM l D ty yX8_partOf cX8_partOf 3 (some (FieldType.int : FieldType)) r_X8_partOf_ok 0 0 [.ref x0, .int (nI r), .int (nI j)] [(x0, .inr (6, [.int (nI th), .ref i1, .ref i2, .int (nI sd), .ref i3, .int (nI ln), .ref j1, .ref j2, .ref j3, .ref j4, .ref j5, .ref j6, .int (nI fm), .int (nI rd), .int (nI mt), .int (nI dr), .ref j7, .ref j8, .int (nI tt), .int (bI (wl)), .ref j9, .int (nI lm), .long (hs)])), (i1, .inl (ty 0, 275, .inl (eR (sM T q nr))))] (fun (zr : Option Value) (zW : va_W) => zr = some (.int (eA (q (3 * r + j)))) ∧ zW = [(x0, .inr (6, [.int (nI 0), .ref i1, .ref i2, .int (nI sd), .ref i3, .int (nI ln), .ref j1, .ref j2, .ref j3, .ref j4, .ref j5, .ref j6, .int (nI fm), .int (nI rd), .int (nI mt), .int (nI dr), .ref j7, .ref j8, .int (nI tt), .int (bI (wl)), .ref j9, .int (nI lm), .long (hs)])), (i1, .inl (ty 0, 275, .inl (eR (sM T q nr))))]) := by
  refine gM_of RX8 rfl (by decide +kernel) (Nat.le_of_ble_eq_true rfl) ?_
  intro pg en s0 mi ag bl mth cd AA HH QQ C E hnm
  show gW pg l en r_X8_partOf_ok s0 mi ag bl mth cd 3 D AA HH QQ 0 [(0, .ref x0), (1, .int (nI r)), (2, .int (nI j))] [] [(x0, .inr (6, [.int (nI th), .ref i1, .ref i2, .int (nI sd), .ref i3, .int (nI ln), .ref j1, .ref j2, .ref j3, .ref j4, .ref j5, .ref j6, .int (nI fm), .int (nI rd), .int (nI mt), .int (nI dr), .ref j7, .ref j8, .int (nI tt), .int (bI (wl)), .ref j9, .int (nI lm), .long (hs)])), (i1, .inl (ty 0, 275, .inl (eR (sM T q nr))))] 0 0
  refine g_aload_n C 0 rfl dX8_partOf_0 ?_
  refine g_iconst C (nI 0) ic_0 dX8_partOf_1 ?_
  refine g_putf C wu_X8 tyX8 tyX8_ok nmX8 0 rfl rfl 0 (by decide) wf_X8_47 rfl rfl rfl rfl (Nat.le_of_ble_eq_true rfl) dX8_partOf_2 [(x0, .inr (6, [.int (nI 0), .ref i1, .ref i2, .int (nI sd), .ref i3, .int (nI ln), .ref j1, .ref j2, .ref j3, .ref j4, .ref j5, .ref j6, .int (nI fm), .int (nI rd), .int (nI mt), .int (nI dr), .ref j7, .ref j8, .int (nI tt), .int (bI (wl)), .ref j9, .int (nI lm), .long (hs)])), (i1, .inl (ty 0, 275, .inl (eR (sM T q nr))))] rfl ?_
  refine g_iload_n C 1 rfl dX8_partOf_5 ?_
  refine g_iconst C (nI 0) ic_0 dX8_partOf_6 ?_
  refine g_aload_n C 0 rfl dX8_partOf_7 ?_
  refine g_getf C wu_X8 0 rfl rfl 1 (by decide) wf_X8_7 rfl rfl dX8_partOf_8 ?_
  refine g_sipush C (nI 256) sp_256 dX8_partOf_11 ?_
  refine g_iald C 1 rfl 256 rfl (by omega) (by decide) (nI nr) (sM_n (by omega)) dX8_partOf_14 ?_
  refine g_iconst C (nI 1) ic_1 dX8_partOf_15 ?_
  refine g_isub C (nI (nr - 1)) dX8_partOf_16 (pk_sub (by omega)) ?_
  refine g_callS0 C (nA := 3) (k_X8_in l D ty ((nI r)) ((nI 0)) ((nI (nr - 1))) ) wm_X8_54 ws_X8_in wi_X8 wc_X8_in rfl (by decide +kernel) ⟨(Nat.le_of_ble_eq_true rfl), (Nat.le_of_ble_eq_true rfl)⟩ ⟨rfl, rfl⟩ dX8_partOf_17 (fun _ _ h => h.2) (Nat.le_of_ble_eq_true rfl) rfl ⟨Nat.zero_le _, Nat.zero_le _⟩ (fun r hp => ?_)
  obtain ⟨rfl, -⟩ := hp
  refine g_st [.int (bI (inI ((nI r)) ((nI 0)) ((nI (nr - 1)))))] rfl ?_
  refine g_if_neB C (inI ((nI r)) ((nI 0)) ((nI (nr - 1)))) 29 rfl dX8_partOf_20 rfl (fun c20 => ?_) (fun c20 => ?_)
  · skip
    refine g_iload_n C 2 rfl dX8_partOf_29 ?_
    refine g_iconst C (nI 0) ic_0 dX8_partOf_30 ?_
    refine g_iconst C (nI 2) ic_2 dX8_partOf_31 ?_
    refine g_callS0 C (nA := 3) (k_X8_in l D ty ((nI j)) ((nI 0)) ((nI 2)) ) wm_X8_54 ws_X8_in wi_X8 wc_X8_in rfl (by decide +kernel) ⟨(Nat.le_of_ble_eq_true rfl), (Nat.le_of_ble_eq_true rfl)⟩ ⟨rfl, rfl⟩ dX8_partOf_32 (fun _ _ h => h.2) (Nat.le_of_ble_eq_true rfl) rfl ⟨Nat.zero_le _, Nat.zero_le _⟩ (fun r hp => ?_)
    obtain ⟨rfl, -⟩ := hp
    refine g_st [.int (bI (inI ((nI j)) ((nI 0)) ((nI 2))))] rfl ?_
    refine g_if_eqB C (inI ((nI j)) ((nI 0)) ((nI 2))) 55 rfl dX8_partOf_35 rfl (fun c35 => ?_) (fun c35 => ?_)
    · skip
      exact absurd c35 (by rw [inI_t (by omega) (by omega) (by omega)]; decide)
    · skip
      refine g_aload_n C 0 rfl dX8_partOf_38 ?_
      refine g_getf C wu_X8 0 rfl rfl 1 (by decide) wf_X8_7 rfl rfl dX8_partOf_39 ?_
      refine g_sipush C (nI 257) sp_257 dX8_partOf_42 ?_
      refine g_iconst C (nI 3) ic_3 dX8_partOf_45 ?_
      refine g_iload_n C 1 rfl dX8_partOf_46 ?_
      refine g_imul C (nI (3 * r)) dX8_partOf_47 (pk_mul _ _) ?_
      refine g_iadd C (nI (257 + (3 * r))) dX8_partOf_48 (nI_add _ _) ?_
      refine g_iload_n C 2 rfl dX8_partOf_49 ?_
      refine g_iadd C (nI ((257 + (3 * r)) + j)) dX8_partOf_50 (nI_add _ _) ?_
      refine g_iald C 1 rfl ((257 + (3 * r)) + j) rfl (by omega) (by decide) (eA (q (3 * r + j))) (by show eA (sM T q nr (257 + 3 * r + j)) = _; rw [Nat.add_assoc, sM_q]) dX8_partOf_51 ?_
      refine g_goto C 60 dX8_partOf_52 rfl ?_
      exact g_iret E dX8_partOf_60 (by decide) (by decide) ⟨rfl, rfl⟩
  · skip
    exact absurd c20 (by rw [inI_t (by omega) (by omega) (by omega)]; decide)
def r_X8_partOf_x2 : Room := { frames := 1, cells := 0, slots := 0, locals := 22 }
set_option maxRecDepth 100000 in
set_option maxHeartbeats 4000000 in
theorem k_X8_partOf_x2 (l : Launch) (D : va_G) (ty : Nat → ClassId) (x0 : Nat) (th : Nat) (i1 : Nat) (i2 : Nat) (sd : Nat) (i3 : Nat) (ln : Nat) (j1 : Nat) (j2 : Nat) (j3 : Nat) (j4 : Nat) (j5 : Nat) (j6 : Nat) (fm : Nat) (rd : Nat) (mt : Nat) (dr : Nat) (j7 : Nat) (j8 : Nat) (tt : Nat) (wl : Bool) (j9 : Nat) (lm : Nat) (hs : Int64) (T : Nat → Bool) (q : Nat → Nat) (nr : Nat) (r : Nat) (z1 : Int32) (hn : nr ≤ 6) (hr : r < nr) (hz : z1 < nI 0 ∨ nI 2 < z1) : gM l D ty yX8_partOf cX8_partOf 3 (some (FieldType.int : FieldType)) r_X8_partOf_x2 0 0 [.ref x0, .int (nI r), .int (z1)] [(x0, .inr (6, [.int (nI th), .ref i1, .ref i2, .int (nI sd), .ref i3, .int (nI ln), .ref j1, .ref j2, .ref j3, .ref j4, .ref j5, .ref j6, .int (nI fm), .int (nI rd), .int (nI mt), .int (nI dr), .ref j7, .ref j8, .int (nI tt), .int (bI (wl)), .ref j9, .int (nI lm), .long (hs)])), (i1, .inl (ty 0, 275, .inl (eR (sM T q nr))))] (fun (zr : Option Value) (zW : va_W) => zr = some (.int (nI 0)) ∧ zW = [(x0, .inr (6, [.int (nI 2), .ref i1, .ref i2, .int (nI sd), .ref i3, .int (nI ln), .ref j1, .ref j2, .ref j3, .ref j4, .ref j5, .ref j6, .int (nI fm), .int (nI rd), .int (nI mt), .int (nI dr), .ref j7, .ref j8, .int (nI tt), .int (bI (wl)), .ref j9, .int (nI lm), .long (hs)])), (i1, .inl (ty 0, 275, .inl (eR (sM T q nr))))]) := by
  refine gM_of RX8 rfl (by decide +kernel) (Nat.le_of_ble_eq_true rfl) ?_
  intro pg en s0 mi ag bl mth cd AA HH QQ C E hnm
  show gW pg l en r_X8_partOf_x2 s0 mi ag bl mth cd 3 D AA HH QQ 0 [(0, .ref x0), (1, .int (nI r)), (2, .int (z1))] [] [(x0, .inr (6, [.int (nI th), .ref i1, .ref i2, .int (nI sd), .ref i3, .int (nI ln), .ref j1, .ref j2, .ref j3, .ref j4, .ref j5, .ref j6, .int (nI fm), .int (nI rd), .int (nI mt), .int (nI dr), .ref j7, .ref j8, .int (nI tt), .int (bI (wl)), .ref j9, .int (nI lm), .long (hs)])), (i1, .inl (ty 0, 275, .inl (eR (sM T q nr))))] 0 0
  refine g_aload_n C 0 rfl dX8_partOf_0 ?_
  refine g_iconst C (nI 0) ic_0 dX8_partOf_1 ?_
  refine g_putf C wu_X8 tyX8 tyX8_ok nmX8 0 rfl rfl 0 (by decide) wf_X8_47 rfl rfl rfl rfl (Nat.le_of_ble_eq_true rfl) dX8_partOf_2 [(x0, .inr (6, [.int (nI 0), .ref i1, .ref i2, .int (nI sd), .ref i3, .int (nI ln), .ref j1, .ref j2, .ref j3, .ref j4, .ref j5, .ref j6, .int (nI fm), .int (nI rd), .int (nI mt), .int (nI dr), .ref j7, .ref j8, .int (nI tt), .int (bI (wl)), .ref j9, .int (nI lm), .long (hs)])), (i1, .inl (ty 0, 275, .inl (eR (sM T q nr))))] rfl ?_
  refine g_iload_n C 1 rfl dX8_partOf_5 ?_
  refine g_iconst C (nI 0) ic_0 dX8_partOf_6 ?_
  refine g_aload_n C 0 rfl dX8_partOf_7 ?_
  refine g_getf C wu_X8 0 rfl rfl 1 (by decide) wf_X8_7 rfl rfl dX8_partOf_8 ?_
  refine g_sipush C (nI 256) sp_256 dX8_partOf_11 ?_
  refine g_iald C 1 rfl 256 rfl (by omega) (by decide) (nI nr) (sM_n (by omega)) dX8_partOf_14 ?_
  refine g_iconst C (nI 1) ic_1 dX8_partOf_15 ?_
  refine g_isub C (nI (nr - 1)) dX8_partOf_16 (pk_sub (by omega)) ?_
  refine g_callS0 C (nA := 3) (k_X8_in l D ty ((nI r)) ((nI 0)) ((nI (nr - 1))) ) wm_X8_54 ws_X8_in wi_X8 wc_X8_in rfl (by decide +kernel) ⟨(Nat.le_of_ble_eq_true rfl), (Nat.le_of_ble_eq_true rfl)⟩ ⟨rfl, rfl⟩ dX8_partOf_17 (fun _ _ h => h.2) (Nat.le_of_ble_eq_true rfl) rfl ⟨Nat.zero_le _, Nat.zero_le _⟩ (fun r hp => ?_)
  obtain ⟨rfl, -⟩ := hp
  refine g_st [.int (bI (inI ((nI r)) ((nI 0)) ((nI (nr - 1)))))] rfl ?_
  refine g_if_neB C (inI ((nI r)) ((nI 0)) ((nI (nr - 1)))) 29 rfl dX8_partOf_20 rfl (fun c20 => ?_) (fun c20 => ?_)
  · skip
    refine g_iload_n C 2 rfl dX8_partOf_29 ?_
    refine g_iconst C (nI 0) ic_0 dX8_partOf_30 ?_
    refine g_iconst C (nI 2) ic_2 dX8_partOf_31 ?_
    refine g_callS0 C (nA := 3) (k_X8_in l D ty z1 ((nI 0)) ((nI 2)) ) wm_X8_54 ws_X8_in wi_X8 wc_X8_in rfl (by decide +kernel) ⟨(Nat.le_of_ble_eq_true rfl), (Nat.le_of_ble_eq_true rfl)⟩ ⟨rfl, rfl⟩ dX8_partOf_32 (fun _ _ h => h.2) (Nat.le_of_ble_eq_true rfl) rfl ⟨Nat.zero_le _, Nat.zero_le _⟩ (fun r hp => ?_)
    obtain ⟨rfl, -⟩ := hp
    refine g_st [.int (bI (inI z1 ((nI 0)) ((nI 2))))] rfl ?_
    refine g_if_eqB C (inI z1 ((nI 0)) ((nI 2))) 55 rfl dX8_partOf_35 rfl (fun c35 => ?_) (fun c35 => ?_)
    · skip
      refine g_aload_n C 0 rfl dX8_partOf_55 ?_
      refine g_iconst C (nI 2) ic_2 dX8_partOf_56 ?_
      refine g_callV C (nA := 1) (ci := 6) (q0 := 0) (As := [.int (nI 2)]) (wr := [(i1, .inl (ty 0, 275, .inl (eR (sM T q nr))))]) (k_X8_fails l D ty x0 0 i1 i2 sd i3 ln j1 j2 j3 j4 j5 j6 fm rd mt dr j7 j8 tt wl j9 lm hs 2 ) wm_X8_131 wn_X8_fails wv_X8_fails wi_X8 wc_X8_fails rfl (by decide +kernel) ⟨(Nat.le_of_ble_eq_true rfl), (Nat.le_of_ble_eq_true rfl)⟩ ⟨rfl, rfl⟩ dX8_partOf_57 ⟨Nat.zero_le _, Nat.zero_le _⟩ rfl rfl rfl [0] [1] rfl rfl rfl rfl (by decide) (Nat.le_of_ble_eq_true rfl) rfl (fun r W1 hp => ?_)
      obtain ⟨rfl, rfl⟩ := hp
      refine g_fix [.int (nI 0)] [(x0, .inr (6, [.int (nI 2), .ref i1, .ref i2, .int (nI sd), .ref i3, .int (nI ln), .ref j1, .ref j2, .ref j3, .ref j4, .ref j5, .ref j6, .int (nI fm), .int (nI rd), .int (nI mt), .int (nI dr), .ref j7, .ref j8, .int (nI tt), .int (bI (wl)), .ref j9, .int (nI lm), .long (hs)])), (i1, .inl (ty 0, 275, .inl (eR (sM T q nr))))] [1, 0] rfl rfl rfl ?_
      exact g_iret E dX8_partOf_60 (by decide) (by decide) ⟨rfl, rfl⟩
    · skip
      exact absurd c35 (by rw [inI_f (hz)]; decide)
  · skip
    exact absurd c20 (by rw [inI_t (by omega) (by omega) (by omega)]; decide)
def r_X8_without_x2 : Room := { frames := 10, cells := 0, slots := 0, locals := 230 }
set_option maxRecDepth 100000 in
set_option maxHeartbeats 4000000 in
theorem k_X8_without_x2 (l : Launch) (D : va_G) (ty : Nat → ClassId) (x0 : Nat) (th : Nat) (i1 : Nat) (i2 : Nat) (sd : Nat) (i3 : Nat) (ln : Nat) (j1 : Nat) (j2 : Nat) (j3 : Nat) (j4 : Nat) (j5 : Nat) (j6 : Nat) (fm : Nat) (rd : Nat) (mt : Nat) (dr : Nat) (j7 : Nat) (j8 : Nat) (tt : Nat) (wl : Bool) (j9 : Nat) (lm : Nat) (hs : Int64) (T : Nat → Bool) (q : Nat → Nat) (nr : Nat) (r : Nat) (z1 : Int32) (hn : nr ≤ 6) (hr : r < nr) (hz : z1 < nI 0 ∨ nI 2 < z1) : gM l D ty yX8_without cX8_without 3 (some (FieldType.int : FieldType)) r_X8_without_x2 0 0 [.ref x0, .int (nI r), .int (z1)] [(x0, .inr (6, [.int (nI th), .ref i1, .ref i2, .int (nI sd), .ref i3, .int (nI ln), .ref j1, .ref j2, .ref j3, .ref j4, .ref j5, .ref j6, .int (nI fm), .int (nI rd), .int (nI mt), .int (nI dr), .ref j7, .ref j8, .int (nI tt), .int (bI (wl)), .ref j9, .int (nI lm), .long (hs)])), (i1, .inl (ty 0, 275, .inl (eR (sM T q nr))))] (fun (zr : Option Value) (zW : va_W) => zr = some (.int (nI 0)) ∧ zW = [(x0, .inr (6, [.int (nI 2), .ref i1, .ref i2, .int (nI sd), .ref i3, .int (nI ln), .ref j1, .ref j2, .ref j3, .ref j4, .ref j5, .ref j6, .int (nI fm), .int (nI rd), .int (nI mt), .int (nI dr), .ref j7, .ref j8, .int (nI tt), .int (bI (wl)), .ref j9, .int (nI lm), .long (hs)])), (i1, .inl (ty 0, 275, .inl (eR (sM T q nr))))]) := by
  refine gM_of RX8 rfl (by decide +kernel) (Nat.le_of_ble_eq_true rfl) ?_
  intro pg en s0 mi ag bl mth cd AA HH QQ C E hnm
  show gW pg l en r_X8_without_x2 s0 mi ag bl mth cd 3 D AA HH QQ 0 [(0, .ref x0), (1, .int (nI r)), (2, .int (z1))] [] [(x0, .inr (6, [.int (nI th), .ref i1, .ref i2, .int (nI sd), .ref i3, .int (nI ln), .ref j1, .ref j2, .ref j3, .ref j4, .ref j5, .ref j6, .int (nI fm), .int (nI rd), .int (nI mt), .int (nI dr), .ref j7, .ref j8, .int (nI tt), .int (bI (wl)), .ref j9, .int (nI lm), .long (hs)])), (i1, .inl (ty 0, 275, .inl (eR (sM T q nr))))] 0 0
  refine g_aload_n C 0 rfl dX8_without_0 ?_
  refine g_iconst C (nI 0) ic_0 dX8_without_1 ?_
  refine g_putf C wu_X8 tyX8 tyX8_ok nmX8 0 rfl rfl 0 (by decide) wf_X8_47 rfl rfl rfl rfl (Nat.le_of_ble_eq_true rfl) dX8_without_2 [(x0, .inr (6, [.int (nI 0), .ref i1, .ref i2, .int (nI sd), .ref i3, .int (nI ln), .ref j1, .ref j2, .ref j3, .ref j4, .ref j5, .ref j6, .int (nI fm), .int (nI rd), .int (nI mt), .int (nI dr), .ref j7, .ref j8, .int (nI tt), .int (bI (wl)), .ref j9, .int (nI lm), .long (hs)])), (i1, .inl (ty 0, 275, .inl (eR (sM T q nr))))] rfl ?_
  refine g_iload_n C 1 rfl dX8_without_5 ?_
  refine g_iconst C (nI 0) ic_0 dX8_without_6 ?_
  refine g_aload_n C 0 rfl dX8_without_7 ?_
  refine g_getf C wu_X8 0 rfl rfl 1 (by decide) wf_X8_7 rfl rfl dX8_without_8 ?_
  refine g_sipush C (nI 256) sp_256 dX8_without_11 ?_
  refine g_iald C 1 rfl 256 rfl (by omega) (by decide) (nI nr) (sM_n (by omega)) dX8_without_14 ?_
  refine g_iconst C (nI 1) ic_1 dX8_without_15 ?_
  refine g_isub C (nI (nr - 1)) dX8_without_16 (pk_sub (by omega)) ?_
  refine g_callS0 C (nA := 3) (k_X8_in l D ty ((nI r)) ((nI 0)) ((nI (nr - 1))) ) wm_X8_54 ws_X8_in wi_X8 wc_X8_in rfl (by decide +kernel) ⟨(Nat.le_of_ble_eq_true rfl), (Nat.le_of_ble_eq_true rfl)⟩ ⟨rfl, rfl⟩ dX8_without_17 (fun _ _ h => h.2) (Nat.le_of_ble_eq_true rfl) rfl ⟨Nat.zero_le _, Nat.zero_le _⟩ (fun r hp => ?_)
  obtain ⟨rfl, -⟩ := hp
  refine g_st [.int (bI (inI ((nI r)) ((nI 0)) ((nI (nr - 1)))))] rfl ?_
  refine g_if_neB C (inI ((nI r)) ((nI 0)) ((nI (nr - 1)))) 29 rfl dX8_without_20 rfl (fun c20 => ?_) (fun c20 => ?_)
  · skip
    refine g_iload_n C 2 rfl dX8_without_29 ?_
    refine g_iconst C (nI 0) ic_0 dX8_without_30 ?_
    refine g_iconst C (nI 2) ic_2 dX8_without_31 ?_
    refine g_callS0 C (nA := 3) (k_X8_in l D ty z1 ((nI 0)) ((nI 2)) ) wm_X8_54 ws_X8_in wi_X8 wc_X8_in rfl (by decide +kernel) ⟨(Nat.le_of_ble_eq_true rfl), (Nat.le_of_ble_eq_true rfl)⟩ ⟨rfl, rfl⟩ dX8_without_32 (fun _ _ h => h.2) (Nat.le_of_ble_eq_true rfl) rfl ⟨Nat.zero_le _, Nat.zero_le _⟩ (fun r hp => ?_)
    obtain ⟨rfl, -⟩ := hp
    refine g_st [.int (bI (inI z1 ((nI 0)) ((nI 2))))] rfl ?_
    refine g_if_eqB C (inI z1 ((nI 0)) ((nI 2))) 47 rfl dX8_without_35 rfl (fun c35 => ?_) (fun c35 => ?_)
    · skip
      refine g_aload_n C 0 rfl dX8_without_47 ?_
      refine g_iconst C (nI 2) ic_2 dX8_without_48 ?_
      refine g_callV C (nA := 1) (ci := 6) (q0 := 0) (As := [.int (nI 2)]) (wr := [(i1, .inl (ty 0, 275, .inl (eR (sM T q nr))))]) (k_X8_fails l D ty x0 0 i1 i2 sd i3 ln j1 j2 j3 j4 j5 j6 fm rd mt dr j7 j8 tt wl j9 lm hs 2 ) wm_X8_131 wn_X8_fails wv_X8_fails wi_X8 wc_X8_fails rfl (by decide +kernel) ⟨(Nat.le_of_ble_eq_true rfl), (Nat.le_of_ble_eq_true rfl)⟩ ⟨rfl, rfl⟩ dX8_without_49 ⟨Nat.zero_le _, Nat.zero_le _⟩ rfl rfl rfl [0] [1] rfl rfl rfl rfl (by decide) (Nat.le_of_ble_eq_true rfl) rfl (fun r W1 hp => ?_)
      obtain ⟨rfl, rfl⟩ := hp
      refine g_fix [.int (nI 0)] [(x0, .inr (6, [.int (nI 2), .ref i1, .ref i2, .int (nI sd), .ref i3, .int (nI ln), .ref j1, .ref j2, .ref j3, .ref j4, .ref j5, .ref j6, .int (nI fm), .int (nI rd), .int (nI mt), .int (nI dr), .ref j7, .ref j8, .int (nI tt), .int (bI (wl)), .ref j9, .int (nI lm), .long (hs)])), (i1, .inl (ty 0, 275, .inl (eR (sM T q nr))))] [1, 0] rfl rfl rfl ?_
      exact g_iret E dX8_without_52 (by decide) (by decide) ⟨rfl, rfl⟩
    · skip
      exact absurd c35 (by rw [inI_f (hz)]; decide)
  · skip
    exact absurd c20 (by rw [inI_t (by omega) (by omega) (by omega)]; decide)
def r_X8_settle_ok : Room := { frames := 9, cells := 0, slots := 0, locals := 207 }
set_option maxRecDepth 100000 in
set_option maxHeartbeats 4000000 in
theorem k_X8_settle_ok (l : Launch) (D : va_G) (ty : Nat → ClassId) (x0 : Nat) (th : Nat) (i1 : Nat) (i2 : Nat) (sd : Nat) (i3 : Nat) (ln : Nat) (j1 : Nat) (j2 : Nat) (j3 : Nat) (j4 : Nat) (j5 : Nat) (j6 : Nat) (fm : Nat) (j7 : Nat) (j8 : Nat) (tt : Nat) (wl : Bool) (j9 : Nat) (lm : Nat) (hs : Int64) (T : Nat → Bool) (q : Nat → Nat) (nr : Nat) (Z : ZT) (U0 : Nat → Bool) (nb : Nat → Int32) (S0 : Nat → Int32) (C0 : Nat → Int32) (R : Nat → Int32) (V : Nat → LT) (hq : okQ q nr) (hT : okF T) (hsd : sd ≤ 6) (hR : okR V sd R) (h12 : zcnt (zF (fn0 q nr T)) 256 ≤ 12) : gM l D ty yX8_settle cX8_settle 2 (some (FieldType.int : FieldType)) r_X8_settle_ok 0 0 [.ref x0] [(x0, .inr (6, [.int (nI th), .ref i1, .ref i2, .int (nI sd), .ref i3, .int (nI ln), .ref j1, .ref j2, .ref j3, .ref j4, .ref j5, .ref j6, .int (nI fm), .int (nI (zRd Z)), .int (nI (zMt Z)), .int (nI (zDr Z)), .ref j7, .ref j8, .int (nI tt), .int (bI (wl)), .ref j9, .int (nI lm), .long (hs)])), (i1, .inl (ty 0, 275, .inl (eR (sM T q nr)))), (j1, .inl (ty 2, 256, .inl (zB (zF Z)))), (j2, .inl (ty 0, 256, .inl (zRo Z))), (j3, .inl (ty 0, 256, .inl (zRu Z))), (j4, .inl (ty 2, 256, .inl (zB U0))), (j5, .inl (ty 0, 256, .inl (nb))), (j6, .inl (ty 0, 300, .inl (zSz Z))), (j7, .inl (ty 0, 8, .inl (S0))), (j8, .inl (ty 0, 8, .inl (C0))), (i2, .inl (ty 0, 1650, .inl (R)))] (fun (zr : Option Value) (zW : va_W) => ∃ (Z9 : ZT) (fm9 : Nat) (U9 : Nat → Bool) (N9 : Nat → Int32) (S9 : Nat → Int32) (C9 : Nat → Int32) (R9 : Nat → Int32), okR (svV V sd (T, q, nr)) (svC sd) R9 ∧ zr = some (.int (nI (zcnt (zF (fn0 q nr T)) 256))) ∧ zW = [(x0, .inr (6, [.int (nI 0), .ref i1, .ref i2, .int (nI (svC sd)), .ref i3, .int (nI ln), .ref j1, .ref j2, .ref j3, .ref j4, .ref j5, .ref j6, .int (nI fm9), .int (nI (zRd Z9)), .int (nI (zMt Z9)), .int (nI (zDr Z9)), .ref j7, .ref j8, .int (nI tt), .int (bI (wl)), .ref j9, .int (nI lm), .long (hs)])), (i1, .inl (ty 0, 275, .inl (eR (sM (zF (fn0 q nr T)) q nr)))), (j1, .inl (ty 2, 256, .inl (zB (zF Z9)))), (j2, .inl (ty 0, 256, .inl (zRo Z9))), (j3, .inl (ty 0, 256, .inl (zRu Z9))), (j4, .inl (ty 2, 256, .inl (zB U9))), (j5, .inl (ty 0, 256, .inl (N9))), (j6, .inl (ty 0, 300, .inl (zSz Z9))), (j7, .inl (ty 0, 8, .inl (S9))), (j8, .inl (ty 0, 8, .inl (C9))), (i2, .inl (ty 0, 1650, .inl (R9)))]) := by
  refine gM_of RX8 rfl (by decide +kernel) (Nat.le_of_ble_eq_true rfl) ?_
  intro pg en s0 mi ag bl mth cd AA HH QQ C E hnm
  show gW pg l en r_X8_settle_ok s0 mi ag bl mth cd 2 D AA HH QQ 0 [(0, .ref x0)] [] [(x0, .inr (6, [.int (nI th), .ref i1, .ref i2, .int (nI sd), .ref i3, .int (nI ln), .ref j1, .ref j2, .ref j3, .ref j4, .ref j5, .ref j6, .int (nI fm), .int (nI (zRd Z)), .int (nI (zMt Z)), .int (nI (zDr Z)), .ref j7, .ref j8, .int (nI tt), .int (bI (wl)), .ref j9, .int (nI lm), .long (hs)])), (i1, .inl (ty 0, 275, .inl (eR (sM T q nr)))), (j1, .inl (ty 2, 256, .inl (zB (zF Z)))), (j2, .inl (ty 0, 256, .inl (zRo Z))), (j3, .inl (ty 0, 256, .inl (zRu Z))), (j4, .inl (ty 2, 256, .inl (zB U0))), (j5, .inl (ty 0, 256, .inl (nb))), (j6, .inl (ty 0, 300, .inl (zSz Z))), (j7, .inl (ty 0, 8, .inl (S0))), (j8, .inl (ty 0, 8, .inl (C0))), (i2, .inl (ty 0, 1650, .inl (R)))] 0 0
  refine g_aload_n C 0 rfl dX8_settle_0 ?_
  refine g_iconst C (nI 0) ic_0 dX8_settle_1 ?_
  refine g_putf C wu_X8 tyX8 tyX8_ok nmX8 0 rfl rfl 0 (by decide) wf_X8_47 rfl rfl rfl rfl (Nat.le_of_ble_eq_true rfl) dX8_settle_2 [(x0, .inr (6, [.int (nI 0), .ref i1, .ref i2, .int (nI sd), .ref i3, .int (nI ln), .ref j1, .ref j2, .ref j3, .ref j4, .ref j5, .ref j6, .int (nI fm), .int (nI (zRd Z)), .int (nI (zMt Z)), .int (nI (zDr Z)), .ref j7, .ref j8, .int (nI tt), .int (bI (wl)), .ref j9, .int (nI lm), .long (hs)])), (i1, .inl (ty 0, 275, .inl (eR (sM T q nr)))), (j1, .inl (ty 2, 256, .inl (zB (zF Z)))), (j2, .inl (ty 0, 256, .inl (zRo Z))), (j3, .inl (ty 0, 256, .inl (zRu Z))), (j4, .inl (ty 2, 256, .inl (zB U0))), (j5, .inl (ty 0, 256, .inl (nb))), (j6, .inl (ty 0, 300, .inl (zSz Z))), (j7, .inl (ty 0, 8, .inl (S0))), (j8, .inl (ty 0, 8, .inl (C0))), (i2, .inl (ty 0, 1650, .inl (R)))] rfl ?_
  refine g_aload_n C 0 rfl dX8_settle_5 ?_
  refine g_callV C (nA := 0) (ci := 6) (q0 := 0) (As := []) (wr := [(i2, .inl (ty 0, 1650, .inl (R)))]) (k_X8_searchesAll l D ty x0 0 i1 i2 sd i3 ln j1 j2 j3 j4 j5 j6 fm j7 j8 tt wl j9 lm hs T q nr Z U0 nb S0 C0 hq hT) wm_X8_148 wn_X8_searchesAll wv_X8_searchesAll wi_X8 wc_X8_searchesAll rfl (by decide +kernel) ⟨(Nat.le_of_ble_eq_true rfl), (Nat.le_of_ble_eq_true rfl)⟩ ⟨rfl, rfl⟩ dX8_settle_6 ⟨Nat.zero_le _, Nat.zero_le _⟩ rfl rfl rfl [0, 1, 2, 3, 4, 5, 6, 7, 8, 9] [10] rfl rfl rfl rfl (by decide) (Nat.le_of_ble_eq_true rfl) rfl (fun r W1 hp => ?_)
  obtain ⟨U1, N1, S1, C1, rfl, rfl⟩ := hp
  refine g_fix [] [(x0, .inr (6, [.int (nI 0), .ref i1, .ref i2, .int (nI sd), .ref i3, .int (nI ln), .ref j1, .ref j2, .ref j3, .ref j4, .ref j5, .ref j6, .int (nI (zcnt (zF (fnd q nr T (zSz Z))) 256)), .int (nI (zRd ((fnd q nr T (zSz Z))))), .int (nI (zMt ((fnd q nr T (zSz Z))))), .int (nI (zDr ((fnd q nr T (zSz Z))))), .ref j7, .ref j8, .int (nI tt), .int (bI (wl)), .ref j9, .int (nI lm), .long (hs)])), (i1, .inl (ty 0, 275, .inl (eR (sM T q nr)))), (j1, .inl (ty 2, 256, .inl (zB (zF ((fnd q nr T (zSz Z))))))), (j2, .inl (ty 0, 256, .inl (zRo ((fnd q nr T (zSz Z)))))), (j3, .inl (ty 0, 256, .inl (zRu ((fnd q nr T (zSz Z)))))), (j4, .inl (ty 2, 256, .inl (zB U1))), (j5, .inl (ty 0, 256, .inl (N1))), (j6, .inl (ty 0, 300, .inl (zSz ((fnd q nr T (zSz Z)))))), (j7, .inl (ty 0, 8, .inl (S1))), (j8, .inl (ty 0, 8, .inl (C1))), (i2, .inl (ty 0, 1650, .inl (R)))] [1, 2, 3, 4, 5, 6, 7, 8, 9, 10, 0] rfl rfl rfl ?_
  have hFA := fnd_F q nr T (zSz Z)
  have hzA := zcnt_le (zF (fnd q nr T (zSz Z))) 256
  have hsF : eR (sM (tmx (zF (fnd q nr T (zSz Z))) T 256) q nr) = eR (sM (zF (fn0 q nr T)) q nr) := (sM_m9 _ _ _ _).trans (by rw [hFA])
  refine g_aload_n C 0 rfl dX8_settle_9 ?_
  refine g_getf C wu_X8 0 rfl rfl 12 (by decide) wf_X8_86 rfl rfl dX8_settle_10 ?_
  refine g_bipush C (nI 12) bp_12 dX8_settle_13 ?_
  refine g_icmp_leN C (zcnt (zF (fnd q nr T (zSz Z))) 256) 12 24 rfl rfl (by omega) (by omega) dX8_settle_15 rfl (fun c15 => ?_) (fun c15 => ?_)
  · skip
    refine g_aload_n C 0 rfl dX8_settle_24 ?_
    refine g_callV C (nA := 0) (ci := 6) (q0 := 0) (As := []) (wr := [(j1, .inl (ty 2, 256, .inl (zB (zF ((fnd q nr T (zSz Z))))))), (j2, .inl (ty 0, 256, .inl (zRo ((fnd q nr T (zSz Z)))))), (j3, .inl (ty 0, 256, .inl (zRu ((fnd q nr T (zSz Z)))))), (j4, .inl (ty 2, 256, .inl (zB U1))), (j5, .inl (ty 0, 256, .inl (N1))), (j6, .inl (ty 0, 300, .inl (zSz ((fnd q nr T (zSz Z)))))), (j7, .inl (ty 0, 8, .inl (S1))), (j8, .inl (ty 0, 8, .inl (C1)))]) (k_X8_saves l D ty x0 0 i1 i2 sd i3 ln j1 j2 j3 j4 j5 j6 (zcnt (zF (fnd q nr T (zSz Z))) 256) (zRd (fnd q nr T (zSz Z))) (zMt (fnd q nr T (zSz Z))) (zDr (fnd q nr T (zSz Z))) j7 j8 tt wl j9 lm hs T q nr R V hsd hR) wm_X8_138 wn_X8_saves wv_X8_saves wi_X8 wc_X8_saves rfl (by decide +kernel) ⟨(Nat.le_of_ble_eq_true rfl), (Nat.le_of_ble_eq_true rfl)⟩ ⟨rfl, rfl⟩ dX8_settle_25 ⟨Nat.zero_le _, Nat.zero_le _⟩ rfl rfl rfl [0, 1, 10] [2, 3, 4, 5, 6, 7, 8, 9] rfl rfl rfl rfl (by decide) (Nat.le_of_ble_eq_true rfl) rfl (fun r W1 hp => ?_)
    obtain ⟨R5, hR5, rfl, rfl⟩ := hp
    refine g_fix [] [(x0, .inr (6, [.int (nI 0), .ref i1, .ref i2, .int (nI (svC sd)), .ref i3, .int (nI ln), .ref j1, .ref j2, .ref j3, .ref j4, .ref j5, .ref j6, .int (nI ((zcnt (zF (fnd q nr T (zSz Z))) 256))), .int (nI ((zRd (fnd q nr T (zSz Z))))), .int (nI ((zMt (fnd q nr T (zSz Z))))), .int (nI ((zDr (fnd q nr T (zSz Z))))), .ref j7, .ref j8, .int (nI tt), .int (bI (wl)), .ref j9, .int (nI lm), .long (hs)])), (i1, .inl (ty 0, 275, .inl (eR (sM T q nr)))), (j1, .inl (ty 2, 256, .inl (zB (zF ((fnd q nr T (zSz Z))))))), (j2, .inl (ty 0, 256, .inl (zRo ((fnd q nr T (zSz Z)))))), (j3, .inl (ty 0, 256, .inl (zRu ((fnd q nr T (zSz Z)))))), (j4, .inl (ty 2, 256, .inl (zB U1))), (j5, .inl (ty 0, 256, .inl (N1))), (j6, .inl (ty 0, 300, .inl (zSz ((fnd q nr T (zSz Z)))))), (j7, .inl (ty 0, 8, .inl (S1))), (j8, .inl (ty 0, 8, .inl (C1))), (i2, .inl (ty 0, 1650, .inl (R5)))] [8, 9, 0, 1, 2, 3, 4, 5, 6, 7, 10] rfl rfl rfl ?_
    refine g_iconst C (nI 0) ic_0 dX8_settle_28 ?_
    refine g_istore_n C [(1, .int (nI 0)), (0, .ref x0)] dX8_settle_29 rfl (by decide) rfl ?_
    refine g_lo [1, 0] [(0, .ref x0), (1, .int (nI 0))] rfl ?_
    refine g_ws [(x0, .inr (6, [.int (nI 0), .ref i1, .ref i2, .int (nI (svC sd)), .ref i3, .int (nI ln), .ref j1, .ref j2, .ref j3, .ref j4, .ref j5, .ref j6, .int (nI ((zcnt (zF (fnd q nr T (zSz Z))) 256))), .int (nI ((zRd (fnd q nr T (zSz Z))))), .int (nI ((zMt (fnd q nr T (zSz Z))))), .int (nI ((zDr (fnd q nr T (zSz Z))))), .ref j7, .ref j8, .int (nI tt), .int (bI (wl)), .ref j9, .int (nI lm), .long (hs)])), (i1, .inl (ty 0, 275, .inl (eR (sM (tmx (zF (fnd q nr T (zSz Z))) T 0) q nr)))), (j1, .inl (ty 2, 256, .inl (zB (zF ((fnd q nr T (zSz Z))))))), (j2, .inl (ty 0, 256, .inl (zRo ((fnd q nr T (zSz Z)))))), (j3, .inl (ty 0, 256, .inl (zRu ((fnd q nr T (zSz Z)))))), (j4, .inl (ty 2, 256, .inl (zB U1))), (j5, .inl (ty 0, 256, .inl (N1))), (j6, .inl (ty 0, 300, .inl (zSz ((fnd q nr T (zSz Z)))))), (j7, .inl (ty 0, 8, .inl (S1))), (j8, .inl (ty 0, 8, .inl (C1))), (i2, .inl (ty 0, 1650, .inl (R5)))] (by rw [sM_m0]) ?_
    have L30 : ∀ (fu30 : Nat) (i : Nat) (hi : i ≤ 256), (256 - i) < fu30 → gW pg l en r_X8_settle_ok s0 mi ag bl mth cd 2 D AA HH QQ 30 [(0, .ref x0), (1, .int (nI i))] [] [(x0, .inr (6, [.int (nI 0), .ref i1, .ref i2, .int (nI (svC sd)), .ref i3, .int (nI ln), .ref j1, .ref j2, .ref j3, .ref j4, .ref j5, .ref j6, .int (nI (zcnt (zF (fnd q nr T (zSz Z))) 256)), .int (nI (zRd ((fnd q nr T (zSz Z))))), .int (nI (zMt ((fnd q nr T (zSz Z))))), .int (nI (zDr ((fnd q nr T (zSz Z))))), .ref j7, .ref j8, .int (nI tt), .int (bI (wl)), .ref j9, .int (nI lm), .long (hs)])), (i1, .inl (ty 0, 275, .inl (eR (sM (tmx (zF (fnd q nr T (zSz Z))) T i) q nr)))), (j1, .inl (ty 2, 256, .inl (zB (zF ((fnd q nr T (zSz Z))))))), (j2, .inl (ty 0, 256, .inl (zRo ((fnd q nr T (zSz Z)))))), (j3, .inl (ty 0, 256, .inl (zRu ((fnd q nr T (zSz Z)))))), (j4, .inl (ty 2, 256, .inl (zB U1))), (j5, .inl (ty 0, 256, .inl (N1))), (j6, .inl (ty 0, 300, .inl (zSz ((fnd q nr T (zSz Z)))))), (j7, .inl (ty 0, 8, .inl (S1))), (j8, .inl (ty 0, 8, .inl (C1))), (i2, .inl (ty 0, 1650, .inl (R5)))] 0 0 := by
      intro fu30
      induction fu30 with
      | zero => intro i hi hfu; exact absurd hfu (Nat.not_lt_zero _)
      | succ fu30 ih30 =>
        intro i hi hfu30
        refine g_iload_n C 1 rfl dX8_settle_30 ?_
        refine g_sipush C (nI 256) sp_256 dX8_settle_31 ?_
        refine g_icmp_geN C i 256 63 rfl rfl (by omega) (by omega) dX8_settle_34 rfl (fun c34 => ?_) (fun c34 => ?_)
        · skip
          refine g_ws [(x0, .inr (6, [.int (nI 0), .ref i1, .ref i2, .int (nI (svC sd)), .ref i3, .int (nI ln), .ref j1, .ref j2, .ref j3, .ref j4, .ref j5, .ref j6, .int (nI (zcnt (zF (fnd q nr T (zSz Z))) 256)), .int (nI (zRd ((fnd q nr T (zSz Z))))), .int (nI (zMt ((fnd q nr T (zSz Z))))), .int (nI (zDr ((fnd q nr T (zSz Z))))), .ref j7, .ref j8, .int (nI tt), .int (bI (wl)), .ref j9, .int (nI lm), .long (hs)])), (i1, .inl (ty 0, 275, .inl (eR (sM (zF (fn0 q nr T)) q nr)))), (j1, .inl (ty 2, 256, .inl (zB (zF ((fnd q nr T (zSz Z))))))), (j2, .inl (ty 0, 256, .inl (zRo ((fnd q nr T (zSz Z)))))), (j3, .inl (ty 0, 256, .inl (zRu ((fnd q nr T (zSz Z)))))), (j4, .inl (ty 2, 256, .inl (zB U1))), (j5, .inl (ty 0, 256, .inl (N1))), (j6, .inl (ty 0, 300, .inl (zSz ((fnd q nr T (zSz Z)))))), (j7, .inl (ty 0, 8, .inl (S1))), (j8, .inl (ty 0, 8, .inl (C1))), (i2, .inl (ty 0, 1650, .inl (R5)))] (by rw [show i = 256 by omega, hsF]) ?_
          refine g_aload_n C 0 rfl dX8_settle_63 ?_
          refine g_getf C wu_X8 0 rfl rfl 12 (by decide) wf_X8_86 rfl rfl dX8_settle_64 ?_
          exact g_iret E dX8_settle_67 (by decide) (by decide) ⟨(fnd q nr T (zSz Z)), (zcnt (zF (fnd q nr T (zSz Z))) 256), U1, N1, S1, C1, R5, hR5, (congrArg (fun z => some (Value.int (nI z))) (by rw [hFA])), rfl⟩
        · skip
          refine g_aload_n C 0 rfl dX8_settle_37 ?_
          refine g_getf C wu_X8 0 rfl rfl 1 (by decide) wf_X8_7 rfl rfl dX8_settle_38 ?_
          refine g_iload_n C 1 rfl dX8_settle_41 ?_
          refine g_aload_n C 0 rfl dX8_settle_42 ?_
          refine g_getf C wu_X8 0 rfl rfl 6 (by decide) wf_X8_19 rfl rfl dX8_settle_43 ?_
          refine g_iload_n C 1 rfl dX8_settle_46 ?_
          refine g_zald C 2 rfl i rfl (by omega) (by decide) (bI ((zF ((fnd q nr T (zSz Z)))) i)) rfl dX8_settle_47 ?_
          refine g_if_eqB C ((zF ((fnd q nr T (zSz Z)))) i) 55 rfl dX8_settle_48 rfl (fun c48 => ?_) (fun c48 => ?_)
          · skip
            refine g_iconst C (nI 0) ic_0 dX8_settle_55 ?_
            refine g_st [.int (nI (if zF (fnd q nr T (zSz Z)) i = true then 1 else 0)), .int (nI i), .ref i1] (by rw [c48]; rfl) ?_
            refine g_iast C 1 rfl i rfl (by omega) (by decide) dX8_settle_56 (eR (sM (tmx (zF (fnd q nr T (zSz Z))) T (i + 1)) q nr)) (sM_mx _ _ _ _ (by omega)) [(x0, .inr (6, [.int (nI 0), .ref i1, .ref i2, .int (nI (svC sd)), .ref i3, .int (nI ln), .ref j1, .ref j2, .ref j3, .ref j4, .ref j5, .ref j6, .int (nI (zcnt (zF (fnd q nr T (zSz Z))) 256)), .int (nI (zRd ((fnd q nr T (zSz Z))))), .int (nI (zMt ((fnd q nr T (zSz Z))))), .int (nI (zDr ((fnd q nr T (zSz Z))))), .ref j7, .ref j8, .int (nI tt), .int (bI (wl)), .ref j9, .int (nI lm), .long (hs)])), (i1, .inl (ty 0, 275, .inl (eR (sM (tmx (zF (fnd q nr T (zSz Z))) T (i + 1)) q nr)))), (j1, .inl (ty 2, 256, .inl (zB (zF ((fnd q nr T (zSz Z))))))), (j2, .inl (ty 0, 256, .inl (zRo ((fnd q nr T (zSz Z)))))), (j3, .inl (ty 0, 256, .inl (zRu ((fnd q nr T (zSz Z)))))), (j4, .inl (ty 2, 256, .inl (zB U1))), (j5, .inl (ty 0, 256, .inl (N1))), (j6, .inl (ty 0, 300, .inl (zSz ((fnd q nr T (zSz Z)))))), (j7, .inl (ty 0, 8, .inl (S1))), (j8, .inl (ty 0, 8, .inl (C1))), (i2, .inl (ty 0, 1650, .inl (R5)))] rfl ?_
            refine g_iinc C (nI (i + 1)) [(1, .int (nI (i + 1))), (0, .ref x0)] 1 dX8_settle_57 rfl (ii_1 _) (by decide) rfl ?_
            refine g_goto C 30 dX8_settle_60 rfl ?_
            refine g_lo [1, 0] [(0, .ref x0), (1, .int (nI (i + 1)))] rfl ?_
            exact ih30 (i + 1) (by omega) (by omega)
          · skip
            refine g_iconst C (nI 1) ic_1 dX8_settle_51 ?_
            refine g_goto C 56 dX8_settle_52 rfl ?_
            refine g_st [.int (nI (if zF (fnd q nr T (zSz Z)) i = true then 1 else 0)), .int (nI i), .ref i1] (by rw [c48]; rfl) ?_
            refine g_iast C 1 rfl i rfl (by omega) (by decide) dX8_settle_56 (eR (sM (tmx (zF (fnd q nr T (zSz Z))) T (i + 1)) q nr)) (sM_mx _ _ _ _ (by omega)) [(x0, .inr (6, [.int (nI 0), .ref i1, .ref i2, .int (nI (svC sd)), .ref i3, .int (nI ln), .ref j1, .ref j2, .ref j3, .ref j4, .ref j5, .ref j6, .int (nI (zcnt (zF (fnd q nr T (zSz Z))) 256)), .int (nI (zRd ((fnd q nr T (zSz Z))))), .int (nI (zMt ((fnd q nr T (zSz Z))))), .int (nI (zDr ((fnd q nr T (zSz Z))))), .ref j7, .ref j8, .int (nI tt), .int (bI (wl)), .ref j9, .int (nI lm), .long (hs)])), (i1, .inl (ty 0, 275, .inl (eR (sM (tmx (zF (fnd q nr T (zSz Z))) T (i + 1)) q nr)))), (j1, .inl (ty 2, 256, .inl (zB (zF ((fnd q nr T (zSz Z))))))), (j2, .inl (ty 0, 256, .inl (zRo ((fnd q nr T (zSz Z)))))), (j3, .inl (ty 0, 256, .inl (zRu ((fnd q nr T (zSz Z)))))), (j4, .inl (ty 2, 256, .inl (zB U1))), (j5, .inl (ty 0, 256, .inl (N1))), (j6, .inl (ty 0, 300, .inl (zSz ((fnd q nr T (zSz Z)))))), (j7, .inl (ty 0, 8, .inl (S1))), (j8, .inl (ty 0, 8, .inl (C1))), (i2, .inl (ty 0, 1650, .inl (R5)))] rfl ?_
            refine g_iinc C (nI (i + 1)) [(1, .int (nI (i + 1))), (0, .ref x0)] 1 dX8_settle_57 rfl (ii_1 _) (by decide) rfl ?_
            refine g_goto C 30 dX8_settle_60 rfl ?_
            refine g_lo [1, 0] [(0, .ref x0), (1, .int (nI (i + 1)))] rfl ?_
            exact ih30 (i + 1) (by omega) (by omega)
    exact L30 (256 - 0 + 1) 0 (by omega) (Nat.lt_succ_self _)
  · skip
    exact absurd h12 (by rw [← hFA]; omega)
def r_X8_settle_x1 : Room := { frames := 9, cells := 0, slots := 0, locals := 207 }
set_option maxRecDepth 100000 in
set_option maxHeartbeats 4000000 in
theorem k_X8_settle_x1 (l : Launch) (D : va_G) (ty : Nat → ClassId) (x0 : Nat) (th : Nat) (i1 : Nat) (i2 : Nat) (sd : Nat) (i3 : Nat) (ln : Nat) (j1 : Nat) (j2 : Nat) (j3 : Nat) (j4 : Nat) (j5 : Nat) (j6 : Nat) (fm : Nat) (j7 : Nat) (j8 : Nat) (tt : Nat) (wl : Bool) (j9 : Nat) (lm : Nat) (hs : Int64) (T : Nat → Bool) (q : Nat → Nat) (nr : Nat) (Z : ZT) (U0 : Nat → Bool) (nb : Nat → Int32) (S0 : Nat → Int32) (C0 : Nat → Int32) (hq : okQ q nr) (hT : okF T) (h12 : 12 < zcnt (zF (fn0 q nr T)) 256) : gM l D ty yX8_settle cX8_settle 2 (some (FieldType.int : FieldType)) r_X8_settle_x1 0 0 [.ref x0] [(x0, .inr (6, [.int (nI th), .ref i1, .ref i2, .int (nI sd), .ref i3, .int (nI ln), .ref j1, .ref j2, .ref j3, .ref j4, .ref j5, .ref j6, .int (nI fm), .int (nI (zRd Z)), .int (nI (zMt Z)), .int (nI (zDr Z)), .ref j7, .ref j8, .int (nI tt), .int (bI (wl)), .ref j9, .int (nI lm), .long (hs)])), (i1, .inl (ty 0, 275, .inl (eR (sM T q nr)))), (j1, .inl (ty 2, 256, .inl (zB (zF Z)))), (j2, .inl (ty 0, 256, .inl (zRo Z))), (j3, .inl (ty 0, 256, .inl (zRu Z))), (j4, .inl (ty 2, 256, .inl (zB U0))), (j5, .inl (ty 0, 256, .inl (nb))), (j6, .inl (ty 0, 300, .inl (zSz Z))), (j7, .inl (ty 0, 8, .inl (S0))), (j8, .inl (ty 0, 8, .inl (C0)))] (fun (zr : Option Value) (zW : va_W) => ∃ (Z9 : ZT) (fm9 : Nat) (U9 : Nat → Bool) (N9 : Nat → Int32) (S9 : Nat → Int32) (C9 : Nat → Int32), zr = some (.int (nI 0)) ∧ zW = [(x0, .inr (6, [.int (nI 1), .ref i1, .ref i2, .int (nI sd), .ref i3, .int (nI ln), .ref j1, .ref j2, .ref j3, .ref j4, .ref j5, .ref j6, .int (nI fm9), .int (nI (zRd Z9)), .int (nI (zMt Z9)), .int (nI (zDr Z9)), .ref j7, .ref j8, .int (nI tt), .int (bI (wl)), .ref j9, .int (nI lm), .long (hs)])), (i1, .inl (ty 0, 275, .inl (eR (sM T q nr)))), (j1, .inl (ty 2, 256, .inl (zB (zF Z9)))), (j2, .inl (ty 0, 256, .inl (zRo Z9))), (j3, .inl (ty 0, 256, .inl (zRu Z9))), (j4, .inl (ty 2, 256, .inl (zB U9))), (j5, .inl (ty 0, 256, .inl (N9))), (j6, .inl (ty 0, 300, .inl (zSz Z9))), (j7, .inl (ty 0, 8, .inl (S9))), (j8, .inl (ty 0, 8, .inl (C9)))]) := by
  refine gM_of RX8 rfl (by decide +kernel) (Nat.le_of_ble_eq_true rfl) ?_
  intro pg en s0 mi ag bl mth cd AA HH QQ C E hnm
  show gW pg l en r_X8_settle_x1 s0 mi ag bl mth cd 2 D AA HH QQ 0 [(0, .ref x0)] [] [(x0, .inr (6, [.int (nI th), .ref i1, .ref i2, .int (nI sd), .ref i3, .int (nI ln), .ref j1, .ref j2, .ref j3, .ref j4, .ref j5, .ref j6, .int (nI fm), .int (nI (zRd Z)), .int (nI (zMt Z)), .int (nI (zDr Z)), .ref j7, .ref j8, .int (nI tt), .int (bI (wl)), .ref j9, .int (nI lm), .long (hs)])), (i1, .inl (ty 0, 275, .inl (eR (sM T q nr)))), (j1, .inl (ty 2, 256, .inl (zB (zF Z)))), (j2, .inl (ty 0, 256, .inl (zRo Z))), (j3, .inl (ty 0, 256, .inl (zRu Z))), (j4, .inl (ty 2, 256, .inl (zB U0))), (j5, .inl (ty 0, 256, .inl (nb))), (j6, .inl (ty 0, 300, .inl (zSz Z))), (j7, .inl (ty 0, 8, .inl (S0))), (j8, .inl (ty 0, 8, .inl (C0)))] 0 0
  refine g_aload_n C 0 rfl dX8_settle_0 ?_
  refine g_iconst C (nI 0) ic_0 dX8_settle_1 ?_
  refine g_putf C wu_X8 tyX8 tyX8_ok nmX8 0 rfl rfl 0 (by decide) wf_X8_47 rfl rfl rfl rfl (Nat.le_of_ble_eq_true rfl) dX8_settle_2 [(x0, .inr (6, [.int (nI 0), .ref i1, .ref i2, .int (nI sd), .ref i3, .int (nI ln), .ref j1, .ref j2, .ref j3, .ref j4, .ref j5, .ref j6, .int (nI fm), .int (nI (zRd Z)), .int (nI (zMt Z)), .int (nI (zDr Z)), .ref j7, .ref j8, .int (nI tt), .int (bI (wl)), .ref j9, .int (nI lm), .long (hs)])), (i1, .inl (ty 0, 275, .inl (eR (sM T q nr)))), (j1, .inl (ty 2, 256, .inl (zB (zF Z)))), (j2, .inl (ty 0, 256, .inl (zRo Z))), (j3, .inl (ty 0, 256, .inl (zRu Z))), (j4, .inl (ty 2, 256, .inl (zB U0))), (j5, .inl (ty 0, 256, .inl (nb))), (j6, .inl (ty 0, 300, .inl (zSz Z))), (j7, .inl (ty 0, 8, .inl (S0))), (j8, .inl (ty 0, 8, .inl (C0)))] rfl ?_
  refine g_aload_n C 0 rfl dX8_settle_5 ?_
  refine g_callV C (nA := 0) (ci := 6) (q0 := 0) (As := []) (wr := []) (k_X8_searchesAll l D ty x0 0 i1 i2 sd i3 ln j1 j2 j3 j4 j5 j6 fm j7 j8 tt wl j9 lm hs T q nr Z U0 nb S0 C0 hq hT) wm_X8_148 wn_X8_searchesAll wv_X8_searchesAll wi_X8 wc_X8_searchesAll rfl (by decide +kernel) ⟨(Nat.le_of_ble_eq_true rfl), (Nat.le_of_ble_eq_true rfl)⟩ ⟨rfl, rfl⟩ dX8_settle_6 ⟨Nat.zero_le _, Nat.zero_le _⟩ rfl rfl rfl [0, 1, 2, 3, 4, 5, 6, 7, 8, 9] [] rfl rfl rfl rfl (by decide) (Nat.le_of_ble_eq_true rfl) rfl (fun r W1 hp => ?_)
  obtain ⟨U1, N1, S1, C1, rfl, rfl⟩ := hp
  refine g_fix [] [(x0, .inr (6, [.int (nI 0), .ref i1, .ref i2, .int (nI sd), .ref i3, .int (nI ln), .ref j1, .ref j2, .ref j3, .ref j4, .ref j5, .ref j6, .int (nI (zcnt (zF (fnd q nr T (zSz Z))) 256)), .int (nI (zRd ((fnd q nr T (zSz Z))))), .int (nI (zMt ((fnd q nr T (zSz Z))))), .int (nI (zDr ((fnd q nr T (zSz Z))))), .ref j7, .ref j8, .int (nI tt), .int (bI (wl)), .ref j9, .int (nI lm), .long (hs)])), (i1, .inl (ty 0, 275, .inl (eR (sM T q nr)))), (j1, .inl (ty 2, 256, .inl (zB (zF ((fnd q nr T (zSz Z))))))), (j2, .inl (ty 0, 256, .inl (zRo ((fnd q nr T (zSz Z)))))), (j3, .inl (ty 0, 256, .inl (zRu ((fnd q nr T (zSz Z)))))), (j4, .inl (ty 2, 256, .inl (zB U1))), (j5, .inl (ty 0, 256, .inl (N1))), (j6, .inl (ty 0, 300, .inl (zSz ((fnd q nr T (zSz Z)))))), (j7, .inl (ty 0, 8, .inl (S1))), (j8, .inl (ty 0, 8, .inl (C1)))] [0, 1, 2, 3, 4, 5, 6, 7, 8, 9] rfl rfl rfl ?_
  have hFA := fnd_F q nr T (zSz Z)
  have hzA := zcnt_le (zF (fnd q nr T (zSz Z))) 256
  refine g_aload_n C 0 rfl dX8_settle_9 ?_
  refine g_getf C wu_X8 0 rfl rfl 12 (by decide) wf_X8_86 rfl rfl dX8_settle_10 ?_
  refine g_bipush C (nI 12) bp_12 dX8_settle_13 ?_
  refine g_icmp_leN C (zcnt (zF (fnd q nr T (zSz Z))) 256) 12 24 rfl rfl (by omega) (by omega) dX8_settle_15 rfl (fun c15 => ?_) (fun c15 => ?_)
  · skip
    exact absurd h12 (by rw [← hFA]; omega)
  · skip
    refine g_aload_n C 0 rfl dX8_settle_18 ?_
    refine g_iconst C (nI 1) ic_1 dX8_settle_19 ?_
    refine g_callV C (nA := 1) (ci := 6) (q0 := 0) (As := [.int (nI 1)]) (wr := [(i1, .inl (ty 0, 275, .inl (eR (sM T q nr)))), (j1, .inl (ty 2, 256, .inl (zB (zF ((fnd q nr T (zSz Z))))))), (j2, .inl (ty 0, 256, .inl (zRo ((fnd q nr T (zSz Z)))))), (j3, .inl (ty 0, 256, .inl (zRu ((fnd q nr T (zSz Z)))))), (j4, .inl (ty 2, 256, .inl (zB U1))), (j5, .inl (ty 0, 256, .inl (N1))), (j6, .inl (ty 0, 300, .inl (zSz ((fnd q nr T (zSz Z)))))), (j7, .inl (ty 0, 8, .inl (S1))), (j8, .inl (ty 0, 8, .inl (C1)))]) (k_X8_fails l D ty x0 0 i1 i2 sd i3 ln j1 j2 j3 j4 j5 j6 (zcnt (zF (fnd q nr T (zSz Z))) 256) (zRd (fnd q nr T (zSz Z))) (zMt (fnd q nr T (zSz Z))) (zDr (fnd q nr T (zSz Z))) j7 j8 tt wl j9 lm hs 1 ) wm_X8_131 wn_X8_fails wv_X8_fails wi_X8 wc_X8_fails rfl (by decide +kernel) ⟨(Nat.le_of_ble_eq_true rfl), (Nat.le_of_ble_eq_true rfl)⟩ ⟨rfl, rfl⟩ dX8_settle_20 ⟨Nat.zero_le _, Nat.zero_le _⟩ rfl rfl rfl [0] [1, 2, 3, 4, 5, 6, 7, 8, 9] rfl rfl rfl rfl (by decide) (Nat.le_of_ble_eq_true rfl) rfl (fun r W1 hp => ?_)
    obtain ⟨rfl, rfl⟩ := hp
    refine g_fix [.int (nI 0)] [(x0, .inr (6, [.int (nI 1), .ref i1, .ref i2, .int (nI sd), .ref i3, .int (nI ln), .ref j1, .ref j2, .ref j3, .ref j4, .ref j5, .ref j6, .int (nI ((zcnt (zF (fnd q nr T (zSz Z))) 256))), .int (nI ((zRd (fnd q nr T (zSz Z))))), .int (nI ((zMt (fnd q nr T (zSz Z))))), .int (nI ((zDr (fnd q nr T (zSz Z))))), .ref j7, .ref j8, .int (nI tt), .int (bI (wl)), .ref j9, .int (nI lm), .long (hs)])), (i1, .inl (ty 0, 275, .inl (eR (sM T q nr)))), (j1, .inl (ty 2, 256, .inl (zB (zF ((fnd q nr T (zSz Z))))))), (j2, .inl (ty 0, 256, .inl (zRo ((fnd q nr T (zSz Z)))))), (j3, .inl (ty 0, 256, .inl (zRu ((fnd q nr T (zSz Z)))))), (j4, .inl (ty 2, 256, .inl (zB U1))), (j5, .inl (ty 0, 256, .inl (N1))), (j6, .inl (ty 0, 300, .inl (zSz ((fnd q nr T (zSz Z)))))), (j7, .inl (ty 0, 8, .inl (S1))), (j8, .inl (ty 0, 8, .inl (C1)))] [9, 0, 1, 2, 3, 4, 5, 6, 7, 8] rfl rfl rfl ?_
    exact g_iret E dX8_settle_23 (by decide) (by decide) ⟨(fnd q nr T (zSz Z)), (zcnt (zF (fnd q nr T (zSz Z))) 256), U1, N1, S1, C1, rfl, rfl⟩
def r_X8_append_ok : Room := { frames := 1, cells := 0, slots := 0, locals := 22 }
set_option maxRecDepth 100000 in
set_option maxHeartbeats 4000000 in
theorem k_X8_append_ok (l : Launch) (D : va_G) (ty : Nat → ClassId) (x0 : Nat) (th : Nat) (i1 : Nat) (i2 : Nat) (sd : Nat) (i3 : Nat) (ln : Nat) (j1 : Nat) (j2 : Nat) (j3 : Nat) (j4 : Nat) (j5 : Nat) (j6 : Nat) (fm : Nat) (rd : Nat) (mt : Nat) (dr : Nat) (j7 : Nat) (j8 : Nat) (tt : Nat) (wl : Bool) (j9 : Nat) (lm : Nat) (hs : Int64) (b : Nat → Nat) (c : Nat) (h1 : 33 ≤ c) (h2 : c ≤ 126) (hl : ln < 60) : gM l D ty yX8_append cX8_append 2 (some (FieldType.int : FieldType)) r_X8_append_ok 0 0 [.ref x0, .int (nI c)] [(x0, .inr (6, [.int (nI th), .ref i1, .ref i2, .int (nI sd), .ref i3, .int (nI ln), .ref j1, .ref j2, .ref j3, .ref j4, .ref j5, .ref j6, .int (nI fm), .int (nI rd), .int (nI mt), .int (nI dr), .ref j7, .ref j8, .int (nI tt), .int (bI (wl)), .ref j9, .int (nI lm), .long (hs)])), (i3, .inl (ty 0, 60, .inl (tI b)))] (fun (zr : Option Value) (zW : va_W) => zr = some (.int (nI (ln + 1))) ∧ zW = [(x0, .inr (6, [.int (nI 0), .ref i1, .ref i2, .int (nI sd), .ref i3, .int (nI (ln + 1)), .ref j1, .ref j2, .ref j3, .ref j4, .ref j5, .ref j6, .int (nI fm), .int (nI rd), .int (nI mt), .int (nI dr), .ref j7, .ref j8, .int (nI tt), .int (bI (wl)), .ref j9, .int (nI lm), .long (hs)])), (i3, .inl (ty 0, 60, .inl (tI (upN b ln c))))]) := by
  refine gM_of RX8 rfl (by decide +kernel) (Nat.le_of_ble_eq_true rfl) ?_
  intro pg en s0 mi ag bl mth cd AA HH QQ C E hnm
  show gW pg l en r_X8_append_ok s0 mi ag bl mth cd 2 D AA HH QQ 0 [(0, .ref x0), (1, .int (nI c))] [] [(x0, .inr (6, [.int (nI th), .ref i1, .ref i2, .int (nI sd), .ref i3, .int (nI ln), .ref j1, .ref j2, .ref j3, .ref j4, .ref j5, .ref j6, .int (nI fm), .int (nI rd), .int (nI mt), .int (nI dr), .ref j7, .ref j8, .int (nI tt), .int (bI (wl)), .ref j9, .int (nI lm), .long (hs)])), (i3, .inl (ty 0, 60, .inl (tI b)))] 0 0
  refine g_aload_n C 0 rfl dX8_append_0 ?_
  refine g_iconst C (nI 0) ic_0 dX8_append_1 ?_
  refine g_putf C wu_X8 tyX8 tyX8_ok nmX8 0 rfl rfl 0 (by decide) wf_X8_47 rfl rfl rfl rfl (Nat.le_of_ble_eq_true rfl) dX8_append_2 [(x0, .inr (6, [.int (nI 0), .ref i1, .ref i2, .int (nI sd), .ref i3, .int (nI ln), .ref j1, .ref j2, .ref j3, .ref j4, .ref j5, .ref j6, .int (nI fm), .int (nI rd), .int (nI mt), .int (nI dr), .ref j7, .ref j8, .int (nI tt), .int (bI (wl)), .ref j9, .int (nI lm), .long (hs)])), (i3, .inl (ty 0, 60, .inl (tI b)))] rfl ?_
  refine g_iload_n C 1 rfl dX8_append_5 ?_
  refine g_bipush C (nI 33) bp_33 dX8_append_6 ?_
  refine g_bipush C (nI 126) bp_126 dX8_append_8 ?_
  refine g_callS0 C (nA := 3) (k_X8_in l D ty ((nI c)) ((nI 33)) ((nI 126)) ) wm_X8_54 ws_X8_in wi_X8 wc_X8_in rfl (by decide +kernel) ⟨(Nat.le_of_ble_eq_true rfl), (Nat.le_of_ble_eq_true rfl)⟩ ⟨rfl, rfl⟩ dX8_append_10 (fun _ _ h => h.2) (Nat.le_of_ble_eq_true rfl) rfl ⟨Nat.zero_le _, Nat.zero_le _⟩ (fun r hp => ?_)
  obtain ⟨rfl, -⟩ := hp
  refine g_st [.int (bI (inI ((nI c)) ((nI 33)) ((nI 126))))] rfl ?_
  refine g_if_neB C (inI ((nI c)) ((nI 33)) ((nI 126))) 22 rfl dX8_append_13 rfl (fun c13 => ?_) (fun c13 => ?_)
  · skip
    refine g_aload_n C 0 rfl dX8_append_22 ?_
    refine g_getf C wu_X8 0 rfl rfl 5 (by decide) wf_X8_151 rfl rfl dX8_append_23 ?_
    refine g_bipush C (nI 60) bp_60 dX8_append_26 ?_
    refine g_icmp_neN C ln 60 37 rfl rfl (by omega) (by omega) dX8_append_28 rfl (fun c28 => ?_) (fun c28 => ?_)
    · skip
      refine g_aload_n C 0 rfl dX8_append_37 ?_
      refine g_getf C wu_X8 0 rfl rfl 4 (by decide) wf_X8_16 rfl rfl dX8_append_38 ?_
      refine g_aload_n C 0 rfl dX8_append_41 ?_
      refine g_getf C wu_X8 0 rfl rfl 5 (by decide) wf_X8_151 rfl rfl dX8_append_42 ?_
      refine g_iload_n C 1 rfl dX8_append_45 ?_
      refine g_iast C 1 rfl ln rfl (by omega) (by decide) dX8_append_46 (tI (upN b ln c)) (tI_up _ _ _) [(x0, .inr (6, [.int (nI 0), .ref i1, .ref i2, .int (nI sd), .ref i3, .int (nI ln), .ref j1, .ref j2, .ref j3, .ref j4, .ref j5, .ref j6, .int (nI fm), .int (nI rd), .int (nI mt), .int (nI dr), .ref j7, .ref j8, .int (nI tt), .int (bI (wl)), .ref j9, .int (nI lm), .long (hs)])), (i3, .inl (ty 0, 60, .inl (tI (upN b ln c))))] rfl ?_
      refine g_aload_n C 0 rfl dX8_append_47 ?_
      refine g_dup C rfl dX8_append_48 ?_
      refine g_getf C wu_X8 0 rfl rfl 5 (by decide) wf_X8_151 rfl rfl dX8_append_49 ?_
      refine g_iconst C (nI 1) ic_1 dX8_append_52 ?_
      refine g_iadd C (nI (ln + 1)) dX8_append_53 (nI_add _ _) ?_
      refine g_putf C wu_X8 tyX8 tyX8_ok nmX8 0 rfl rfl 5 (by decide) wf_X8_151 rfl rfl rfl rfl (Nat.le_of_ble_eq_true rfl) dX8_append_54 [(x0, .inr (6, [.int (nI 0), .ref i1, .ref i2, .int (nI sd), .ref i3, .int (nI (ln + 1)), .ref j1, .ref j2, .ref j3, .ref j4, .ref j5, .ref j6, .int (nI fm), .int (nI rd), .int (nI mt), .int (nI dr), .ref j7, .ref j8, .int (nI tt), .int (bI (wl)), .ref j9, .int (nI lm), .long (hs)])), (i3, .inl (ty 0, 60, .inl (tI (upN b ln c))))] rfl ?_
      refine g_aload_n C 0 rfl dX8_append_57 ?_
      refine g_getf C wu_X8 0 rfl rfl 5 (by decide) wf_X8_151 rfl rfl dX8_append_58 ?_
      exact g_iret E dX8_append_61 (by decide) (by decide) ⟨rfl, rfl⟩
    · skip
      exact absurd c28 (by omega)
  · skip
    exact absurd c13 (by rw [inI_t (by omega) (by omega) (by omega)]; decide)
def r_X8_append_x1 : Room := { frames := 1, cells := 0, slots := 0, locals := 22 }
set_option maxRecDepth 100000 in
set_option maxHeartbeats 4000000 in
theorem k_X8_append_x1 (l : Launch) (D : va_G) (ty : Nat → ClassId) (x0 : Nat) (th : Nat) (i1 : Nat) (i2 : Nat) (sd : Nat) (i3 : Nat) (ln : Nat) (j1 : Nat) (j2 : Nat) (j3 : Nat) (j4 : Nat) (j5 : Nat) (j6 : Nat) (fm : Nat) (rd : Nat) (mt : Nat) (dr : Nat) (j7 : Nat) (j8 : Nat) (tt : Nat) (wl : Bool) (j9 : Nat) (lm : Nat) (hs : Int64) (z1 : Int32) (hz : z1 < nI 33 ∨ nI 126 < z1) : gM l D ty yX8_append cX8_append 2 (some (FieldType.int : FieldType)) r_X8_append_x1 0 0 [.ref x0, .int (z1)] [(x0, .inr (6, [.int (nI th), .ref i1, .ref i2, .int (nI sd), .ref i3, .int (nI ln), .ref j1, .ref j2, .ref j3, .ref j4, .ref j5, .ref j6, .int (nI fm), .int (nI rd), .int (nI mt), .int (nI dr), .ref j7, .ref j8, .int (nI tt), .int (bI (wl)), .ref j9, .int (nI lm), .long (hs)]))] (fun (zr : Option Value) (zW : va_W) => zr = some (.int (nI 0)) ∧ zW = [(x0, .inr (6, [.int (nI 1), .ref i1, .ref i2, .int (nI sd), .ref i3, .int (nI ln), .ref j1, .ref j2, .ref j3, .ref j4, .ref j5, .ref j6, .int (nI fm), .int (nI rd), .int (nI mt), .int (nI dr), .ref j7, .ref j8, .int (nI tt), .int (bI (wl)), .ref j9, .int (nI lm), .long (hs)]))]) := by
  refine gM_of RX8 rfl (by decide +kernel) (Nat.le_of_ble_eq_true rfl) ?_
  intro pg en s0 mi ag bl mth cd AA HH QQ C E hnm
  show gW pg l en r_X8_append_x1 s0 mi ag bl mth cd 2 D AA HH QQ 0 [(0, .ref x0), (1, .int (z1))] [] [(x0, .inr (6, [.int (nI th), .ref i1, .ref i2, .int (nI sd), .ref i3, .int (nI ln), .ref j1, .ref j2, .ref j3, .ref j4, .ref j5, .ref j6, .int (nI fm), .int (nI rd), .int (nI mt), .int (nI dr), .ref j7, .ref j8, .int (nI tt), .int (bI (wl)), .ref j9, .int (nI lm), .long (hs)]))] 0 0
  refine g_aload_n C 0 rfl dX8_append_0 ?_
  refine g_iconst C (nI 0) ic_0 dX8_append_1 ?_
  refine g_putf C wu_X8 tyX8 tyX8_ok nmX8 0 rfl rfl 0 (by decide) wf_X8_47 rfl rfl rfl rfl (Nat.le_of_ble_eq_true rfl) dX8_append_2 [(x0, .inr (6, [.int (nI 0), .ref i1, .ref i2, .int (nI sd), .ref i3, .int (nI ln), .ref j1, .ref j2, .ref j3, .ref j4, .ref j5, .ref j6, .int (nI fm), .int (nI rd), .int (nI mt), .int (nI dr), .ref j7, .ref j8, .int (nI tt), .int (bI (wl)), .ref j9, .int (nI lm), .long (hs)]))] rfl ?_
  refine g_iload_n C 1 rfl dX8_append_5 ?_
  refine g_bipush C (nI 33) bp_33 dX8_append_6 ?_
  refine g_bipush C (nI 126) bp_126 dX8_append_8 ?_
  refine g_callS0 C (nA := 3) (k_X8_in l D ty z1 ((nI 33)) ((nI 126)) ) wm_X8_54 ws_X8_in wi_X8 wc_X8_in rfl (by decide +kernel) ⟨(Nat.le_of_ble_eq_true rfl), (Nat.le_of_ble_eq_true rfl)⟩ ⟨rfl, rfl⟩ dX8_append_10 (fun _ _ h => h.2) (Nat.le_of_ble_eq_true rfl) rfl ⟨Nat.zero_le _, Nat.zero_le _⟩ (fun r hp => ?_)
  obtain ⟨rfl, -⟩ := hp
  refine g_st [.int (bI (inI z1 ((nI 33)) ((nI 126))))] rfl ?_
  refine g_if_neB C (inI z1 ((nI 33)) ((nI 126))) 22 rfl dX8_append_13 rfl (fun c13 => ?_) (fun c13 => ?_)
  · skip
    exact absurd c13 (by rw [inI_f (hz)]; decide)
  · skip
    refine g_aload_n C 0 rfl dX8_append_16 ?_
    refine g_iconst C (nI 1) ic_1 dX8_append_17 ?_
    refine g_callV C (nA := 1) (ci := 6) (q0 := 0) (As := [.int (nI 1)]) (wr := []) (k_X8_fails l D ty x0 0 i1 i2 sd i3 ln j1 j2 j3 j4 j5 j6 fm rd mt dr j7 j8 tt wl j9 lm hs 1 ) wm_X8_131 wn_X8_fails wv_X8_fails wi_X8 wc_X8_fails rfl (by decide +kernel) ⟨(Nat.le_of_ble_eq_true rfl), (Nat.le_of_ble_eq_true rfl)⟩ ⟨rfl, rfl⟩ dX8_append_18 ⟨Nat.zero_le _, Nat.zero_le _⟩ rfl rfl rfl [0] [] rfl rfl rfl rfl (by decide) (Nat.le_of_ble_eq_true rfl) rfl (fun r W1 hp => ?_)
    obtain ⟨rfl, rfl⟩ := hp
    refine g_fix [.int (nI 0)] [(x0, .inr (6, [.int (nI 1), .ref i1, .ref i2, .int (nI sd), .ref i3, .int (nI ln), .ref j1, .ref j2, .ref j3, .ref j4, .ref j5, .ref j6, .int (nI fm), .int (nI rd), .int (nI mt), .int (nI dr), .ref j7, .ref j8, .int (nI tt), .int (bI (wl)), .ref j9, .int (nI lm), .long (hs)]))] [0] rfl rfl rfl ?_
    exact g_iret E dX8_append_21 (by decide) (by decide) ⟨rfl, rfl⟩
def r_X8_append_x2 : Room := { frames := 1, cells := 0, slots := 0, locals := 22 }
set_option maxRecDepth 100000 in
set_option maxHeartbeats 4000000 in
theorem k_X8_append_x2 (l : Launch) (D : va_G) (ty : Nat → ClassId) (x0 : Nat) (th : Nat) (i1 : Nat) (i2 : Nat) (sd : Nat) (i3 : Nat) (ln : Nat) (j1 : Nat) (j2 : Nat) (j3 : Nat) (j4 : Nat) (j5 : Nat) (j6 : Nat) (fm : Nat) (rd : Nat) (mt : Nat) (dr : Nat) (j7 : Nat) (j8 : Nat) (tt : Nat) (wl : Bool) (j9 : Nat) (lm : Nat) (hs : Int64) (c : Nat) (h1 : 33 ≤ c) (h2 : c ≤ 126) (hl : ln = 60) : gM l D ty yX8_append cX8_append 2 (some (FieldType.int : FieldType)) r_X8_append_x2 0 0 [.ref x0, .int (nI c)] [(x0, .inr (6, [.int (nI th), .ref i1, .ref i2, .int (nI sd), .ref i3, .int (nI ln), .ref j1, .ref j2, .ref j3, .ref j4, .ref j5, .ref j6, .int (nI fm), .int (nI rd), .int (nI mt), .int (nI dr), .ref j7, .ref j8, .int (nI tt), .int (bI (wl)), .ref j9, .int (nI lm), .long (hs)]))] (fun (zr : Option Value) (zW : va_W) => zr = some (.int (nI 0)) ∧ zW = [(x0, .inr (6, [.int (nI 2), .ref i1, .ref i2, .int (nI sd), .ref i3, .int (nI ln), .ref j1, .ref j2, .ref j3, .ref j4, .ref j5, .ref j6, .int (nI fm), .int (nI rd), .int (nI mt), .int (nI dr), .ref j7, .ref j8, .int (nI tt), .int (bI (wl)), .ref j9, .int (nI lm), .long (hs)]))]) := by
  refine gM_of RX8 rfl (by decide +kernel) (Nat.le_of_ble_eq_true rfl) ?_
  intro pg en s0 mi ag bl mth cd AA HH QQ C E hnm
  show gW pg l en r_X8_append_x2 s0 mi ag bl mth cd 2 D AA HH QQ 0 [(0, .ref x0), (1, .int (nI c))] [] [(x0, .inr (6, [.int (nI th), .ref i1, .ref i2, .int (nI sd), .ref i3, .int (nI ln), .ref j1, .ref j2, .ref j3, .ref j4, .ref j5, .ref j6, .int (nI fm), .int (nI rd), .int (nI mt), .int (nI dr), .ref j7, .ref j8, .int (nI tt), .int (bI (wl)), .ref j9, .int (nI lm), .long (hs)]))] 0 0
  refine g_aload_n C 0 rfl dX8_append_0 ?_
  refine g_iconst C (nI 0) ic_0 dX8_append_1 ?_
  refine g_putf C wu_X8 tyX8 tyX8_ok nmX8 0 rfl rfl 0 (by decide) wf_X8_47 rfl rfl rfl rfl (Nat.le_of_ble_eq_true rfl) dX8_append_2 [(x0, .inr (6, [.int (nI 0), .ref i1, .ref i2, .int (nI sd), .ref i3, .int (nI ln), .ref j1, .ref j2, .ref j3, .ref j4, .ref j5, .ref j6, .int (nI fm), .int (nI rd), .int (nI mt), .int (nI dr), .ref j7, .ref j8, .int (nI tt), .int (bI (wl)), .ref j9, .int (nI lm), .long (hs)]))] rfl ?_
  refine g_iload_n C 1 rfl dX8_append_5 ?_
  refine g_bipush C (nI 33) bp_33 dX8_append_6 ?_
  refine g_bipush C (nI 126) bp_126 dX8_append_8 ?_
  refine g_callS0 C (nA := 3) (k_X8_in l D ty ((nI c)) ((nI 33)) ((nI 126)) ) wm_X8_54 ws_X8_in wi_X8 wc_X8_in rfl (by decide +kernel) ⟨(Nat.le_of_ble_eq_true rfl), (Nat.le_of_ble_eq_true rfl)⟩ ⟨rfl, rfl⟩ dX8_append_10 (fun _ _ h => h.2) (Nat.le_of_ble_eq_true rfl) rfl ⟨Nat.zero_le _, Nat.zero_le _⟩ (fun r hp => ?_)
  obtain ⟨rfl, -⟩ := hp
  refine g_st [.int (bI (inI ((nI c)) ((nI 33)) ((nI 126))))] rfl ?_
  refine g_if_neB C (inI ((nI c)) ((nI 33)) ((nI 126))) 22 rfl dX8_append_13 rfl (fun c13 => ?_) (fun c13 => ?_)
  · skip
    refine g_aload_n C 0 rfl dX8_append_22 ?_
    refine g_getf C wu_X8 0 rfl rfl 5 (by decide) wf_X8_151 rfl rfl dX8_append_23 ?_
    refine g_bipush C (nI 60) bp_60 dX8_append_26 ?_
    refine g_icmp_neN C ln 60 37 rfl rfl (by omega) (by omega) dX8_append_28 rfl (fun c28 => ?_) (fun c28 => ?_)
    · skip
      exact absurd hl c28
    · skip
      refine g_aload_n C 0 rfl dX8_append_31 ?_
      refine g_iconst C (nI 2) ic_2 dX8_append_32 ?_
      refine g_callV C (nA := 1) (ci := 6) (q0 := 0) (As := [.int (nI 2)]) (wr := []) (k_X8_fails l D ty x0 0 i1 i2 sd i3 ln j1 j2 j3 j4 j5 j6 fm rd mt dr j7 j8 tt wl j9 lm hs 2 ) wm_X8_131 wn_X8_fails wv_X8_fails wi_X8 wc_X8_fails rfl (by decide +kernel) ⟨(Nat.le_of_ble_eq_true rfl), (Nat.le_of_ble_eq_true rfl)⟩ ⟨rfl, rfl⟩ dX8_append_33 ⟨Nat.zero_le _, Nat.zero_le _⟩ rfl rfl rfl [0] [] rfl rfl rfl rfl (by decide) (Nat.le_of_ble_eq_true rfl) rfl (fun r W1 hp => ?_)
      obtain ⟨rfl, rfl⟩ := hp
      refine g_fix [.int (nI 0)] [(x0, .inr (6, [.int (nI 2), .ref i1, .ref i2, .int (nI sd), .ref i3, .int (nI ln), .ref j1, .ref j2, .ref j3, .ref j4, .ref j5, .ref j6, .int (nI fm), .int (nI rd), .int (nI mt), .int (nI dr), .ref j7, .ref j8, .int (nI tt), .int (bI (wl)), .ref j9, .int (nI lm), .long (hs)]))] [0] rfl rfl rfl ?_
      exact g_iret E dX8_append_36 (by decide) (by decide) ⟨rfl, rfl⟩
  · skip
    exact absurd c13 (by rw [inI_t (by omega) (by omega) (by omega)]; decide)
def r_X8_undo_ok : Room := { frames := 1, cells := 0, slots := 0, locals := 21 }
set_option maxRecDepth 100000 in
set_option maxHeartbeats 4000000 in
theorem k_X8_undo_ok (l : Launch) (D : va_G) (ty : Nat → ClassId) (x0 : Nat) (th : Nat) (i1 : Nat) (i2 : Nat) (sd : Nat) (i3 : Nat) (ln : Nat) (j1 : Nat) (j2 : Nat) (j3 : Nat) (j4 : Nat) (j5 : Nat) (j6 : Nat) (fm : Nat) (rd : Nat) (mt : Nat) (dr : Nat) (j7 : Nat) (j8 : Nat) (tt : Nat) (wl : Bool) (j9 : Nat) (lm : Nat) (hs : Int64) (T : Nat → Bool) (q : Nat → Nat) (nr : Nat) (R : Nat → Int32) (V : Nat → LT) (hsd : sd ≤ 6) (hR : okR V sd R) (h0 : 0 < sd) : gM l D ty yX8_undo cX8_undo 2 (some (FieldType.int : FieldType)) r_X8_undo_ok 0 0 [.ref x0] [(x0, .inr (6, [.int (nI th), .ref i1, .ref i2, .int (nI sd), .ref i3, .int (nI ln), .ref j1, .ref j2, .ref j3, .ref j4, .ref j5, .ref j6, .int (nI fm), .int (nI rd), .int (nI mt), .int (nI dr), .ref j7, .ref j8, .int (nI tt), .int (bI (wl)), .ref j9, .int (nI lm), .long (hs)])), (i1, .inl (ty 0, 275, .inl (eR (sM T q nr)))), (i2, .inl (ty 0, 1650, .inl (R)))] (fun (zr : Option Value) (zW : va_W) => zr = some (.int (nI (sd - 1))) ∧ zW = [(x0, .inr (6, [.int (nI 0), .ref i1, .ref i2, .int (nI (sd - 1)), .ref i3, .int (nI ln), .ref j1, .ref j2, .ref j3, .ref j4, .ref j5, .ref j6, .int (nI fm), .int (nI rd), .int (nI mt), .int (nI dr), .ref j7, .ref j8, .int (nI tt), .int (bI (wl)), .ref j9, .int (nI lm), .long (hs)])), (i1, .inl (ty 0, 275, .inl (eR (sM ((V (sd - 1)).1) ((V (sd - 1)).2.1) ((V (sd - 1)).2.2))))), (i2, .inl (ty 0, 1650, .inl (R)))]) := by
  refine gM_of RX8 rfl (by decide +kernel) (Nat.le_of_ble_eq_true rfl) ?_
  intro pg en s0 mi ag bl mth cd AA HH QQ C E hnm
  show gW pg l en r_X8_undo_ok s0 mi ag bl mth cd 2 D AA HH QQ 0 [(0, .ref x0)] [] [(x0, .inr (6, [.int (nI th), .ref i1, .ref i2, .int (nI sd), .ref i3, .int (nI ln), .ref j1, .ref j2, .ref j3, .ref j4, .ref j5, .ref j6, .int (nI fm), .int (nI rd), .int (nI mt), .int (nI dr), .ref j7, .ref j8, .int (nI tt), .int (bI (wl)), .ref j9, .int (nI lm), .long (hs)])), (i1, .inl (ty 0, 275, .inl (eR (sM T q nr)))), (i2, .inl (ty 0, 1650, .inl (R)))] 0 0
  refine g_aload_n C 0 rfl dX8_undo_0 ?_
  refine g_iconst C (nI 0) ic_0 dX8_undo_1 ?_
  refine g_putf C wu_X8 tyX8 tyX8_ok nmX8 0 rfl rfl 0 (by decide) wf_X8_47 rfl rfl rfl rfl (Nat.le_of_ble_eq_true rfl) dX8_undo_2 [(x0, .inr (6, [.int (nI 0), .ref i1, .ref i2, .int (nI sd), .ref i3, .int (nI ln), .ref j1, .ref j2, .ref j3, .ref j4, .ref j5, .ref j6, .int (nI fm), .int (nI rd), .int (nI mt), .int (nI dr), .ref j7, .ref j8, .int (nI tt), .int (bI (wl)), .ref j9, .int (nI lm), .long (hs)])), (i1, .inl (ty 0, 275, .inl (eR (sM T q nr)))), (i2, .inl (ty 0, 1650, .inl (R)))] rfl ?_
  refine g_aload_n C 0 rfl dX8_undo_5 ?_
  refine g_getf C wu_X8 0 rfl rfl 3 (by decide) wf_X8_51 rfl rfl dX8_undo_6 ?_
  refine g_if_neN C sd 18 rfl (by omega) dX8_undo_9 rfl (fun c9 => ?_) (fun c9 => ?_)
  · skip
    refine g_aload_n C 0 rfl dX8_undo_18 ?_
    refine g_dup C rfl dX8_undo_19 ?_
    refine g_getf C wu_X8 0 rfl rfl 3 (by decide) wf_X8_51 rfl rfl dX8_undo_20 ?_
    refine g_iconst C (nI 1) ic_1 dX8_undo_23 ?_
    refine g_isub C (nI (sd - 1)) dX8_undo_24 (pk_sub (by omega)) ?_
    refine g_putf C wu_X8 tyX8 tyX8_ok nmX8 0 rfl rfl 3 (by decide) wf_X8_51 rfl rfl rfl rfl (Nat.le_of_ble_eq_true rfl) dX8_undo_25 [(x0, .inr (6, [.int (nI 0), .ref i1, .ref i2, .int (nI (sd - 1)), .ref i3, .int (nI ln), .ref j1, .ref j2, .ref j3, .ref j4, .ref j5, .ref j6, .int (nI fm), .int (nI rd), .int (nI mt), .int (nI dr), .ref j7, .ref j8, .int (nI tt), .int (bI (wl)), .ref j9, .int (nI lm), .long (hs)])), (i1, .inl (ty 0, 275, .inl (eR (sM T q nr)))), (i2, .inl (ty 0, 1650, .inl (R)))] rfl ?_
    refine g_iconst C (nI 0) ic_0 dX8_undo_28 ?_
    refine g_istore_n C [(1, .int (nI 0)), (0, .ref x0)] dX8_undo_29 rfl (by decide) rfl ?_
    refine g_lo [1, 0] [(0, .ref x0), (1, .int (nI 0))] rfl ?_
    refine g_ws [(x0, .inr (6, [.int (nI 0), .ref i1, .ref i2, .int (nI (sd - 1)), .ref i3, .int (nI ln), .ref j1, .ref j2, .ref j3, .ref j4, .ref j5, .ref j6, .int (nI fm), .int (nI rd), .int (nI mt), .int (nI dr), .ref j7, .ref j8, .int (nI tt), .int (bI (wl)), .ref j9, .int (nI lm), .long (hs)])), (i1, .inl (ty 0, 275, .inl (zfl (eR (sM (V (sd - 1)).1 (V (sd - 1)).2.1 (V (sd - 1)).2.2)) (eR (sM T q nr)) 0))), (i2, .inl (ty 0, 1650, .inl (R)))] (by rw [zfl_0]) ?_
    have L30 : ∀ (fu30 : Nat) (i : Nat) (hi : i ≤ 275), (275 - i) < fu30 → gW pg l en r_X8_undo_ok s0 mi ag bl mth cd 2 D AA HH QQ 30 [(0, .ref x0), (1, .int (nI i))] [] [(x0, .inr (6, [.int (nI 0), .ref i1, .ref i2, .int (nI (sd - 1)), .ref i3, .int (nI ln), .ref j1, .ref j2, .ref j3, .ref j4, .ref j5, .ref j6, .int (nI fm), .int (nI rd), .int (nI mt), .int (nI dr), .ref j7, .ref j8, .int (nI tt), .int (bI (wl)), .ref j9, .int (nI lm), .long (hs)])), (i1, .inl (ty 0, 275, .inl (zfl (eR (sM (V (sd - 1)).1 (V (sd - 1)).2.1 (V (sd - 1)).2.2)) (eR (sM T q nr)) i))), (i2, .inl (ty 0, 1650, .inl (R)))] 0 0 := by
      intro fu30
      induction fu30 with
      | zero => intro i hi hfu; exact absurd hfu (Nat.not_lt_zero _)
      | succ fu30 ih30 =>
        intro i hi hfu30
        refine g_iload_n C 1 rfl dX8_undo_30 ?_
        refine g_sipush C (nI 275) sp_275 dX8_undo_31 ?_
        refine g_icmp_geN C i 275 64 rfl rfl (by omega) (by omega) dX8_undo_34 rfl (fun c34 => ?_) (fun c34 => ?_)
        · skip
          refine g_extI 1 rfl (eR (sM (V (sd - 1)).1 (V (sd - 1)).2.1 (V (sd - 1)).2.2)) (fun j hj => zfl_in _ _ (show j < i by omega)) [(x0, .inr (6, [.int (nI 0), .ref i1, .ref i2, .int (nI (sd - 1)), .ref i3, .int (nI ln), .ref j1, .ref j2, .ref j3, .ref j4, .ref j5, .ref j6, .int (nI fm), .int (nI rd), .int (nI mt), .int (nI dr), .ref j7, .ref j8, .int (nI tt), .int (bI (wl)), .ref j9, .int (nI lm), .long (hs)])), (i1, .inl (ty 0, 275, .inl (eR (sM (V (sd - 1)).1 (V (sd - 1)).2.1 (V (sd - 1)).2.2)))), (i2, .inl (ty 0, 1650, .inl (R)))] rfl ?_
          refine g_aload_n C 0 rfl dX8_undo_64 ?_
          refine g_getf C wu_X8 0 rfl rfl 3 (by decide) wf_X8_51 rfl rfl dX8_undo_65 ?_
          exact g_iret E dX8_undo_68 (by decide) (by decide) ⟨rfl, rfl⟩
        · skip
          refine g_aload_n C 0 rfl dX8_undo_37 ?_
          refine g_getf C wu_X8 0 rfl rfl 1 (by decide) wf_X8_7 rfl rfl dX8_undo_38 ?_
          refine g_iload_n C 1 rfl dX8_undo_41 ?_
          refine g_aload_n C 0 rfl dX8_undo_42 ?_
          refine g_getf C wu_X8 0 rfl rfl 2 (by decide) wf_X8_13 rfl rfl dX8_undo_43 ?_
          refine g_sipush C (nI 275) sp_275 dX8_undo_46 ?_
          refine g_aload_n C 0 rfl dX8_undo_49 ?_
          refine g_getf C wu_X8 0 rfl rfl 3 (by decide) wf_X8_51 rfl rfl dX8_undo_50 ?_
          refine g_imul C (nI (275 * (sd - 1))) dX8_undo_53 (pk_mul _ _) ?_
          refine g_iload_n C 1 rfl dX8_undo_54 ?_
          refine g_iadd C (nI ((275 * (sd - 1)) + i)) dX8_undo_55 (nI_add _ _) ?_
          refine g_iald C 2 rfl ((275 * (sd - 1)) + i) rfl (by omega) (by decide) (eA ((sM (V (sd - 1)).1 (V (sd - 1)).2.1 (V (sd - 1)).2.2) i)) (hR (sd - 1) (by omega) i (by omega)) dX8_undo_56 ?_
          refine g_iast C 1 rfl i rfl (by omega) (by decide) dX8_undo_57 (zfl (eR (sM (V (sd - 1)).1 (V (sd - 1)).2.1 (V (sd - 1)).2.2)) (eR (sM T q nr)) (i + 1)) (zfl_I _ _ _ rfl) [(x0, .inr (6, [.int (nI 0), .ref i1, .ref i2, .int (nI (sd - 1)), .ref i3, .int (nI ln), .ref j1, .ref j2, .ref j3, .ref j4, .ref j5, .ref j6, .int (nI fm), .int (nI rd), .int (nI mt), .int (nI dr), .ref j7, .ref j8, .int (nI tt), .int (bI (wl)), .ref j9, .int (nI lm), .long (hs)])), (i1, .inl (ty 0, 275, .inl (zfl (eR (sM (V (sd - 1)).1 (V (sd - 1)).2.1 (V (sd - 1)).2.2)) (eR (sM T q nr)) (i + 1)))), (i2, .inl (ty 0, 1650, .inl (R)))] rfl ?_
          refine g_iinc C (nI (i + 1)) [(1, .int (nI (i + 1))), (0, .ref x0)] 1 dX8_undo_58 rfl (ii_1 _) (by decide) rfl ?_
          refine g_goto C 30 dX8_undo_61 rfl ?_
          refine g_lo [1, 0] [(0, .ref x0), (1, .int (nI (i + 1)))] rfl ?_
          exact ih30 (i + 1) (by omega) (by omega)
    exact L30 (275 - 0 + 1) 0 (by omega) (Nat.lt_succ_self _)
  · skip
    exact absurd c9 (by omega)
def r_X8_undo_x1 : Room := { frames := 1, cells := 0, slots := 0, locals := 21 }
set_option maxRecDepth 100000 in
set_option maxHeartbeats 4000000 in
theorem k_X8_undo_x1 (l : Launch) (D : va_G) (ty : Nat → ClassId) (x0 : Nat) (th : Nat) (i1 : Nat) (i2 : Nat) (sd : Nat) (i3 : Nat) (ln : Nat) (j1 : Nat) (j2 : Nat) (j3 : Nat) (j4 : Nat) (j5 : Nat) (j6 : Nat) (fm : Nat) (rd : Nat) (mt : Nat) (dr : Nat) (j7 : Nat) (j8 : Nat) (tt : Nat) (wl : Bool) (j9 : Nat) (lm : Nat) (hs : Int64) (h0 : sd = 0) : gM l D ty yX8_undo cX8_undo 2 (some (FieldType.int : FieldType)) r_X8_undo_x1 0 0 [.ref x0] [(x0, .inr (6, [.int (nI th), .ref i1, .ref i2, .int (nI sd), .ref i3, .int (nI ln), .ref j1, .ref j2, .ref j3, .ref j4, .ref j5, .ref j6, .int (nI fm), .int (nI rd), .int (nI mt), .int (nI dr), .ref j7, .ref j8, .int (nI tt), .int (bI (wl)), .ref j9, .int (nI lm), .long (hs)]))] (fun (zr : Option Value) (zW : va_W) => zr = some (.int (nI 0)) ∧ zW = [(x0, .inr (6, [.int (nI 1), .ref i1, .ref i2, .int (nI sd), .ref i3, .int (nI ln), .ref j1, .ref j2, .ref j3, .ref j4, .ref j5, .ref j6, .int (nI fm), .int (nI rd), .int (nI mt), .int (nI dr), .ref j7, .ref j8, .int (nI tt), .int (bI (wl)), .ref j9, .int (nI lm), .long (hs)]))]) := by
  refine gM_of RX8 rfl (by decide +kernel) (Nat.le_of_ble_eq_true rfl) ?_
  intro pg en s0 mi ag bl mth cd AA HH QQ C E hnm
  show gW pg l en r_X8_undo_x1 s0 mi ag bl mth cd 2 D AA HH QQ 0 [(0, .ref x0)] [] [(x0, .inr (6, [.int (nI th), .ref i1, .ref i2, .int (nI sd), .ref i3, .int (nI ln), .ref j1, .ref j2, .ref j3, .ref j4, .ref j5, .ref j6, .int (nI fm), .int (nI rd), .int (nI mt), .int (nI dr), .ref j7, .ref j8, .int (nI tt), .int (bI (wl)), .ref j9, .int (nI lm), .long (hs)]))] 0 0
  refine g_aload_n C 0 rfl dX8_undo_0 ?_
  refine g_iconst C (nI 0) ic_0 dX8_undo_1 ?_
  refine g_putf C wu_X8 tyX8 tyX8_ok nmX8 0 rfl rfl 0 (by decide) wf_X8_47 rfl rfl rfl rfl (Nat.le_of_ble_eq_true rfl) dX8_undo_2 [(x0, .inr (6, [.int (nI 0), .ref i1, .ref i2, .int (nI sd), .ref i3, .int (nI ln), .ref j1, .ref j2, .ref j3, .ref j4, .ref j5, .ref j6, .int (nI fm), .int (nI rd), .int (nI mt), .int (nI dr), .ref j7, .ref j8, .int (nI tt), .int (bI (wl)), .ref j9, .int (nI lm), .long (hs)]))] rfl ?_
  refine g_aload_n C 0 rfl dX8_undo_5 ?_
  refine g_getf C wu_X8 0 rfl rfl 3 (by decide) wf_X8_51 rfl rfl dX8_undo_6 ?_
  refine g_if_neN C sd 18 rfl (by omega) dX8_undo_9 rfl (fun c9 => ?_) (fun c9 => ?_)
  · skip
    exact absurd h0 c9
  · skip
    refine g_aload_n C 0 rfl dX8_undo_12 ?_
    refine g_iconst C (nI 1) ic_1 dX8_undo_13 ?_
    refine g_callV C (nA := 1) (ci := 6) (q0 := 0) (As := [.int (nI 1)]) (wr := []) (k_X8_fails l D ty x0 0 i1 i2 sd i3 ln j1 j2 j3 j4 j5 j6 fm rd mt dr j7 j8 tt wl j9 lm hs 1 ) wm_X8_131 wn_X8_fails wv_X8_fails wi_X8 wc_X8_fails rfl (by decide +kernel) ⟨(Nat.le_of_ble_eq_true rfl), (Nat.le_of_ble_eq_true rfl)⟩ ⟨rfl, rfl⟩ dX8_undo_14 ⟨Nat.zero_le _, Nat.zero_le _⟩ rfl rfl rfl [0] [] rfl rfl rfl rfl (by decide) (Nat.le_of_ble_eq_true rfl) rfl (fun r W1 hp => ?_)
    obtain ⟨rfl, rfl⟩ := hp
    refine g_fix [.int (nI 0)] [(x0, .inr (6, [.int (nI 1), .ref i1, .ref i2, .int (nI sd), .ref i3, .int (nI ln), .ref j1, .ref j2, .ref j3, .ref j4, .ref j5, .ref j6, .int (nI fm), .int (nI rd), .int (nI mt), .int (nI dr), .ref j7, .ref j8, .int (nI tt), .int (bI (wl)), .ref j9, .int (nI lm), .long (hs)]))] [0] rfl rfl rfl ?_
    exact g_iret E dX8_undo_17 (by decide) (by decide) ⟨rfl, rfl⟩
