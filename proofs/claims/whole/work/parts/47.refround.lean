def r_X8_tries : Room := { frames := 5, cells := 0, slots := 0, locals := 116 }
set_option maxRecDepth 100000 in
set_option maxHeartbeats 4000000 in
theorem k_X8_tries (l : Launch) (D : va_G) (ty : Nat → ClassId) (x0 : Nat) (th : Nat) (i1 : Nat) (i2 : Nat) (sd : Nat) (i3 : Nat) (ln : Nat) (j1 : Nat) (j2 : Nat) (j3 : Nat) (j4 : Nat) (j5 : Nat) (j6 : Nat) (fm : Nat) (rd : Nat) (dr : Nat) (j7 : Nat) (j8 : Nat) (tt : Nat) (wl : Bool) (j9 : Nat) (lm : Nat) (hs : Int64) (T : Nat → Bool) (q : Nat → Nat) (nr : Nat) (F : Nat → Bool) (nb : Nat → Int32) (X : XT) (S0 : Nat → Int32) (C0 : Nat → Int32) (k : Nat) (hF : okF F) (hk : k < 6) (q0 : q (3 * k) < 256) (q1 : q (3 * k + 1) < 256) (q2 : q (3 * k + 2) ≤ 256) : gM l D ty yX8_tries cX8_tries 5 none r_X8_tries 0 0 [.ref x0, .int (nI k)] [(x0, .inr (6, [.int (nI th), .ref i1, .ref i2, .int (nI sd), .ref i3, .int (nI ln), .ref j1, .ref j2, .ref j3, .ref j4, .ref j5, .ref j6, .int (nI fm), .int (nI rd), .int (nI (X.1)), .int (nI dr), .ref j7, .ref j8, .int (nI tt), .int (bI (wl)), .ref j9, .int (nI lm), .long (hs)])), (i1, .inl (ty 0, 275, .inl (eR (sM T q nr)))), (j1, .inl (ty 2, 256, .inl (zB F))), (j4, .inl (ty 2, 256, .inl (zB X.2.1))), (j5, .inl (ty 0, 256, .inl (ruA X.2.1 X.2.2 nb))), (j7, .inl (ty 0, 8, .inl (S0))), (j8, .inl (ty 0, 8, .inl (C0)))] (fun (zr : Option Value) (zW : va_W) => ∃ (S9 : Nat → Int32) (C9 : Nat → Int32), zr = none ∧ zW = [(x0, .inr (6, [.int (nI th), .ref i1, .ref i2, .int (nI sd), .ref i3, .int (nI ln), .ref j1, .ref j2, .ref j3, .ref j4, .ref j5, .ref j6, .int (nI fm), .int (nI rd), .int (nI ((pl F (foll F) (q (3 * k + 1)) (q (3 * k + 2)) (q (3 * k)) k 64 X).1)), .int (nI dr), .ref j7, .ref j8, .int (nI tt), .int (bI (wl)), .ref j9, .int (nI lm), .long (hs)])), (i1, .inl (ty 0, 275, .inl (eR (sM T q nr)))), (j1, .inl (ty 2, 256, .inl (zB F))), (j4, .inl (ty 2, 256, .inl (zB ((pl F (foll F) (q (3 * k + 1)) (q (3 * k + 2)) (q (3 * k)) k 64 X).2.1)))), (j5, .inl (ty 0, 256, .inl (ruA (pl F (foll F) (q (3 * k + 1)) (q (3 * k + 2)) (q (3 * k)) k 64 X).2.1 (pl F (foll F) (q (3 * k + 1)) (q (3 * k + 2)) (q (3 * k)) k 64 X).2.2 nb))), (j7, .inl (ty 0, 8, .inl (S9))), (j8, .inl (ty 0, 8, .inl (C9)))]) := by
  refine gM_of RX8 rfl (by decide +kernel) (Nat.le_of_ble_eq_true rfl) ?_
  intro pg en s0 mi ag bl mth cd AA HH QQ C E hnm
  show gW pg l en r_X8_tries s0 mi ag bl mth cd 5 D AA HH QQ 0 [(0, .ref x0), (1, .int (nI k))] [] [(x0, .inr (6, [.int (nI th), .ref i1, .ref i2, .int (nI sd), .ref i3, .int (nI ln), .ref j1, .ref j2, .ref j3, .ref j4, .ref j5, .ref j6, .int (nI fm), .int (nI rd), .int (nI (X.1)), .int (nI dr), .ref j7, .ref j8, .int (nI tt), .int (bI (wl)), .ref j9, .int (nI lm), .long (hs)])), (i1, .inl (ty 0, 275, .inl (eR (sM T q nr)))), (j1, .inl (ty 2, 256, .inl (zB F))), (j4, .inl (ty 2, 256, .inl (zB X.2.1))), (j5, .inl (ty 0, 256, .inl (ruA X.2.1 X.2.2 nb))), (j7, .inl (ty 0, 8, .inl (S0))), (j8, .inl (ty 0, 8, .inl (C0)))] 0 0
  refine g_aload_n C 0 rfl dX8_tries_0 ?_
  refine g_getf C wu_X8 0 rfl rfl 1 (by decide) wf_X8_7 rfl rfl dX8_tries_1 ?_
  refine g_sipush C (nI 257) sp_257 dX8_tries_4 ?_
  refine g_iconst C (nI 3) ic_3 dX8_tries_7 ?_
  refine g_iload_n C 1 rfl dX8_tries_8 ?_
  refine g_imul C (nI (3 * k)) dX8_tries_9 (pk_mul _ _) ?_
  refine g_iadd C (nI (257 + (3 * k))) dX8_tries_10 (nI_add _ _) ?_
  refine g_iconst C (nI 1) ic_1 dX8_tries_11 ?_
  refine g_iadd C (nI ((257 + (3 * k)) + 1)) dX8_tries_12 (nI_add _ _) ?_
  refine g_iald C 1 rfl ((257 + (3 * k)) + 1) rfl (by omega) (by decide) (nI (q (3 * k + 1))) ((sM_q (3 * k + 1)).trans (eA_n (by omega))) dX8_tries_13 ?_
  refine g_istore_n C [(2, .int (nI (q (3 * k + 1)))), (0, .ref x0), (1, .int (nI k))] dX8_tries_14 rfl (by decide) rfl ?_
  refine g_aload_n C 1 rfl dX8_tries_15 ?_
  refine g_getf C wu_X8 0 rfl rfl 1 (by decide) wf_X8_7 rfl rfl dX8_tries_16 ?_
  refine g_sipush C (nI 257) sp_257 dX8_tries_19 ?_
  refine g_iconst C (nI 3) ic_3 dX8_tries_22 ?_
  refine g_iload_n C 2 rfl dX8_tries_23 ?_
  refine g_imul C (nI (3 * k)) dX8_tries_24 (pk_mul _ _) ?_
  refine g_iadd C (nI (257 + (3 * k))) dX8_tries_25 (nI_add _ _) ?_
  refine g_iconst C (nI 2) ic_2 dX8_tries_26 ?_
  refine g_iadd C (nI ((257 + (3 * k)) + 2)) dX8_tries_27 (nI_add _ _) ?_
  refine g_iald C 1 rfl ((257 + (3 * k)) + 2) rfl (by omega) (by decide) (eA (q (3 * k + 2))) (sM_q (3 * k + 2)) dX8_tries_28 ?_
  refine g_istore_n C [(3, .int (eA (q (3 * k + 2)))), (2, .int (nI (q (3 * k + 1)))), (0, .ref x0), (1, .int (nI k))] dX8_tries_29 rfl (by decide) rfl ?_
  refine g_iload_n C 1 rfl dX8_tries_30 ?_
  refine g_bipush C (nI 64) bp_64 dX8_tries_31 ?_
  refine g_idiv C (nI ((q (3 * k + 1)) / 64)) (by decide +kernel) dX8_tries_33 (pk_div (by omega) (by omega) (by omega)) ?_
  refine g_bipush C (nI 64) bp_64 dX8_tries_34 ?_
  refine g_imul C (nI (((q (3 * k + 1)) / 64) * 64)) dX8_tries_36 (pk_mul _ _) ?_
  refine g_istore C [(4, .int (nI (((q (3 * k + 1)) / 64) * 64))), (3, .int (eA (q (3 * k + 2)))), (2, .int (nI (q (3 * k + 1)))), (0, .ref x0), (1, .int (nI k))] dX8_tries_37 (by decide) rfl ?_
  refine g_lo [3, 4, 2, 1, 0] [(0, .ref x0), (1, .int (nI k)), (2, .int (nI (q (3 * k + 1)))), (3, .int (eA (q (3 * k + 2)))), (4, .int (nI (((q (3 * k + 1)) / 64) * 64)))] rfl ?_
  refine g_ws [(x0, .inr (6, [.int (nI th), .ref i1, .ref i2, .int (nI sd), .ref i3, .int (nI ln), .ref j1, .ref j2, .ref j3, .ref j4, .ref j5, .ref j6, .int (nI fm), .int (nI rd), .int (nI ((pl F (foll F) (q (3 * k + 1)) (q (3 * k + 2)) (q (3 * k)) k 0 X).1)), .int (nI dr), .ref j7, .ref j8, .int (nI tt), .int (bI (wl)), .ref j9, .int (nI lm), .long (hs)])), (i1, .inl (ty 0, 275, .inl (eR (sM T q nr)))), (j1, .inl (ty 2, 256, .inl (zB F))), (j4, .inl (ty 2, 256, .inl (zB ((pl F (foll F) (q (3 * k + 1)) (q (3 * k + 2)) (q (3 * k)) k 0 X).2.1)))), (j5, .inl (ty 0, 256, .inl (ruA (pl F (foll F) (q (3 * k + 1)) (q (3 * k + 2)) (q (3 * k)) k 0 X).2.1 (pl F (foll F) (q (3 * k + 1)) (q (3 * k + 2)) (q (3 * k)) k 0 X).2.2 nb))), (j7, .inl (ty 0, 8, .inl (S0))), (j8, .inl (ty 0, 8, .inl (C0)))] rfl ?_
  have L39 : ∀ (fu39 : Nat) (i : Nat) (S1 : Nat → Int32) (C1 : Nat → Int32) (hi : i ≤ 64), (64 - i) < fu39 → gW pg l en r_X8_tries s0 mi ag bl mth cd 5 D AA HH QQ 39 [(0, .ref x0), (1, .int (nI k)), (2, .int (nI (q (3 * k + 1)))), (3, .int (eA (q (3 * k + 2)))), (4, .int (nI ((q (3 * k + 1) / 64) * 64 + i)))] [] [(x0, .inr (6, [.int (nI th), .ref i1, .ref i2, .int (nI sd), .ref i3, .int (nI ln), .ref j1, .ref j2, .ref j3, .ref j4, .ref j5, .ref j6, .int (nI fm), .int (nI rd), .int (nI ((pl F (foll F) (q (3 * k + 1)) (q (3 * k + 2)) (q (3 * k)) k i X).1)), .int (nI dr), .ref j7, .ref j8, .int (nI tt), .int (bI (wl)), .ref j9, .int (nI lm), .long (hs)])), (i1, .inl (ty 0, 275, .inl (eR (sM T q nr)))), (j1, .inl (ty 2, 256, .inl (zB F))), (j4, .inl (ty 2, 256, .inl (zB ((pl F (foll F) (q (3 * k + 1)) (q (3 * k + 2)) (q (3 * k)) k i X).2.1)))), (j5, .inl (ty 0, 256, .inl (ruA (pl F (foll F) (q (3 * k + 1)) (q (3 * k + 2)) (q (3 * k)) k i X).2.1 (pl F (foll F) (q (3 * k + 1)) (q (3 * k + 2)) (q (3 * k)) k i X).2.2 nb))), (j7, .inl (ty 0, 8, .inl (S1))), (j8, .inl (ty 0, 8, .inl (C1)))] 0 0 := by
    intro fu39
    induction fu39 with
    | zero => intro i S1 C1 hi hfu; exact absurd hfu (Nat.not_lt_zero _)
    | succ fu39 ih39 =>
      intro i S1 C1 hi hfu39
      refine g_iload C 4 rfl dX8_tries_39 ?_
      refine g_iload_n C 2 rfl dX8_tries_41 ?_
      refine g_bipush C (nI 64) bp_64 dX8_tries_42 ?_
      refine g_idiv C (nI ((q (3 * k + 1)) / 64)) (by decide +kernel) dX8_tries_44 (pk_div (by omega) (by omega) (by omega)) ?_
      refine g_bipush C (nI 64) bp_64 dX8_tries_45 ?_
      refine g_imul C (nI (((q (3 * k + 1)) / 64) * 64)) dX8_tries_47 (pk_mul _ _) ?_
      refine g_bipush C (nI 64) bp_64 dX8_tries_48 ?_
      refine g_iadd C (nI ((((q (3 * k + 1)) / 64) * 64) + 64)) dX8_tries_50 (nI_add _ _) ?_
      refine g_icmp_geN C ((q (3 * k + 1) / 64) * 64 + i) ((((q (3 * k + 1)) / 64) * 64) + 64) 117 rfl rfl (by omega) (by omega) dX8_tries_51 rfl (fun c51 => ?_) (fun c51 => ?_)
      · skip
        refine g_ws [(x0, .inr (6, [.int (nI th), .ref i1, .ref i2, .int (nI sd), .ref i3, .int (nI ln), .ref j1, .ref j2, .ref j3, .ref j4, .ref j5, .ref j6, .int (nI fm), .int (nI rd), .int (nI ((pl F (foll F) (q (3 * k + 1)) (q (3 * k + 2)) (q (3 * k)) k 64 X).1)), .int (nI dr), .ref j7, .ref j8, .int (nI tt), .int (bI (wl)), .ref j9, .int (nI lm), .long (hs)])), (i1, .inl (ty 0, 275, .inl (eR (sM T q nr)))), (j1, .inl (ty 2, 256, .inl (zB F))), (j4, .inl (ty 2, 256, .inl (zB ((pl F (foll F) (q (3 * k + 1)) (q (3 * k + 2)) (q (3 * k)) k 64 X).2.1)))), (j5, .inl (ty 0, 256, .inl (ruA (pl F (foll F) (q (3 * k + 1)) (q (3 * k + 2)) (q (3 * k)) k 64 X).2.1 (pl F (foll F) (q (3 * k + 1)) (q (3 * k + 2)) (q (3 * k)) k 64 X).2.2 nb))), (j7, .inl (ty 0, 8, .inl (S1))), (j8, .inl (ty 0, 8, .inl (C1)))] (by rw [show i = 64 by omega]) ?_
        exact g_vret E dX8_tries_117 (by decide) (by decide) ⟨S1, C1, rfl, rfl⟩
      · skip
        refine g_aload_n C 0 rfl dX8_tries_54 ?_
        refine g_getf C wu_X8 0 rfl rfl 6 (by decide) wf_X8_19 rfl rfl dX8_tries_55 ?_
        refine g_iload C 4 rfl dX8_tries_58 ?_
        refine g_zald C 2 rfl ((q (3 * k + 1) / 64) * 64 + i) rfl (by omega) (by decide) (bI (F ((q (3 * k + 1) / 64) * 64 + i))) rfl dX8_tries_60 ?_
        refine g_if_eqB C (F ((q (3 * k + 1) / 64) * 64 + i)) 92 rfl dX8_tries_61 rfl (fun c61 => ?_) (fun c61 => ?_)
        · skip
          have hpl := pl_f (G := foll F) (o := (q (3 * k + 2))) (h := (q (3 * k))) (k := k) (X := X) c61
          refine g_aload_n C 0 rfl dX8_tries_92 ?_
          refine g_getf C wu_X8 0 rfl rfl 6 (by decide) wf_X8_19 rfl rfl dX8_tries_93 ?_
          refine g_iload C 4 rfl dX8_tries_96 ?_
          refine g_zald C 2 rfl ((q (3 * k + 1) / 64) * 64 + i) rfl (by omega) (by decide) (bI (F ((q (3 * k + 1) / 64) * 64 + i))) rfl dX8_tries_98 ?_
          refine g_if_eqB C (F ((q (3 * k + 1) / 64) * 64 + i)) 111 rfl dX8_tries_99 rfl (fun c99 => ?_) (fun c99 => ?_)
          · skip
            refine g_ws [(x0, .inr (6, [.int (nI th), .ref i1, .ref i2, .int (nI sd), .ref i3, .int (nI ln), .ref j1, .ref j2, .ref j3, .ref j4, .ref j5, .ref j6, .int (nI fm), .int (nI rd), .int (nI ((pl F (foll F) (q (3 * k + 1)) (q (3 * k + 2)) (q (3 * k)) k (i + 1) X).1)), .int (nI dr), .ref j7, .ref j8, .int (nI tt), .int (bI (wl)), .ref j9, .int (nI lm), .long (hs)])), (i1, .inl (ty 0, 275, .inl (eR (sM T q nr)))), (j1, .inl (ty 2, 256, .inl (zB F))), (j4, .inl (ty 2, 256, .inl (zB ((pl F (foll F) (q (3 * k + 1)) (q (3 * k + 2)) (q (3 * k)) k (i + 1) X).2.1)))), (j5, .inl (ty 0, 256, .inl (ruA (pl F (foll F) (q (3 * k + 1)) (q (3 * k + 2)) (q (3 * k)) k (i + 1) X).2.1 (pl F (foll F) (q (3 * k + 1)) (q (3 * k + 2)) (q (3 * k)) k (i + 1) X).2.2 nb))), (j7, .inl (ty 0, 8, .inl (S1))), (j8, .inl (ty 0, 8, .inl (C1)))] (by rw [hpl]) ?_
            refine g_iinc C (nI (((q (3 * k + 1) / 64) * 64 + i) + 1)) [(4, .int (nI (((q (3 * k + 1) / 64) * 64 + i) + 1))), (0, .ref x0), (1, .int (nI k)), (2, .int (nI (q (3 * k + 1)))), (3, .int (eA (q (3 * k + 2))))] 4 dX8_tries_111 rfl (ii_1 _) (by decide) rfl ?_
            refine g_goto C 39 dX8_tries_114 rfl ?_
            refine g_lo [1, 2, 3, 4, 0] [(0, .ref x0), (1, .int (nI k)), (2, .int (nI (q (3 * k + 1)))), (3, .int (eA (q (3 * k + 2)))), (4, .int (nI (((q (3 * k + 1) / 64) * 64 + i) + 1)))] rfl ?_
            exact ih39 (i + 1) S1 C1 (by omega) (by omega)
          · skip
            exact absurd (c61.symm.trans c99) (by decide)
        · skip
          refine g_iload_n C 3 rfl dX8_tries_64 ?_
          refine g_iconst C (-1) ic_m1 dX8_tries_65 ?_
          refine g_icmp_ne C 92 dX8_tries_66 rfl (fun c66 => ?_) (fun c66 => ?_)
          · skip
            have ho : (q (3 * k + 2)) ≠ 256 := fun z => c66 ((eA_m1 q2).mpr z)
            have hs5 := isF_5 (hF _ c61).1
            have hpl := pl_b (G := foll F) (h := (q (3 * k))) (k := k) (X := X) hF c61 ho (by omega)
            refine g_lo2 [(0, .ref x0), (1, .int (nI k)), (2, .int (nI (q (3 * k + 1)))), (3, .int (nI (q (3 * k + 2)))), (4, .int (nI ((q (3 * k + 1) / 64) * 64 + i)))] (by rw [eA_n ho]) ?_
            refine g_aload_n C 0 rfl dX8_tries_92 ?_
            refine g_getf C wu_X8 0 rfl rfl 6 (by decide) wf_X8_19 rfl rfl dX8_tries_93 ?_
            refine g_iload C 4 rfl dX8_tries_96 ?_
            refine g_zald C 2 rfl ((q (3 * k + 1) / 64) * 64 + i) rfl (by omega) (by decide) (bI (F ((q (3 * k + 1) / 64) * 64 + i))) rfl dX8_tries_98 ?_
            refine g_if_eqB C (F ((q (3 * k + 1) / 64) * 64 + i)) 111 rfl dX8_tries_99 rfl (fun c99 => ?_) (fun c99 => ?_)
            · skip
              exact absurd (c61.symm.trans c99) (by decide)
            · skip
              refine g_aload_n C 0 rfl dX8_tries_102 ?_
              refine g_iload_n C 1 rfl dX8_tries_103 ?_
              refine g_iload_n C 2 rfl dX8_tries_104 ?_
              refine g_iload C 4 rfl dX8_tries_105 ?_
              refine g_iload_n C 3 rfl dX8_tries_107 ?_
              refine g_callV C (nA := 4) (ci := 6) (q0 := 0) (As := [.int (nI k), .int (nI (q (3 * k + 1))), .int (nI ((q (3 * k + 1) / 64) * 64 + i)), .int (nI (q (3 * k + 2)))]) (wr := []) (k_X8_triesBoth l D ty x0 th i1 i2 sd i3 ln j1 j2 j3 j4 j5 j6 fm rd dr j7 j8 tt wl j9 lm hs T q nr F nb (pl F (foll F) (q (3 * k + 1)) (q (3 * k + 2)) (q (3 * k)) k i X) S1 C1 k (q (3 * k + 1)) ((q (3 * k + 1) / 64) * 64 + i) (q (3 * k + 2)) hF (by omega) (by omega) (by omega) (by omega) hs5 (by omega)) wm_X8_105 wn_X8_triesBoth wv_X8_triesBoth wi_X8 wc_X8_triesBoth rfl (by decide +kernel) ⟨(Nat.le_of_ble_eq_true rfl), (Nat.le_of_ble_eq_true rfl)⟩ ⟨rfl, rfl⟩ dX8_tries_108 ⟨Nat.zero_le _, Nat.zero_le _⟩ rfl rfl rfl [0, 1, 2, 3, 4, 5, 6] [] rfl rfl rfl rfl (by decide) (Nat.le_of_ble_eq_true rfl) rfl (fun r W1 hp => ?_)
              obtain ⟨S91, C92, rfl, rfl⟩ := hp
              refine g_fix [] [(x0, .inr (6, [.int (nI th), .ref i1, .ref i2, .int (nI sd), .ref i3, .int (nI ln), .ref j1, .ref j2, .ref j3, .ref j4, .ref j5, .ref j6, .int (nI fm), .int (nI rd), .int (nI ((inB F (foll F) (q (3 * k + 1)) ((q (3 * k + 1) / 64) * 64 + i) (q (3 * k + 2)) (q (3 * k)) k 64 (pl F (foll F) (q (3 * k + 1)) (q (3 * k + 2)) (q (3 * k)) k i X)).1)), .int (nI dr), .ref j7, .ref j8, .int (nI tt), .int (bI (wl)), .ref j9, .int (nI lm), .long (hs)])), (i1, .inl (ty 0, 275, .inl (eR (sM T q nr)))), (j1, .inl (ty 2, 256, .inl (zB F))), (j4, .inl (ty 2, 256, .inl (zB ((inB F (foll F) (q (3 * k + 1)) ((q (3 * k + 1) / 64) * 64 + i) (q (3 * k + 2)) (q (3 * k)) k 64 (pl F (foll F) (q (3 * k + 1)) (q (3 * k + 2)) (q (3 * k)) k i X)).2.1)))), (j5, .inl (ty 0, 256, .inl (ruA (inB F (foll F) (q (3 * k + 1)) ((q (3 * k + 1) / 64) * 64 + i) (q (3 * k + 2)) (q (3 * k)) k 64 (pl F (foll F) (q (3 * k + 1)) (q (3 * k + 2)) (q (3 * k)) k i X)).2.1 (inB F (foll F) (q (3 * k + 1)) ((q (3 * k + 1) / 64) * 64 + i) (q (3 * k + 2)) (q (3 * k)) k 64 (pl F (foll F) (q (3 * k + 1)) (q (3 * k + 2)) (q (3 * k)) k i X)).2.2 nb))), (j7, .inl (ty 0, 8, .inl (S91))), (j8, .inl (ty 0, 8, .inl (C92)))] [0, 1, 2, 3, 4, 5, 6] rfl rfl rfl ?_
              refine g_lo2 [(0, .ref x0), (1, .int (nI k)), (2, .int (nI (q (3 * k + 1)))), (3, .int (eA (q (3 * k + 2)))), (4, .int (nI ((q (3 * k + 1) / 64) * 64 + i)))] (by rw [eA_n ho]) ?_
              refine g_ws [(x0, .inr (6, [.int (nI th), .ref i1, .ref i2, .int (nI sd), .ref i3, .int (nI ln), .ref j1, .ref j2, .ref j3, .ref j4, .ref j5, .ref j6, .int (nI fm), .int (nI rd), .int (nI ((pl F (foll F) (q (3 * k + 1)) (q (3 * k + 2)) (q (3 * k)) k (i + 1) X).1)), .int (nI dr), .ref j7, .ref j8, .int (nI tt), .int (bI (wl)), .ref j9, .int (nI lm), .long (hs)])), (i1, .inl (ty 0, 275, .inl (eR (sM T q nr)))), (j1, .inl (ty 2, 256, .inl (zB F))), (j4, .inl (ty 2, 256, .inl (zB ((pl F (foll F) (q (3 * k + 1)) (q (3 * k + 2)) (q (3 * k)) k (i + 1) X).2.1)))), (j5, .inl (ty 0, 256, .inl (ruA (pl F (foll F) (q (3 * k + 1)) (q (3 * k + 2)) (q (3 * k)) k (i + 1) X).2.1 (pl F (foll F) (q (3 * k + 1)) (q (3 * k + 2)) (q (3 * k)) k (i + 1) X).2.2 nb))), (j7, .inl (ty 0, 8, .inl (S91))), (j8, .inl (ty 0, 8, .inl (C92)))] (by rw [hpl]) ?_
              refine g_iinc C (nI (((q (3 * k + 1) / 64) * 64 + i) + 1)) [(4, .int (nI (((q (3 * k + 1) / 64) * 64 + i) + 1))), (0, .ref x0), (1, .int (nI k)), (2, .int (nI (q (3 * k + 1)))), (3, .int (eA (q (3 * k + 2))))] 4 dX8_tries_111 rfl (ii_1 _) (by decide) rfl ?_
              refine g_goto C 39 dX8_tries_114 rfl ?_
              refine g_lo [1, 2, 3, 4, 0] [(0, .ref x0), (1, .int (nI k)), (2, .int (nI (q (3 * k + 1)))), (3, .int (eA (q (3 * k + 2)))), (4, .int (nI (((q (3 * k + 1) / 64) * 64 + i) + 1)))] rfl ?_
              exact ih39 (i + 1) S91 C92 (by omega) (by omega)
          · skip
            have ho := (eA_m1 q2).mp c66
            have hs5 := isF_5 (hF _ c61).1
            have hpl0 := pl_o (G := foll F) (h := (q (3 * k))) (k := k) (X := X) c61 ho (by omega)
            refine g_aload_n C 0 rfl dX8_tries_69 ?_
            refine g_callV C (nA := 0) (ci := 6) (q0 := 0) (As := []) (wr := [(i1, .inl (ty 0, 275, .inl (eR (sM T q nr)))), (j1, .inl (ty 2, 256, .inl (zB F))), (j4, .inl (ty 2, 256, .inl (zB ((pl F (foll F) (q (3 * k + 1)) (q (3 * k + 2)) (q (3 * k)) k i X).2.1)))), (j5, .inl (ty 0, 256, .inl (ruA (pl F (foll F) (q (3 * k + 1)) (q (3 * k + 2)) (q (3 * k)) k i X).2.1 (pl F (foll F) (q (3 * k + 1)) (q (3 * k + 2)) (q (3 * k)) k i X).2.2 nb)))]) (k_X8_opensPlaces l D ty x0 th i1 i2 sd i3 ln j1 j2 j3 j4 j5 j6 fm rd ((pl F (foll F) (q (3 * k + 1)) (q (3 * k + 2)) (q (3 * k)) k i X).1) dr j7 j8 tt wl j9 lm hs S1 C1 ) wm_X8_95 wn_X8_opensPlaces wv_X8_opensPlaces wi_X8 wc_X8_opensPlaces rfl (by decide +kernel) ⟨(Nat.le_of_ble_eq_true rfl), (Nat.le_of_ble_eq_true rfl)⟩ ⟨rfl, rfl⟩ dX8_tries_70 ⟨Nat.zero_le _, Nat.zero_le _⟩ rfl rfl rfl [0, 5, 6] [1, 2, 3, 4] rfl rfl rfl rfl (by decide) (Nat.le_of_ble_eq_true rfl) rfl (fun r W1 hp => ?_)
            obtain ⟨rfl, rfl⟩ := hp
            refine g_fix [] [(x0, .inr (6, [.int (nI th), .ref i1, .ref i2, .int (nI sd), .ref i3, .int (nI ln), .ref j1, .ref j2, .ref j3, .ref j4, .ref j5, .ref j6, .int (nI fm), .int (nI rd), .int (nI (((pl F (foll F) (q (3 * k + 1)) (q (3 * k + 2)) (q (3 * k)) k i X).1))), .int (nI dr), .ref j7, .ref j8, .int (nI tt), .int (bI (wl)), .ref j9, .int (nI lm), .long (hs)])), (i1, .inl (ty 0, 275, .inl (eR (sM T q nr)))), (j1, .inl (ty 2, 256, .inl (zB F))), (j4, .inl (ty 2, 256, .inl (zB ((pl F (foll F) (q (3 * k + 1)) (q (3 * k + 2)) (q (3 * k)) k i X).2.1)))), (j5, .inl (ty 0, 256, .inl (ruA (pl F (foll F) (q (3 * k + 1)) (q (3 * k + 2)) (q (3 * k)) k i X).2.1 (pl F (foll F) (q (3 * k + 1)) (q (3 * k + 2)) (q (3 * k)) k i X).2.2 nb))), (j7, .inl (ty 0, 8, .inl (tI (fun j => j)))), (j8, .inl (ty 0, 8, .inl (eR (fun _ => 256))))] [4, 0, 1, 2, 3, 5, 6] rfl rfl rfl ?_
            refine g_aload_n C 0 rfl dX8_tries_73 ?_
            refine g_iload_n C 2 rfl dX8_tries_74 ?_
            refine g_iload C 4 rfl dX8_tries_75 ?_
            refine g_iconst C (nI 4) ic_4 dX8_tries_77 ?_
            refine g_callV C (nA := 3) (ci := 6) (q0 := 0) (As := [.int (nI (q (3 * k + 1))), .int (nI ((q (3 * k + 1) / 64) * 64 + i)), .int (nI 4)]) (wr := [(i1, .inl (ty 0, 275, .inl (eR (sM T q nr)))), (j1, .inl (ty 2, 256, .inl (zB F))), (j4, .inl (ty 2, 256, .inl (zB ((pl F (foll F) (q (3 * k + 1)) (q (3 * k + 2)) (q (3 * k)) k i X).2.1)))), (j5, .inl (ty 0, 256, .inl (ruA (pl F (foll F) (q (3 * k + 1)) (q (3 * k + 2)) (q (3 * k)) k i X).2.1 (pl F (foll F) (q (3 * k + 1)) (q (3 * k + 2)) (q (3 * k)) k i X).2.2 nb)))]) (k_X8_isAlike l D ty x0 th i1 i2 sd i3 ln j1 j2 j3 j4 j5 j6 fm rd ((pl F (foll F) (q (3 * k + 1)) (q (3 * k + 2)) (q (3 * k)) k i X).1) dr j7 j8 tt wl j9 lm hs (fun j => j) ((fun j => j)) ((fun _ => 0)) (fun _ => 256) idL (q (3 * k + 1)) ((q (3 * k + 1) / 64) * 64 + i) 4 okG_0 okC_0 vl_id alr_0 (by omega) (by omega) hs5 (by omega)) wm_X8_98 wn_X8_isAlike wv_X8_isAlike wi_X8 wc_X8_isAlike rfl (by decide +kernel) ⟨(Nat.le_of_ble_eq_true rfl), (Nat.le_of_ble_eq_true rfl)⟩ ⟨rfl, rfl⟩ dX8_tries_78 ⟨Nat.zero_le _, Nat.zero_le _⟩ rfl rfl rfl [0, 5, 6] [1, 2, 3, 4] rfl rfl rfl rfl (by decide) (Nat.le_of_ble_eq_true rfl) rfl (fun r W1 hp => ?_)
            obtain ⟨g5, e5, hx5, rfl, rfl⟩ := hp
            refine g_fix [.int (bI ((al idL (q (3 * k + 1)) ((q (3 * k + 1) / 64) * 64 + i) 4).isSome))] [(x0, .inr (6, [.int (nI th), .ref i1, .ref i2, .int (nI sd), .ref i3, .int (nI ln), .ref j1, .ref j2, .ref j3, .ref j4, .ref j5, .ref j6, .int (nI fm), .int (nI rd), .int (nI (((pl F (foll F) (q (3 * k + 1)) (q (3 * k + 2)) (q (3 * k)) k i X).1))), .int (nI dr), .ref j7, .ref j8, .int (nI tt), .int (bI (wl)), .ref j9, .int (nI lm), .long (hs)])), (i1, .inl (ty 0, 275, .inl (eR (sM T q nr)))), (j1, .inl (ty 2, 256, .inl (zB F))), (j4, .inl (ty 2, 256, .inl (zB ((pl F (foll F) (q (3 * k + 1)) (q (3 * k + 2)) (q (3 * k)) k i X).2.1)))), (j5, .inl (ty 0, 256, .inl (ruA (pl F (foll F) (q (3 * k + 1)) (q (3 * k + 2)) (q (3 * k)) k i X).2.1 (pl F (foll F) (q (3 * k + 1)) (q (3 * k + 2)) (q (3 * k)) k i X).2.2 nb))), (j7, .inl (ty 0, 8, .inl (tI g5))), (j8, .inl (ty 0, 8, .inl (eR e5)))] [4, 0, 1, 2, 3, 5, 6] rfl rfl rfl ?_
            refine g_if_eqB C ((al idL (q (3 * k + 1)) ((q (3 * k + 1) / 64) * 64 + i) 4).isSome) 111 rfl dX8_tries_81 rfl (fun c81 => ?_) (fun c81 => ?_)
            · skip
              have hn4 : al idL (q (3 * k + 1)) ((q (3 * k + 1)) / 64 * 64 + i) 4 = none := Option.not_isSome_iff_eq_none.mp (by rw [c81]; decide)
              have hpl : (pl F (foll F) (q (3 * k + 1)) (q (3 * k + 2)) (q (3 * k)) k (i + 1) X) = (pl F (foll F) (q (3 * k + 1)) (q (3 * k + 2)) (q (3 * k)) k i X) := by rw [hpl0, hn4]; rfl
              refine g_ws [(x0, .inr (6, [.int (nI th), .ref i1, .ref i2, .int (nI sd), .ref i3, .int (nI ln), .ref j1, .ref j2, .ref j3, .ref j4, .ref j5, .ref j6, .int (nI fm), .int (nI rd), .int (nI ((pl F (foll F) (q (3 * k + 1)) (q (3 * k + 2)) (q (3 * k)) k (i + 1) X).1)), .int (nI dr), .ref j7, .ref j8, .int (nI tt), .int (bI (wl)), .ref j9, .int (nI lm), .long (hs)])), (i1, .inl (ty 0, 275, .inl (eR (sM T q nr)))), (j1, .inl (ty 2, 256, .inl (zB F))), (j4, .inl (ty 2, 256, .inl (zB ((pl F (foll F) (q (3 * k + 1)) (q (3 * k + 2)) (q (3 * k)) k (i + 1) X).2.1)))), (j5, .inl (ty 0, 256, .inl (ruA (pl F (foll F) (q (3 * k + 1)) (q (3 * k + 2)) (q (3 * k)) k (i + 1) X).2.1 (pl F (foll F) (q (3 * k + 1)) (q (3 * k + 2)) (q (3 * k)) k (i + 1) X).2.2 nb))), (j7, .inl (ty 0, 8, .inl (tI g5))), (j8, .inl (ty 0, 8, .inl (eR e5)))] (by rw [hpl]) ?_
              refine g_iinc C (nI (((q (3 * k + 1) / 64) * 64 + i) + 1)) [(4, .int (nI (((q (3 * k + 1) / 64) * 64 + i) + 1))), (0, .ref x0), (1, .int (nI k)), (2, .int (nI (q (3 * k + 1)))), (3, .int (eA (q (3 * k + 2))))] 4 dX8_tries_111 rfl (ii_1 _) (by decide) rfl ?_
              refine g_goto C 39 dX8_tries_114 rfl ?_
              refine g_lo [1, 2, 3, 4, 0] [(0, .ref x0), (1, .int (nI k)), (2, .int (nI (q (3 * k + 1)))), (3, .int (eA (q (3 * k + 2)))), (4, .int (nI (((q (3 * k + 1) / 64) * 64 + i) + 1)))] rfl ?_
              exact ih39 (i + 1) (tI g5) (eR e5) (by omega) (by omega)
            · skip
              obtain ⟨M, hal5⟩ := Option.isSome_iff_exists.mp c81
              obtain ⟨rt5, d5, hg5, hc5, hr5⟩ := hx5 M hal5
              have hpl := hpl0
              rw [hal5] at hpl
              refine g_aload_n C 0 rfl dX8_tries_84 ?_
              refine g_iload_n C 1 rfl dX8_tries_85 ?_
              refine g_callV C (nA := 1) (ci := 6) (q0 := 0) (As := [.int (nI k)]) (wr := []) (k_X8_comes l D ty x0 th i1 i2 sd i3 ln j1 j2 j3 j4 j5 j6 fm rd dr j7 j8 tt wl j9 lm hs T q nr F nb (pl F (foll F) (q (3 * k + 1)) (q (3 * k + 2)) (q (3 * k)) k i X) g5 rt5 d5 e5 M k hF (by omega) (by omega) hg5 hc5 hr5) wm_X8_101 wn_X8_comes wv_X8_comes wi_X8 wc_X8_comes rfl (by decide +kernel) ⟨(Nat.le_of_ble_eq_true rfl), (Nat.le_of_ble_eq_true rfl)⟩ ⟨rfl, rfl⟩ dX8_tries_86 ⟨Nat.zero_le _, Nat.zero_le _⟩ rfl rfl rfl [0, 1, 2, 3, 4, 5, 6] [] rfl rfl rfl rfl (by decide) (Nat.le_of_ble_eq_true rfl) rfl (fun r W1 hp => ?_)
              obtain ⟨rfl, rfl⟩ := hp
              refine g_fix [] [(x0, .inr (6, [.int (nI th), .ref i1, .ref i2, .int (nI sd), .ref i3, .int (nI ln), .ref j1, .ref j2, .ref j3, .ref j4, .ref j5, .ref j6, .int (nI fm), .int (nI rd), .int (nI ((stp (foll F) (some M) (q (3 * k)) k (pl F (foll F) (q (3 * k + 1)) (q (3 * k + 2)) (q (3 * k)) k i X)).1)), .int (nI dr), .ref j7, .ref j8, .int (nI tt), .int (bI (wl)), .ref j9, .int (nI lm), .long (hs)])), (i1, .inl (ty 0, 275, .inl (eR (sM T q nr)))), (j1, .inl (ty 2, 256, .inl (zB F))), (j4, .inl (ty 2, 256, .inl (zB ((stp (foll F) (some M) (q (3 * k)) k (pl F (foll F) (q (3 * k + 1)) (q (3 * k + 2)) (q (3 * k)) k i X)).2.1)))), (j5, .inl (ty 0, 256, .inl (ruA (stp (foll F) (some M) (q (3 * k)) k (pl F (foll F) (q (3 * k + 1)) (q (3 * k + 2)) (q (3 * k)) k i X)).2.1 (stp (foll F) (some M) (q (3 * k)) k (pl F (foll F) (q (3 * k + 1)) (q (3 * k + 2)) (q (3 * k)) k i X)).2.2 nb))), (j7, .inl (ty 0, 8, .inl (tI g5))), (j8, .inl (ty 0, 8, .inl (eR e5)))] [0, 1, 2, 3, 4, 5, 6] rfl rfl rfl ?_
              refine g_goto C 111 dX8_tries_89 rfl ?_
              refine g_ws [(x0, .inr (6, [.int (nI th), .ref i1, .ref i2, .int (nI sd), .ref i3, .int (nI ln), .ref j1, .ref j2, .ref j3, .ref j4, .ref j5, .ref j6, .int (nI fm), .int (nI rd), .int (nI ((pl F (foll F) (q (3 * k + 1)) (q (3 * k + 2)) (q (3 * k)) k (i + 1) X).1)), .int (nI dr), .ref j7, .ref j8, .int (nI tt), .int (bI (wl)), .ref j9, .int (nI lm), .long (hs)])), (i1, .inl (ty 0, 275, .inl (eR (sM T q nr)))), (j1, .inl (ty 2, 256, .inl (zB F))), (j4, .inl (ty 2, 256, .inl (zB ((pl F (foll F) (q (3 * k + 1)) (q (3 * k + 2)) (q (3 * k)) k (i + 1) X).2.1)))), (j5, .inl (ty 0, 256, .inl (ruA (pl F (foll F) (q (3 * k + 1)) (q (3 * k + 2)) (q (3 * k)) k (i + 1) X).2.1 (pl F (foll F) (q (3 * k + 1)) (q (3 * k + 2)) (q (3 * k)) k (i + 1) X).2.2 nb))), (j7, .inl (ty 0, 8, .inl (tI g5))), (j8, .inl (ty 0, 8, .inl (eR e5)))] (by rw [hpl]) ?_
              refine g_iinc C (nI (((q (3 * k + 1) / 64) * 64 + i) + 1)) [(4, .int (nI (((q (3 * k + 1) / 64) * 64 + i) + 1))), (0, .ref x0), (1, .int (nI k)), (2, .int (nI (q (3 * k + 1)))), (3, .int (eA (q (3 * k + 2))))] 4 dX8_tries_111 rfl (ii_1 _) (by decide) rfl ?_
              refine g_goto C 39 dX8_tries_114 rfl ?_
              refine g_lo [1, 2, 3, 4, 0] [(0, .ref x0), (1, .int (nI k)), (2, .int (nI (q (3 * k + 1)))), (3, .int (eA (q (3 * k + 2)))), (4, .int (nI (((q (3 * k + 1) / 64) * 64 + i) + 1)))] rfl ?_
              exact ih39 (i + 1) (tI g5) (eR e5) (by omega) (by omega)
  exact L39 (64 - 0 + 1) 0 S0 C0 (by omega) (Nat.lt_succ_self _)
def r_X8_round : Room := { frames := 6, cells := 0, slots := 0, locals := 140 }
set_option maxRecDepth 100000 in
set_option maxHeartbeats 4000000 in
theorem k_X8_round (l : Launch) (D : va_G) (ty : Nat → ClassId) (x0 : Nat) (th : Nat) (i1 : Nat) (i2 : Nat) (sd : Nat) (i3 : Nat) (ln : Nat) (j1 : Nat) (j2 : Nat) (j3 : Nat) (j4 : Nat) (j5 : Nat) (j6 : Nat) (fm : Nat) (rd : Nat) (mt : Nat) (dr : Nat) (j7 : Nat) (j8 : Nat) (tt : Nat) (wl : Bool) (j9 : Nat) (lm : Nat) (hs : Int64) (T : Nat → Bool) (q : Nat → Nat) (nr : Nat) (F : Nat → Bool) (nb : Nat → Int32) (ro : Nat → Int32) (ru : Nat → Int32) (U0 : Nat → Bool) (S0 : Nat → Int32) (C0 : Nat → Int32) (b : Nat) (hF : okF F) (hq : okQ q nr) (hb : b ≤ 256) : gM l D ty yX8_round cX8_round 4 (some (FieldType.boolean : FieldType)) r_X8_round 0 0 [.ref x0, .int (eA b)] [(x0, .inr (6, [.int (nI th), .ref i1, .ref i2, .int (nI sd), .ref i3, .int (nI ln), .ref j1, .ref j2, .ref j3, .ref j4, .ref j5, .ref j6, .int (nI fm), .int (nI rd), .int (nI mt), .int (nI dr), .ref j7, .ref j8, .int (nI tt), .int (bI (wl)), .ref j9, .int (nI lm), .long (hs)])), (i1, .inl (ty 0, 275, .inl (eR (sM T q nr)))), (j1, .inl (ty 2, 256, .inl (zB F))), (j2, .inl (ty 0, 256, .inl (ro))), (j3, .inl (ty 0, 256, .inl (ru))), (j4, .inl (ty 2, 256, .inl (zB U0))), (j5, .inl (ty 0, 256, .inl (nb))), (j7, .inl (ty 0, 8, .inl (S0))), (j8, .inl (ty 0, 8, .inl (C0)))] (fun (zr : Option Value) (zW : va_W) => ∃ (S9 : Nat → Int32) (C9 : Nat → Int32), zr = some (.int (bI (decide (zcnt (rusB F (foll F) q b nr (mt, zNo, fun _ => 0)).2.1 256 ≠ 0)))) ∧ zW = [(x0, .inr (6, [.int (nI th), .ref i1, .ref i2, .int (nI sd), .ref i3, .int (nI ln), .ref j1, .ref j2, .ref j3, .ref j4, .ref j5, .ref j6, .int (nI (fm + zcnt (rusB F (foll F) q b nr (mt, zNo, fun _ => 0)).2.1 256)), .int (nI rd), .int (nI ((rusB F (foll F) q b nr (mt, zNo, fun _ => 0)).1)), .int (nI dr), .ref j7, .ref j8, .int (nI tt), .int (bI (wl)), .ref j9, .int (nI lm), .long (hs)])), (i1, .inl (ty 0, 275, .inl (eR (sM T q nr)))), (j1, .inl (ty 2, 256, .inl (zB (zOr F (rusB F (foll F) q b nr (mt, zNo, fun _ => 0)).2.1)))), (j2, .inl (ty 0, 256, .inl (roA (rusB F (foll F) q b nr (mt, zNo, fun _ => 0)).2.1 rd ro))), (j3, .inl (ty 0, 256, .inl (ruA (rusB F (foll F) q b nr (mt, zNo, fun _ => 0)).2.1 (rusB F (foll F) q b nr (mt, zNo, fun _ => 0)).2.2 ru))), (j4, .inl (ty 2, 256, .inl (zB ((rusB F (foll F) q b nr (mt, zNo, fun _ => 0)).2.1)))), (j5, .inl (ty 0, 256, .inl (ruA (rusB F (foll F) q b nr (mt, zNo, fun _ => 0)).2.1 (rusB F (foll F) q b nr (mt, zNo, fun _ => 0)).2.2 nb))), (j7, .inl (ty 0, 8, .inl (S9))), (j8, .inl (ty 0, 8, .inl (C9)))]) := by
  have h6 := hq.1
  have hU : okF (rusB F (foll F) q b nr (mt, zNo, fun _ => 0)).2.1 := okF_rusB hq okF_no nr (Nat.le_refl _)
  refine gM_of RX8 rfl (by decide +kernel) (Nat.le_of_ble_eq_true rfl) ?_
  intro pg en s0 mi ag bl mth cd AA HH QQ C E hnm
  show gW pg l en r_X8_round s0 mi ag bl mth cd 4 D AA HH QQ 0 [(0, .ref x0), (1, .int (eA b))] [] [(x0, .inr (6, [.int (nI th), .ref i1, .ref i2, .int (nI sd), .ref i3, .int (nI ln), .ref j1, .ref j2, .ref j3, .ref j4, .ref j5, .ref j6, .int (nI fm), .int (nI rd), .int (nI mt), .int (nI dr), .ref j7, .ref j8, .int (nI tt), .int (bI (wl)), .ref j9, .int (nI lm), .long (hs)])), (i1, .inl (ty 0, 275, .inl (eR (sM T q nr)))), (j1, .inl (ty 2, 256, .inl (zB F))), (j2, .inl (ty 0, 256, .inl (ro))), (j3, .inl (ty 0, 256, .inl (ru))), (j4, .inl (ty 2, 256, .inl (zB U0))), (j5, .inl (ty 0, 256, .inl (nb))), (j7, .inl (ty 0, 8, .inl (S0))), (j8, .inl (ty 0, 8, .inl (C0)))] 0 0
  refine g_iconst C (nI 0) ic_0 dX8_round_0 ?_
  refine g_istore_n C [(2, .int (nI 0)), (0, .ref x0), (1, .int (eA b))] dX8_round_1 rfl (by decide) rfl ?_
  refine g_lo [1, 2, 0] [(0, .ref x0), (1, .int (eA b)), (2, .int (nI 0))] rfl ?_
  refine g_ws [(x0, .inr (6, [.int (nI th), .ref i1, .ref i2, .int (nI sd), .ref i3, .int (nI ln), .ref j1, .ref j2, .ref j3, .ref j4, .ref j5, .ref j6, .int (nI fm), .int (nI rd), .int (nI mt), .int (nI dr), .ref j7, .ref j8, .int (nI tt), .int (bI (wl)), .ref j9, .int (nI lm), .long (hs)])), (i1, .inl (ty 0, 275, .inl (eR (sM T q nr)))), (j1, .inl (ty 2, 256, .inl (zB F))), (j2, .inl (ty 0, 256, .inl (ro))), (j3, .inl (ty 0, 256, .inl (ru))), (j4, .inl (ty 2, 256, .inl (zfl (zB zNo) (zB U0) 0))), (j5, .inl (ty 0, 256, .inl (nb))), (j7, .inl (ty 0, 8, .inl (S0))), (j8, .inl (ty 0, 8, .inl (C0)))] (by rw [zfl_0]) ?_
  have L2 : ∀ (fu2 : Nat) (i : Nat) (hi : i ≤ 256), (256 - i) < fu2 → gW pg l en r_X8_round s0 mi ag bl mth cd 4 D AA HH QQ 2 [(0, .ref x0), (1, .int (eA b)), (2, .int (nI i))] [] [(x0, .inr (6, [.int (nI th), .ref i1, .ref i2, .int (nI sd), .ref i3, .int (nI ln), .ref j1, .ref j2, .ref j3, .ref j4, .ref j5, .ref j6, .int (nI fm), .int (nI rd), .int (nI mt), .int (nI dr), .ref j7, .ref j8, .int (nI tt), .int (bI (wl)), .ref j9, .int (nI lm), .long (hs)])), (i1, .inl (ty 0, 275, .inl (eR (sM T q nr)))), (j1, .inl (ty 2, 256, .inl (zB F))), (j2, .inl (ty 0, 256, .inl (ro))), (j3, .inl (ty 0, 256, .inl (ru))), (j4, .inl (ty 2, 256, .inl (zfl (zB zNo) (zB U0) i))), (j5, .inl (ty 0, 256, .inl (nb))), (j7, .inl (ty 0, 8, .inl (S0))), (j8, .inl (ty 0, 8, .inl (C0)))] 0 0 := by
    intro fu2
    induction fu2 with
    | zero => intro i hi hfu; exact absurd hfu (Nat.not_lt_zero _)
    | succ fu2 ih2 =>
      intro i hi hfu2
      refine g_iload_n C 2 rfl dX8_round_2 ?_
      refine g_sipush C (nI 256) sp_256 dX8_round_3 ?_
      refine g_icmp_geN C i 256 22 rfl rfl (by omega) (by omega) dX8_round_6 rfl (fun c6 => ?_) (fun c6 => ?_)
      · skip
        refine g_extI 5 rfl (zB zNo) (fun j hj => zfl_in _ _ (show j < i by omega)) [(x0, .inr (6, [.int (nI th), .ref i1, .ref i2, .int (nI sd), .ref i3, .int (nI ln), .ref j1, .ref j2, .ref j3, .ref j4, .ref j5, .ref j6, .int (nI fm), .int (nI rd), .int (nI mt), .int (nI dr), .ref j7, .ref j8, .int (nI tt), .int (bI (wl)), .ref j9, .int (nI lm), .long (hs)])), (i1, .inl (ty 0, 275, .inl (eR (sM T q nr)))), (j1, .inl (ty 2, 256, .inl (zB F))), (j2, .inl (ty 0, 256, .inl (ro))), (j3, .inl (ty 0, 256, .inl (ru))), (j4, .inl (ty 2, 256, .inl (zB zNo))), (j5, .inl (ty 0, 256, .inl (nb))), (j7, .inl (ty 0, 8, .inl (S0))), (j8, .inl (ty 0, 8, .inl (C0)))] rfl ?_
        refine g_iconst C (nI 0) ic_0 dX8_round_22 ?_
        refine g_istore_n C [(2, .int (nI 0)), (0, .ref x0), (1, .int (eA b))] dX8_round_23 rfl (by decide) rfl ?_
        refine g_lo [1, 2, 0] [(0, .ref x0), (1, .int (eA b)), (2, .int (nI 0))] rfl ?_
        refine g_ws [(x0, .inr (6, [.int (nI th), .ref i1, .ref i2, .int (nI sd), .ref i3, .int (nI ln), .ref j1, .ref j2, .ref j3, .ref j4, .ref j5, .ref j6, .int (nI fm), .int (nI rd), .int (nI ((rusB F (foll F) q b 0 (mt, zNo, fun _ => 0)).1)), .int (nI dr), .ref j7, .ref j8, .int (nI tt), .int (bI (wl)), .ref j9, .int (nI lm), .long (hs)])), (i1, .inl (ty 0, 275, .inl (eR (sM T q nr)))), (j1, .inl (ty 2, 256, .inl (zB F))), (j2, .inl (ty 0, 256, .inl (ro))), (j3, .inl (ty 0, 256, .inl (ru))), (j4, .inl (ty 2, 256, .inl (zB ((rusB F (foll F) q b 0 (mt, zNo, fun _ => 0)).2.1)))), (j5, .inl (ty 0, 256, .inl (ruA (rusB F (foll F) q b 0 (mt, zNo, fun _ => 0)).2.1 (rusB F (foll F) q b 0 (mt, zNo, fun _ => 0)).2.2 nb))), (j7, .inl (ty 0, 8, .inl (S0))), (j8, .inl (ty 0, 8, .inl (C0)))] (by rw [show (rusB F (foll F) q b 0 (mt, zNo, fun _ => 0)) = (mt, zNo, fun _ => 0) from rfl, ruA_no]) ?_
        have L24 : ∀ (fu24 : Nat) (i : Nat) (S1 : Nat → Int32) (C1 : Nat → Int32) (hi : i ≤ nr), (nr - i) < fu24 → gW pg l en r_X8_round s0 mi ag bl mth cd 4 D AA HH QQ 24 [(0, .ref x0), (1, .int (eA b)), (2, .int (nI i))] [] [(x0, .inr (6, [.int (nI th), .ref i1, .ref i2, .int (nI sd), .ref i3, .int (nI ln), .ref j1, .ref j2, .ref j3, .ref j4, .ref j5, .ref j6, .int (nI fm), .int (nI rd), .int (nI ((rusB F (foll F) q b i (mt, zNo, fun _ => 0)).1)), .int (nI dr), .ref j7, .ref j8, .int (nI tt), .int (bI (wl)), .ref j9, .int (nI lm), .long (hs)])), (i1, .inl (ty 0, 275, .inl (eR (sM T q nr)))), (j1, .inl (ty 2, 256, .inl (zB F))), (j2, .inl (ty 0, 256, .inl (ro))), (j3, .inl (ty 0, 256, .inl (ru))), (j4, .inl (ty 2, 256, .inl (zB ((rusB F (foll F) q b i (mt, zNo, fun _ => 0)).2.1)))), (j5, .inl (ty 0, 256, .inl (ruA (rusB F (foll F) q b i (mt, zNo, fun _ => 0)).2.1 (rusB F (foll F) q b i (mt, zNo, fun _ => 0)).2.2 nb))), (j7, .inl (ty 0, 8, .inl (S1))), (j8, .inl (ty 0, 8, .inl (C1)))] 0 0 := by
          intro fu24
          induction fu24 with
          | zero => intro i S1 C1 hi hfu; exact absurd hfu (Nat.not_lt_zero _)
          | succ fu24 ih24 =>
            intro i S1 C1 hi hfu24
            refine g_iload_n C 2 rfl dX8_round_24 ?_
            refine g_aload_n C 0 rfl dX8_round_25 ?_
            refine g_getf C wu_X8 0 rfl rfl 1 (by decide) wf_X8_7 rfl rfl dX8_round_26 ?_
            refine g_sipush C (nI 256) sp_256 dX8_round_29 ?_
            refine g_iald C 1 rfl 256 rfl (by omega) (by decide) (nI nr) (sM_n h6) dX8_round_32 ?_
            refine g_icmp_geN C i nr 52 rfl rfl (by omega) (by omega) dX8_round_33 rfl (fun c33 => ?_) (fun c33 => ?_)
            · skip
              refine g_ws [(x0, .inr (6, [.int (nI th), .ref i1, .ref i2, .int (nI sd), .ref i3, .int (nI ln), .ref j1, .ref j2, .ref j3, .ref j4, .ref j5, .ref j6, .int (nI fm), .int (nI rd), .int (nI ((rusB F (foll F) q b nr (mt, zNo, fun _ => 0)).1)), .int (nI dr), .ref j7, .ref j8, .int (nI tt), .int (bI (wl)), .ref j9, .int (nI lm), .long (hs)])), (i1, .inl (ty 0, 275, .inl (eR (sM T q nr)))), (j1, .inl (ty 2, 256, .inl (zB F))), (j2, .inl (ty 0, 256, .inl (ro))), (j3, .inl (ty 0, 256, .inl (ru))), (j4, .inl (ty 2, 256, .inl (zB ((rusB F (foll F) q b nr (mt, zNo, fun _ => 0)).2.1)))), (j5, .inl (ty 0, 256, .inl (ruA (rusB F (foll F) q b nr (mt, zNo, fun _ => 0)).2.1 (rusB F (foll F) q b nr (mt, zNo, fun _ => 0)).2.2 nb))), (j7, .inl (ty 0, 8, .inl (S1))), (j8, .inl (ty 0, 8, .inl (C1)))] (by rw [show i = nr by omega]) ?_
              refine g_iconst C (nI 0) ic_0 dX8_round_52 ?_
              refine g_istore_n C [(2, .int (nI 0)), (0, .ref x0), (1, .int (eA b))] dX8_round_53 rfl (by decide) rfl ?_
              refine g_iconst C (nI 0) ic_0 dX8_round_54 ?_
              refine g_istore_n C [(3, .int (nI 0)), (2, .int (nI 0)), (0, .ref x0), (1, .int (eA b))] dX8_round_55 rfl (by decide) rfl ?_
              refine g_lo [2, 3, 1, 0] [(0, .ref x0), (1, .int (eA b)), (2, .int (nI 0)), (3, .int (nI 0))] rfl ?_
              refine g_ws [(x0, .inr (6, [.int (nI th), .ref i1, .ref i2, .int (nI sd), .ref i3, .int (nI ln), .ref j1, .ref j2, .ref j3, .ref j4, .ref j5, .ref j6, .int (nI (fm + zcnt (rusB F (foll F) q b nr (mt, zNo, fun _ => 0)).2.1 0)), .int (nI rd), .int (nI ((rusB F (foll F) q b nr (mt, zNo, fun _ => 0)).1)), .int (nI dr), .ref j7, .ref j8, .int (nI tt), .int (bI (wl)), .ref j9, .int (nI lm), .long (hs)])), (i1, .inl (ty 0, 275, .inl (eR (sM T q nr)))), (j1, .inl (ty 2, 256, .inl (zB (zOr F (uL (rusB F (foll F) q b nr (mt, zNo, fun _ => 0)).2.1 0))))), (j2, .inl (ty 0, 256, .inl (roA (uL (rusB F (foll F) q b nr (mt, zNo, fun _ => 0)).2.1 0) rd ro))), (j3, .inl (ty 0, 256, .inl (ruA (uL (rusB F (foll F) q b nr (mt, zNo, fun _ => 0)).2.1 0) (rusB F (foll F) q b nr (mt, zNo, fun _ => 0)).2.2 ru))), (j4, .inl (ty 2, 256, .inl (zB ((rusB F (foll F) q b nr (mt, zNo, fun _ => 0)).2.1)))), (j5, .inl (ty 0, 256, .inl (ruA (rusB F (foll F) q b nr (mt, zNo, fun _ => 0)).2.1 (rusB F (foll F) q b nr (mt, zNo, fun _ => 0)).2.2 nb))), (j7, .inl (ty 0, 8, .inl (S1))), (j8, .inl (ty 0, 8, .inl (C1)))] (by rw [uL_0, zOr_no, roA_no, ruA_no]; rfl) ?_
              refine g_lo2 [(0, .ref x0), (1, .int (eA b)), (2, .int (bI (decide (zcnt (rusB F (foll F) q b nr (mt, zNo, fun _ => 0)).2.1 0 ≠ 0)))), (3, .int (nI 0))] rfl ?_
              have L56 : ∀ (fu56 : Nat) (i : Nat) (S1 : Nat → Int32) (C1 : Nat → Int32) (hi : i ≤ 256), (256 - i) < fu56 → gW pg l en r_X8_round s0 mi ag bl mth cd 4 D AA HH QQ 56 [(0, .ref x0), (1, .int (eA b)), (2, .int (bI (decide (zcnt (rusB F (foll F) q b nr (mt, zNo, fun _ => 0)).2.1 i ≠ 0)))), (3, .int (nI i))] [] [(x0, .inr (6, [.int (nI th), .ref i1, .ref i2, .int (nI sd), .ref i3, .int (nI ln), .ref j1, .ref j2, .ref j3, .ref j4, .ref j5, .ref j6, .int (nI (fm + zcnt (rusB F (foll F) q b nr (mt, zNo, fun _ => 0)).2.1 i)), .int (nI rd), .int (nI ((rusB F (foll F) q b nr (mt, zNo, fun _ => 0)).1)), .int (nI dr), .ref j7, .ref j8, .int (nI tt), .int (bI (wl)), .ref j9, .int (nI lm), .long (hs)])), (i1, .inl (ty 0, 275, .inl (eR (sM T q nr)))), (j1, .inl (ty 2, 256, .inl (zB (zOr F (uL (rusB F (foll F) q b nr (mt, zNo, fun _ => 0)).2.1 i))))), (j2, .inl (ty 0, 256, .inl (roA (uL (rusB F (foll F) q b nr (mt, zNo, fun _ => 0)).2.1 i) rd ro))), (j3, .inl (ty 0, 256, .inl (ruA (uL (rusB F (foll F) q b nr (mt, zNo, fun _ => 0)).2.1 i) (rusB F (foll F) q b nr (mt, zNo, fun _ => 0)).2.2 ru))), (j4, .inl (ty 2, 256, .inl (zB ((rusB F (foll F) q b nr (mt, zNo, fun _ => 0)).2.1)))), (j5, .inl (ty 0, 256, .inl (ruA (rusB F (foll F) q b nr (mt, zNo, fun _ => 0)).2.1 (rusB F (foll F) q b nr (mt, zNo, fun _ => 0)).2.2 nb))), (j7, .inl (ty 0, 8, .inl (S1))), (j8, .inl (ty 0, 8, .inl (C1)))] 0 0 := by
                intro fu56
                induction fu56 with
                | zero => intro i S1 C1 hi hfu; exact absurd hfu (Nat.not_lt_zero _)
                | succ fu56 ih56 =>
                  intro i S1 C1 hi hfu56
                  refine g_iload_n C 3 rfl dX8_round_56 ?_
                  refine g_sipush C (nI 256) sp_256 dX8_round_57 ?_
                  refine g_icmp_geN C i 256 121 rfl rfl (by omega) (by omega) dX8_round_60 rfl (fun c60 => ?_) (fun c60 => ?_)
                  · skip
                    refine g_ws [(x0, .inr (6, [.int (nI th), .ref i1, .ref i2, .int (nI sd), .ref i3, .int (nI ln), .ref j1, .ref j2, .ref j3, .ref j4, .ref j5, .ref j6, .int (nI (fm + zcnt (rusB F (foll F) q b nr (mt, zNo, fun _ => 0)).2.1 256)), .int (nI rd), .int (nI ((rusB F (foll F) q b nr (mt, zNo, fun _ => 0)).1)), .int (nI dr), .ref j7, .ref j8, .int (nI tt), .int (bI (wl)), .ref j9, .int (nI lm), .long (hs)])), (i1, .inl (ty 0, 275, .inl (eR (sM T q nr)))), (j1, .inl (ty 2, 256, .inl (zB (zOr F (rusB F (foll F) q b nr (mt, zNo, fun _ => 0)).2.1)))), (j2, .inl (ty 0, 256, .inl (roA (rusB F (foll F) q b nr (mt, zNo, fun _ => 0)).2.1 rd ro))), (j3, .inl (ty 0, 256, .inl (ruA (rusB F (foll F) q b nr (mt, zNo, fun _ => 0)).2.1 (rusB F (foll F) q b nr (mt, zNo, fun _ => 0)).2.2 ru))), (j4, .inl (ty 2, 256, .inl (zB ((rusB F (foll F) q b nr (mt, zNo, fun _ => 0)).2.1)))), (j5, .inl (ty 0, 256, .inl (ruA (rusB F (foll F) q b nr (mt, zNo, fun _ => 0)).2.1 (rusB F (foll F) q b nr (mt, zNo, fun _ => 0)).2.2 nb))), (j7, .inl (ty 0, 8, .inl (S1))), (j8, .inl (ty 0, 8, .inl (C1)))] (by rw [show i = 256 by omega, uL_256 hU]) ?_
                    refine g_lo2 [(0, .ref x0), (1, .int (eA b)), (2, .int (bI (decide (zcnt (rusB F (foll F) q b nr (mt, zNo, fun _ => 0)).2.1 256 ≠ 0)))), (3, .int (nI i))] (by rw [show i = 256 by omega]) ?_
                    refine g_iload_n C 2 rfl dX8_round_121 ?_
                    exact g_zret E (decide (zcnt (rusB F (foll F) q b nr (mt, zNo, fun _ => 0)).2.1 256 ≠ 0)) rfl dX8_round_122 (by decide) (by decide) ⟨S1, C1, rfl, rfl⟩
                  · skip
                    refine g_aload_n C 0 rfl dX8_round_63 ?_
                    refine g_getf C wu_X8 0 rfl rfl 9 (by decide) wf_X8_29 rfl rfl dX8_round_64 ?_
                    refine g_iload_n C 3 rfl dX8_round_67 ?_
                    refine g_zald C 5 rfl i rfl (by omega) (by decide) (bI (((rusB F (foll F) q b nr (mt, zNo, fun _ => 0)).2.1) i)) rfl dX8_round_68 ?_
                    refine g_if_eqB C (((rusB F (foll F) q b nr (mt, zNo, fun _ => 0)).2.1) i) 115 rfl dX8_round_69 rfl (fun c69 => ?_) (fun c69 => ?_)
                    · skip
                      refine g_ws [(x0, .inr (6, [.int (nI th), .ref i1, .ref i2, .int (nI sd), .ref i3, .int (nI ln), .ref j1, .ref j2, .ref j3, .ref j4, .ref j5, .ref j6, .int (nI (fm + zcnt (rusB F (foll F) q b nr (mt, zNo, fun _ => 0)).2.1 (i + 1))), .int (nI rd), .int (nI ((rusB F (foll F) q b nr (mt, zNo, fun _ => 0)).1)), .int (nI dr), .ref j7, .ref j8, .int (nI tt), .int (bI (wl)), .ref j9, .int (nI lm), .long (hs)])), (i1, .inl (ty 0, 275, .inl (eR (sM T q nr)))), (j1, .inl (ty 2, 256, .inl (zB (zOr F (uL (rusB F (foll F) q b nr (mt, zNo, fun _ => 0)).2.1 (i + 1)))))), (j2, .inl (ty 0, 256, .inl (roA (uL (rusB F (foll F) q b nr (mt, zNo, fun _ => 0)).2.1 (i + 1)) rd ro))), (j3, .inl (ty 0, 256, .inl (ruA (uL (rusB F (foll F) q b nr (mt, zNo, fun _ => 0)).2.1 (i + 1)) (rusB F (foll F) q b nr (mt, zNo, fun _ => 0)).2.2 ru))), (j4, .inl (ty 2, 256, .inl (zB ((rusB F (foll F) q b nr (mt, zNo, fun _ => 0)).2.1)))), (j5, .inl (ty 0, 256, .inl (ruA (rusB F (foll F) q b nr (mt, zNo, fun _ => 0)).2.1 (rusB F (foll F) q b nr (mt, zNo, fun _ => 0)).2.2 nb))), (j7, .inl (ty 0, 8, .inl (S1))), (j8, .inl (ty 0, 8, .inl (C1)))] (by rw [uL_f c69, zcnt_f c69]) ?_
                      refine g_lo2 [(0, .ref x0), (1, .int (eA b)), (2, .int (bI (decide (zcnt (rusB F (foll F) q b nr (mt, zNo, fun _ => 0)).2.1 (i + 1) ≠ 0)))), (3, .int (nI i))] (by rw [zcnt_f c69]) ?_
                      refine g_iinc C (nI (i + 1)) [(3, .int (nI (i + 1))), (0, .ref x0), (1, .int (eA b)), (2, .int (bI (decide (zcnt (rusB F (foll F) q b nr (mt, zNo, fun _ => 0)).2.1 (i + 1) ≠ 0))))] 3 dX8_round_115 rfl (ii_1 _) (by decide) rfl ?_
                      refine g_goto C 56 dX8_round_118 rfl ?_
                      refine g_lo [1, 2, 3, 0] [(0, .ref x0), (1, .int (eA b)), (2, .int (bI (decide (zcnt (rusB F (foll F) q b nr (mt, zNo, fun _ => 0)).2.1 (i + 1) ≠ 0)))), (3, .int (nI (i + 1)))] rfl ?_
                      exact ih56 (i + 1) S1 C1 (by omega) (by omega)
                    · skip
                      have hct := zcnt_t (p := (rusB F (foll F) q b nr (mt, zNo, fun _ => 0)).2.1) c69
                      refine g_iconst C (nI 1) ic_1 dX8_round_72 ?_
                      refine g_istore_n C [(2, .int (nI 1)), (0, .ref x0), (1, .int (eA b)), (3, .int (nI i))] dX8_round_73 rfl (by decide) rfl ?_
                      refine g_aload_n C 1 rfl dX8_round_74 ?_
                      refine g_getf C wu_X8 0 rfl rfl 6 (by decide) wf_X8_19 rfl rfl dX8_round_75 ?_
                      refine g_iload_n C 3 rfl dX8_round_78 ?_
                      refine g_iconst C (nI 1) ic_1 dX8_round_79 ?_
                      refine g_st [.int (bI (true)), .int (nI i), .ref j1] rfl ?_
                      refine g_zast C 2 rfl i rfl (by omega) (by decide) true rfl dX8_round_80 (zB (zOr F (uL (rusB F (foll F) q b nr (mt, zNo, fun _ => 0)).2.1 (i + 1)))) (uB_up c69) [(x0, .inr (6, [.int (nI th), .ref i1, .ref i2, .int (nI sd), .ref i3, .int (nI ln), .ref j1, .ref j2, .ref j3, .ref j4, .ref j5, .ref j6, .int (nI (fm + zcnt (rusB F (foll F) q b nr (mt, zNo, fun _ => 0)).2.1 i)), .int (nI rd), .int (nI ((rusB F (foll F) q b nr (mt, zNo, fun _ => 0)).1)), .int (nI dr), .ref j7, .ref j8, .int (nI tt), .int (bI (wl)), .ref j9, .int (nI lm), .long (hs)])), (i1, .inl (ty 0, 275, .inl (eR (sM T q nr)))), (j1, .inl (ty 2, 256, .inl (zB (zOr F (uL (rusB F (foll F) q b nr (mt, zNo, fun _ => 0)).2.1 (i + 1)))))), (j2, .inl (ty 0, 256, .inl (roA (uL (rusB F (foll F) q b nr (mt, zNo, fun _ => 0)).2.1 i) rd ro))), (j3, .inl (ty 0, 256, .inl (ruA (uL (rusB F (foll F) q b nr (mt, zNo, fun _ => 0)).2.1 i) (rusB F (foll F) q b nr (mt, zNo, fun _ => 0)).2.2 ru))), (j4, .inl (ty 2, 256, .inl (zB ((rusB F (foll F) q b nr (mt, zNo, fun _ => 0)).2.1)))), (j5, .inl (ty 0, 256, .inl (ruA (rusB F (foll F) q b nr (mt, zNo, fun _ => 0)).2.1 (rusB F (foll F) q b nr (mt, zNo, fun _ => 0)).2.2 nb))), (j7, .inl (ty 0, 8, .inl (S1))), (j8, .inl (ty 0, 8, .inl (C1)))] rfl ?_
                      refine g_aload_n C 1 rfl dX8_round_81 ?_
                      refine g_getf C wu_X8 0 rfl rfl 7 (by decide) wf_X8_23 rfl rfl dX8_round_82 ?_
                      refine g_iload_n C 3 rfl dX8_round_85 ?_
                      refine g_aload_n C 1 rfl dX8_round_86 ?_
                      refine g_getf C wu_X8 0 rfl rfl 13 (by decide) wf_X8_112 rfl rfl dX8_round_87 ?_
                      refine g_iconst C (nI 1) ic_1 dX8_round_90 ?_
                      refine g_iadd C (nI (rd + 1)) dX8_round_91 (nI_add _ _) ?_
                      refine g_iast C 3 rfl i rfl (by omega) (by decide) dX8_round_92 (roA (uL (rusB F (foll F) q b nr (mt, zNo, fun _ => 0)).2.1 (i + 1)) rd ro) (uO_up c69) [(x0, .inr (6, [.int (nI th), .ref i1, .ref i2, .int (nI sd), .ref i3, .int (nI ln), .ref j1, .ref j2, .ref j3, .ref j4, .ref j5, .ref j6, .int (nI (fm + zcnt (rusB F (foll F) q b nr (mt, zNo, fun _ => 0)).2.1 i)), .int (nI rd), .int (nI ((rusB F (foll F) q b nr (mt, zNo, fun _ => 0)).1)), .int (nI dr), .ref j7, .ref j8, .int (nI tt), .int (bI (wl)), .ref j9, .int (nI lm), .long (hs)])), (i1, .inl (ty 0, 275, .inl (eR (sM T q nr)))), (j1, .inl (ty 2, 256, .inl (zB (zOr F (uL (rusB F (foll F) q b nr (mt, zNo, fun _ => 0)).2.1 (i + 1)))))), (j2, .inl (ty 0, 256, .inl (roA (uL (rusB F (foll F) q b nr (mt, zNo, fun _ => 0)).2.1 (i + 1)) rd ro))), (j3, .inl (ty 0, 256, .inl (ruA (uL (rusB F (foll F) q b nr (mt, zNo, fun _ => 0)).2.1 i) (rusB F (foll F) q b nr (mt, zNo, fun _ => 0)).2.2 ru))), (j4, .inl (ty 2, 256, .inl (zB ((rusB F (foll F) q b nr (mt, zNo, fun _ => 0)).2.1)))), (j5, .inl (ty 0, 256, .inl (ruA (rusB F (foll F) q b nr (mt, zNo, fun _ => 0)).2.1 (rusB F (foll F) q b nr (mt, zNo, fun _ => 0)).2.2 nb))), (j7, .inl (ty 0, 8, .inl (S1))), (j8, .inl (ty 0, 8, .inl (C1)))] rfl ?_
                      refine g_aload_n C 1 rfl dX8_round_93 ?_
                      refine g_getf C wu_X8 0 rfl rfl 8 (by decide) wf_X8_26 rfl rfl dX8_round_94 ?_
                      refine g_iload_n C 3 rfl dX8_round_97 ?_
                      refine g_aload_n C 1 rfl dX8_round_98 ?_
                      refine g_getf C wu_X8 0 rfl rfl 10 (by decide) wf_X8_32 rfl rfl dX8_round_99 ?_
                      refine g_iload_n C 3 rfl dX8_round_102 ?_
                      refine g_iald C 6 rfl i rfl (by omega) (by decide) (nI ((rusB F (foll F) q b nr (mt, zNo, fun _ => 0)).2.2 i)) (show (if (rusB F (foll F) q b nr (mt, zNo, fun _ => 0)).2.1 i = true then _ else _) = _ from if_pos c69) dX8_round_103 ?_
                      refine g_iast C 4 rfl i rfl (by omega) (by decide) dX8_round_104 (ruA (uL (rusB F (foll F) q b nr (mt, zNo, fun _ => 0)).2.1 (i + 1)) (rusB F (foll F) q b nr (mt, zNo, fun _ => 0)).2.2 ru) (uU_up c69) [(x0, .inr (6, [.int (nI th), .ref i1, .ref i2, .int (nI sd), .ref i3, .int (nI ln), .ref j1, .ref j2, .ref j3, .ref j4, .ref j5, .ref j6, .int (nI (fm + zcnt (rusB F (foll F) q b nr (mt, zNo, fun _ => 0)).2.1 i)), .int (nI rd), .int (nI ((rusB F (foll F) q b nr (mt, zNo, fun _ => 0)).1)), .int (nI dr), .ref j7, .ref j8, .int (nI tt), .int (bI (wl)), .ref j9, .int (nI lm), .long (hs)])), (i1, .inl (ty 0, 275, .inl (eR (sM T q nr)))), (j1, .inl (ty 2, 256, .inl (zB (zOr F (uL (rusB F (foll F) q b nr (mt, zNo, fun _ => 0)).2.1 (i + 1)))))), (j2, .inl (ty 0, 256, .inl (roA (uL (rusB F (foll F) q b nr (mt, zNo, fun _ => 0)).2.1 (i + 1)) rd ro))), (j3, .inl (ty 0, 256, .inl (ruA (uL (rusB F (foll F) q b nr (mt, zNo, fun _ => 0)).2.1 (i + 1)) (rusB F (foll F) q b nr (mt, zNo, fun _ => 0)).2.2 ru))), (j4, .inl (ty 2, 256, .inl (zB ((rusB F (foll F) q b nr (mt, zNo, fun _ => 0)).2.1)))), (j5, .inl (ty 0, 256, .inl (ruA (rusB F (foll F) q b nr (mt, zNo, fun _ => 0)).2.1 (rusB F (foll F) q b nr (mt, zNo, fun _ => 0)).2.2 nb))), (j7, .inl (ty 0, 8, .inl (S1))), (j8, .inl (ty 0, 8, .inl (C1)))] rfl ?_
                      refine g_lo2 [(2, .int (bI (decide (zcnt (rusB F (foll F) q b nr (mt, zNo, fun _ => 0)).2.1 (i + 1) ≠ 0)))), (0, .ref x0), (1, .int (eA b)), (3, .int (nI i))] (by rw [decide_eq_true (show zcnt (rusB F (foll F) q b nr (mt, zNo, fun _ => 0)).2.1 (i + 1) ≠ 0 by omega)]; rfl) ?_
                      refine g_aload_n C 1 rfl dX8_round_105 ?_
                      refine g_dup C rfl dX8_round_106 ?_
                      refine g_getf C wu_X8 0 rfl rfl 12 (by decide) wf_X8_86 rfl rfl dX8_round_107 ?_
                      refine g_iconst C (nI 1) ic_1 dX8_round_110 ?_
                      refine g_iadd C (nI (fm + zcnt (rusB F (foll F) q b nr (mt, zNo, fun _ => 0)).2.1 (i + 1))) dX8_round_111 (by rw [hct]; exact nI_add _ _) ?_
                      refine g_putf C wu_X8 tyX8 tyX8_ok nmX8 0 rfl rfl 12 (by decide) wf_X8_86 rfl rfl rfl rfl (Nat.le_of_ble_eq_true rfl) dX8_round_112 [(x0, .inr (6, [.int (nI th), .ref i1, .ref i2, .int (nI sd), .ref i3, .int (nI ln), .ref j1, .ref j2, .ref j3, .ref j4, .ref j5, .ref j6, .int (nI (fm + zcnt (rusB F (foll F) q b nr (mt, zNo, fun _ => 0)).2.1 (i + 1))), .int (nI rd), .int (nI ((rusB F (foll F) q b nr (mt, zNo, fun _ => 0)).1)), .int (nI dr), .ref j7, .ref j8, .int (nI tt), .int (bI (wl)), .ref j9, .int (nI lm), .long (hs)])), (i1, .inl (ty 0, 275, .inl (eR (sM T q nr)))), (j1, .inl (ty 2, 256, .inl (zB (zOr F (uL (rusB F (foll F) q b nr (mt, zNo, fun _ => 0)).2.1 (i + 1)))))), (j2, .inl (ty 0, 256, .inl (roA (uL (rusB F (foll F) q b nr (mt, zNo, fun _ => 0)).2.1 (i + 1)) rd ro))), (j3, .inl (ty 0, 256, .inl (ruA (uL (rusB F (foll F) q b nr (mt, zNo, fun _ => 0)).2.1 (i + 1)) (rusB F (foll F) q b nr (mt, zNo, fun _ => 0)).2.2 ru))), (j4, .inl (ty 2, 256, .inl (zB ((rusB F (foll F) q b nr (mt, zNo, fun _ => 0)).2.1)))), (j5, .inl (ty 0, 256, .inl (ruA (rusB F (foll F) q b nr (mt, zNo, fun _ => 0)).2.1 (rusB F (foll F) q b nr (mt, zNo, fun _ => 0)).2.2 nb))), (j7, .inl (ty 0, 8, .inl (S1))), (j8, .inl (ty 0, 8, .inl (C1)))] rfl ?_
                      refine g_iinc C (nI (i + 1)) [(3, .int (nI (i + 1))), (2, .int (bI (decide (zcnt (rusB F (foll F) q b nr (mt, zNo, fun _ => 0)).2.1 (i + 1) ≠ 0)))), (0, .ref x0), (1, .int (eA b))] 3 dX8_round_115 rfl (ii_1 _) (by decide) rfl ?_
                      refine g_goto C 56 dX8_round_118 rfl ?_
                      refine g_lo [2, 3, 1, 0] [(0, .ref x0), (1, .int (eA b)), (2, .int (bI (decide (zcnt (rusB F (foll F) q b nr (mt, zNo, fun _ => 0)).2.1 (i + 1) ≠ 0)))), (3, .int (nI (i + 1)))] rfl ?_
                      exact ih56 (i + 1) S1 C1 (by omega) (by omega)
              exact L56 (256 - 0 + 1) 0 S1 C1 (by omega) (Nat.lt_succ_self _)
            · skip
              refine g_iload_n C 2 rfl dX8_round_36 ?_
              refine g_iload_n C 1 rfl dX8_round_37 ?_
              refine g_icmp_eq C 46 dX8_round_38 rfl (fun c38 => ?_) (fun c38 => ?_)
              · skip
                have hib := (eA_iN (by omega) hb).mp c38
                have hru := rusB_b (F := F) (G := foll F) (q := q) (X := (mt, zNo, fun _ => 0)) hib
                refine g_ws [(x0, .inr (6, [.int (nI th), .ref i1, .ref i2, .int (nI sd), .ref i3, .int (nI ln), .ref j1, .ref j2, .ref j3, .ref j4, .ref j5, .ref j6, .int (nI fm), .int (nI rd), .int (nI ((rusB F (foll F) q b (i + 1) (mt, zNo, fun _ => 0)).1)), .int (nI dr), .ref j7, .ref j8, .int (nI tt), .int (bI (wl)), .ref j9, .int (nI lm), .long (hs)])), (i1, .inl (ty 0, 275, .inl (eR (sM T q nr)))), (j1, .inl (ty 2, 256, .inl (zB F))), (j2, .inl (ty 0, 256, .inl (ro))), (j3, .inl (ty 0, 256, .inl (ru))), (j4, .inl (ty 2, 256, .inl (zB ((rusB F (foll F) q b (i + 1) (mt, zNo, fun _ => 0)).2.1)))), (j5, .inl (ty 0, 256, .inl (ruA (rusB F (foll F) q b (i + 1) (mt, zNo, fun _ => 0)).2.1 (rusB F (foll F) q b (i + 1) (mt, zNo, fun _ => 0)).2.2 nb))), (j7, .inl (ty 0, 8, .inl (S1))), (j8, .inl (ty 0, 8, .inl (C1)))] (by rw [hru]) ?_
                refine g_iinc C (nI (i + 1)) [(2, .int (nI (i + 1))), (0, .ref x0), (1, .int (eA b))] 2 dX8_round_46 rfl (ii_1 _) (by decide) rfl ?_
                refine g_goto C 24 dX8_round_49 rfl ?_
                refine g_lo [1, 2, 0] [(0, .ref x0), (1, .int (eA b)), (2, .int (nI (i + 1)))] rfl ?_
                exact ih24 (i + 1) S1 C1 (by omega) (by omega)
              · skip
                have hru := rusB_n (G := foll F) (q := q) (b := b) (X := (mt, zNo, fun _ => 0)) hF (fun z => c38 ((eA_iN (show i < 256 by omega) hb).mpr z))
                refine g_aload_n C 0 rfl dX8_round_41 ?_
                refine g_iload_n C 2 rfl dX8_round_42 ?_
                refine g_callV C (nA := 1) (ci := 6) (q0 := 0) (As := [.int (nI i)]) (wr := [(j2, .inl (ty 0, 256, .inl (ro))), (j3, .inl (ty 0, 256, .inl (ru)))]) (k_X8_tries l D ty x0 th i1 i2 sd i3 ln j1 j2 j3 j4 j5 j6 fm rd dr j7 j8 tt wl j9 lm hs T q nr F nb (rusB F (foll F) q b i (mt, zNo, fun _ => 0)) S1 C1 i hF (by omega) (hq.2 i (by omega)).1 (hq.2 i (by omega)).2.1 (hq.2 i (by omega)).2.2) wm_X8_109 wn_X8_tries wv_X8_tries wi_X8 wc_X8_tries rfl (by decide +kernel) ⟨(Nat.le_of_ble_eq_true rfl), (Nat.le_of_ble_eq_true rfl)⟩ ⟨rfl, rfl⟩ dX8_round_43 ⟨Nat.zero_le _, Nat.zero_le _⟩ rfl rfl rfl [0, 1, 2, 5, 6, 7, 8] [3, 4] rfl rfl rfl rfl (by decide) (Nat.le_of_ble_eq_true rfl) rfl (fun r W1 hp => ?_)
                obtain ⟨S91, C92, rfl, rfl⟩ := hp
                refine g_fix [] [(x0, .inr (6, [.int (nI th), .ref i1, .ref i2, .int (nI sd), .ref i3, .int (nI ln), .ref j1, .ref j2, .ref j3, .ref j4, .ref j5, .ref j6, .int (nI fm), .int (nI rd), .int (nI ((pl F (foll F) (q (3 * i + 1)) (q (3 * i + 2)) (q (3 * i)) i 64 (rusB F (foll F) q b i (mt, zNo, fun _ => 0))).1)), .int (nI dr), .ref j7, .ref j8, .int (nI tt), .int (bI (wl)), .ref j9, .int (nI lm), .long (hs)])), (i1, .inl (ty 0, 275, .inl (eR (sM T q nr)))), (j1, .inl (ty 2, 256, .inl (zB F))), (j2, .inl (ty 0, 256, .inl (ro))), (j3, .inl (ty 0, 256, .inl (ru))), (j4, .inl (ty 2, 256, .inl (zB ((pl F (foll F) (q (3 * i + 1)) (q (3 * i + 2)) (q (3 * i)) i 64 (rusB F (foll F) q b i (mt, zNo, fun _ => 0))).2.1)))), (j5, .inl (ty 0, 256, .inl (ruA (pl F (foll F) (q (3 * i + 1)) (q (3 * i + 2)) (q (3 * i)) i 64 (rusB F (foll F) q b i (mt, zNo, fun _ => 0))).2.1 (pl F (foll F) (q (3 * i + 1)) (q (3 * i + 2)) (q (3 * i)) i 64 (rusB F (foll F) q b i (mt, zNo, fun _ => 0))).2.2 nb))), (j7, .inl (ty 0, 8, .inl (S91))), (j8, .inl (ty 0, 8, .inl (C92)))] [2, 3, 4, 0, 1, 5, 6, 7, 8] rfl rfl rfl ?_
                refine g_ws [(x0, .inr (6, [.int (nI th), .ref i1, .ref i2, .int (nI sd), .ref i3, .int (nI ln), .ref j1, .ref j2, .ref j3, .ref j4, .ref j5, .ref j6, .int (nI fm), .int (nI rd), .int (nI ((rusB F (foll F) q b (i + 1) (mt, zNo, fun _ => 0)).1)), .int (nI dr), .ref j7, .ref j8, .int (nI tt), .int (bI (wl)), .ref j9, .int (nI lm), .long (hs)])), (i1, .inl (ty 0, 275, .inl (eR (sM T q nr)))), (j1, .inl (ty 2, 256, .inl (zB F))), (j2, .inl (ty 0, 256, .inl (ro))), (j3, .inl (ty 0, 256, .inl (ru))), (j4, .inl (ty 2, 256, .inl (zB ((rusB F (foll F) q b (i + 1) (mt, zNo, fun _ => 0)).2.1)))), (j5, .inl (ty 0, 256, .inl (ruA (rusB F (foll F) q b (i + 1) (mt, zNo, fun _ => 0)).2.1 (rusB F (foll F) q b (i + 1) (mt, zNo, fun _ => 0)).2.2 nb))), (j7, .inl (ty 0, 8, .inl (S91))), (j8, .inl (ty 0, 8, .inl (C92)))] (by rw [hru]) ?_
                refine g_iinc C (nI (i + 1)) [(2, .int (nI (i + 1))), (0, .ref x0), (1, .int (eA b))] 2 dX8_round_46 rfl (ii_1 _) (by decide) rfl ?_
                refine g_goto C 24 dX8_round_49 rfl ?_
                refine g_lo [1, 2, 0] [(0, .ref x0), (1, .int (eA b)), (2, .int (nI (i + 1)))] rfl ?_
                exact ih24 (i + 1) S91 C92 (by omega) (by omega)
        exact L24 (nr - 0 + 1) 0 S0 C0 (by omega) (Nat.lt_succ_self _)
      · skip
        refine g_aload_n C 0 rfl dX8_round_9 ?_
        refine g_getf C wu_X8 0 rfl rfl 9 (by decide) wf_X8_29 rfl rfl dX8_round_10 ?_
        refine g_iload_n C 2 rfl dX8_round_13 ?_
        refine g_iconst C (nI 0) ic_0 dX8_round_14 ?_
        refine g_st [.int (bI (false)), .int (nI i), .ref j4] rfl ?_
        refine g_zast C 5 rfl i rfl (by omega) (by decide) false rfl dX8_round_15 (zfl (zB zNo) (zB U0) (i + 1)) (zfl_I _ _ _ rfl) [(x0, .inr (6, [.int (nI th), .ref i1, .ref i2, .int (nI sd), .ref i3, .int (nI ln), .ref j1, .ref j2, .ref j3, .ref j4, .ref j5, .ref j6, .int (nI fm), .int (nI rd), .int (nI mt), .int (nI dr), .ref j7, .ref j8, .int (nI tt), .int (bI (wl)), .ref j9, .int (nI lm), .long (hs)])), (i1, .inl (ty 0, 275, .inl (eR (sM T q nr)))), (j1, .inl (ty 2, 256, .inl (zB F))), (j2, .inl (ty 0, 256, .inl (ro))), (j3, .inl (ty 0, 256, .inl (ru))), (j4, .inl (ty 2, 256, .inl (zfl (zB zNo) (zB U0) (i + 1)))), (j5, .inl (ty 0, 256, .inl (nb))), (j7, .inl (ty 0, 8, .inl (S0))), (j8, .inl (ty 0, 8, .inl (C0)))] rfl ?_
        refine g_iinc C (nI (i + 1)) [(2, .int (nI (i + 1))), (0, .ref x0), (1, .int (eA b))] 2 dX8_round_16 rfl (ii_1 _) (by decide) rfl ?_
        refine g_goto C 2 dX8_round_19 rfl ?_
        refine g_lo [1, 2, 0] [(0, .ref x0), (1, .int (eA b)), (2, .int (nI (i + 1)))] rfl ?_
        exact ih2 (i + 1) (by omega) (by omega)
  exact L2 (256 - 0 + 1) 0 (by omega) (Nat.lt_succ_self _)
