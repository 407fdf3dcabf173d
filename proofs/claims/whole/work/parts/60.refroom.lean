def r_X8_hasRoom : Room := { frames := 1, cells := 0, slots := 0, locals := 22 }
set_option maxRecDepth 100000 in
set_option maxHeartbeats 4000000 in
theorem k_X8_hasRoom (l : Launch) (D : va_G) (ty : Nat → ClassId) (x0 : Nat) (th : Nat) (i1 : Nat) (i2 : Nat) (sd : Nat) (i3 : Nat) (ln : Nat) (j1 : Nat) (j2 : Nat) (j3 : Nat) (j4 : Nat) (j5 : Nat) (j6 : Nat) (fm : Nat) (rd : Nat) (mt : Nat) (dr : Nat) (j7 : Nat) (j8 : Nat) (tt : Nat) (wl : Bool) (j9 : Nat) (lm : Nat) (hs : Int64) (T : Nat → Bool) (q : Nat → Nat) (nr : Nat) (Lw : Nat → Nat) (h6 : nr ≤ 6) (hL : okL Lw lm) (hlm : lm ≤ 15) : gM l D ty yX8_hasRoom cX8_hasRoom 7 (some (FieldType.boolean : FieldType)) r_X8_hasRoom 0 0 [.ref x0] [(x0, .inr (6, [.int (nI th), .ref i1, .ref i2, .int (nI sd), .ref i3, .int (nI ln), .ref j1, .ref j2, .ref j3, .ref j4, .ref j5, .ref j6, .int (nI fm), .int (nI rd), .int (nI mt), .int (nI dr), .ref j7, .ref j8, .int (nI tt), .int (bI (wl)), .ref j9, .int (nI lm), .long (hs)])), (i1, .inl (ty 0, 275, .inl (eR (sM T q nr)))), (j9, .inl (ty 0, 96, .inl (eR Lw)))] (fun (zr : Option Value) (zW : va_W) => zr = some (.int (bI (decide (nr + rcn Lw lm ≤ 6) && decide (zcnt (Tf T Lw lm) 256 ≤ 12)))) ∧ zW = [(x0, .inr (6, [.int (nI th), .ref i1, .ref i2, .int (nI sd), .ref i3, .int (nI ln), .ref j1, .ref j2, .ref j3, .ref j4, .ref j5, .ref j6, .int (nI fm), .int (nI rd), .int (nI mt), .int (nI dr), .ref j7, .ref j8, .int (nI tt), .int (bI (wl)), .ref j9, .int (nI lm), .long (hs)])), (i1, .inl (ty 0, 275, .inl (eR (sM T q nr)))), (j9, .inl (ty 0, 96, .inl (eR Lw)))]) := by
  refine gM_of RX8 rfl (by decide +kernel) (Nat.le_of_ble_eq_true rfl) ?_
  intro pg en s0 mi ag bl mth cd AA HH QQ C E hnm
  show gW pg l en r_X8_hasRoom s0 mi ag bl mth cd 7 D AA HH QQ 0 [(0, .ref x0)] [] [(x0, .inr (6, [.int (nI th), .ref i1, .ref i2, .int (nI sd), .ref i3, .int (nI ln), .ref j1, .ref j2, .ref j3, .ref j4, .ref j5, .ref j6, .int (nI fm), .int (nI rd), .int (nI mt), .int (nI dr), .ref j7, .ref j8, .int (nI tt), .int (bI (wl)), .ref j9, .int (nI lm), .long (hs)])), (i1, .inl (ty 0, 275, .inl (eR (sM T q nr)))), (j9, .inl (ty 0, 96, .inl (eR Lw)))] 0 0
  refine g_aload_n C 0 rfl dX8_hasRoom_0 ?_
  refine g_getf C wu_X8 0 rfl rfl 1 (by decide) wf_X8_7 rfl rfl dX8_hasRoom_1 ?_
  refine g_sipush C (nI 256) sp_256 dX8_hasRoom_4 ?_
  refine g_iald C 1 rfl 256 rfl (by omega) (by decide) (nI nr) (sM_n (by omega)) dX8_hasRoom_7 ?_
  refine g_istore_n C [(1, .int (nI nr)), (0, .ref x0)] dX8_hasRoom_8 rfl (by decide) rfl ?_
  refine g_aload_n C 1 rfl dX8_hasRoom_9 ?_
  refine g_callV C (nA := 0) (ci := 6) (q0 := 0) (As := []) (wr := [(j9, .inl (ty 0, 96, .inl (eR Lw)))]) (k_X8_toldMany l D ty x0 th i1 i2 sd i3 ln j1 j2 j3 j4 j5 j6 fm rd mt dr j7 j8 tt wl j9 lm hs T q nr ) wm_X8_134 wn_X8_toldMany wv_X8_toldMany wi_X8 wc_X8_toldMany rfl (by decide +kernel) ⟨(Nat.le_of_ble_eq_true rfl), (Nat.le_of_ble_eq_true rfl)⟩ ⟨rfl, rfl⟩ dX8_hasRoom_10 ⟨Nat.zero_le _, Nat.zero_le _⟩ rfl rfl rfl [0, 1] [2] rfl rfl rfl rfl (by decide) (Nat.le_of_ble_eq_true rfl) rfl (fun r W1 hp => ?_)
  obtain ⟨rfl, rfl⟩ := hp
  refine g_fix [.int (nI (zcnt T 256))] [(x0, .inr (6, [.int (nI th), .ref i1, .ref i2, .int (nI sd), .ref i3, .int (nI ln), .ref j1, .ref j2, .ref j3, .ref j4, .ref j5, .ref j6, .int (nI fm), .int (nI rd), .int (nI mt), .int (nI dr), .ref j7, .ref j8, .int (nI tt), .int (bI (wl)), .ref j9, .int (nI lm), .long (hs)])), (i1, .inl (ty 0, 275, .inl (eR (sM T q nr)))), (j9, .inl (ty 0, 96, .inl (eR Lw)))] [1, 2, 0] rfl rfl rfl ?_
  refine g_istore_n C [(2, .int (nI (zcnt T 256))), (1, .int (nI nr)), (0, .ref x0)] dX8_hasRoom_13 rfl (by decide) rfl ?_
  refine g_iconst C (nI 0) ic_0 dX8_hasRoom_14 ?_
  refine g_istore_n C [(3, .int (nI 0)), (2, .int (nI (zcnt T 256))), (1, .int (nI nr)), (0, .ref x0)] dX8_hasRoom_15 rfl (by decide) rfl ?_
  refine g_lo [3, 2, 1, 0] [(0, .ref x0), (1, .int (nI nr)), (2, .int (nI (zcnt T 256))), (3, .int (nI 0))] rfl ?_
  have L16 : ∀ (fu16 : Nat) (k : Nat) (hk : k ≤ lm), (lm - k) < fu16 → gW pg l en r_X8_hasRoom s0 mi ag bl mth cd 7 D AA HH QQ 16 [(0, .ref x0), (1, .int (nI (nr + rcn Lw k))), (2, .int (nI (zcnt (Tf T Lw k) 256))), (3, .int (nI k))] [] [(x0, .inr (6, [.int (nI th), .ref i1, .ref i2, .int (nI sd), .ref i3, .int (nI ln), .ref j1, .ref j2, .ref j3, .ref j4, .ref j5, .ref j6, .int (nI fm), .int (nI rd), .int (nI mt), .int (nI dr), .ref j7, .ref j8, .int (nI tt), .int (bI (wl)), .ref j9, .int (nI lm), .long (hs)])), (i1, .inl (ty 0, 275, .inl (eR (sM T q nr)))), (j9, .inl (ty 0, 96, .inl (eR Lw)))] 0 0 := by
    intro fu16
    induction fu16 with
    | zero => intro k hk hfu; exact absurd hfu (Nat.not_lt_zero _)
    | succ fu16 ih16 =>
      intro k hk hfu16
      have hrk := rcn_le Lw k
      have hzk := zcnt_le (Tf T Lw k) 256
      refine g_iload_n C 3 rfl dX8_hasRoom_16 ?_
      refine g_aload_n C 0 rfl dX8_hasRoom_17 ?_
      refine g_getf C wu_X8 0 rfl rfl 21 (by decide) wf_X8_173 rfl rfl dX8_hasRoom_18 ?_
      refine g_icmp_geN C k lm 178 rfl rfl (by omega) (by omega) dX8_hasRoom_21 rfl (fun c21 => ?_) (fun c21 => ?_)
      · skip
        have hkl : k = lm := by omega
        refine g_iload_n C 1 rfl dX8_hasRoom_178 ?_
        refine g_bipush C (nI 6) bp_6 dX8_hasRoom_179 ?_
        refine g_icmp_gtN C (nr + rcn Lw k) 6 194 rfl rfl (by omega) (by omega) dX8_hasRoom_181 rfl (fun c181 => ?_) (fun c181 => ?_)
        · skip
          refine g_iconst C (nI 0) ic_0 dX8_hasRoom_194 ?_
          exact g_zret E false rfl dX8_hasRoom_195 (by decide) (by decide) ⟨(congrArg (fun z => some (Value.int (bI z))) (by rw [← hkl]; first | (rw [decide_eq_true (show nr + rcn Lw k ≤ 6 by omega), decide_eq_true (show zcnt (Tf T Lw k) 256 ≤ 12 by omega)]; rfl) | (rw [decide_eq_false (show ¬ nr + rcn Lw k ≤ 6 by omega)]; rfl) | (rw [decide_eq_false (show ¬ zcnt (Tf T Lw k) 256 ≤ 12 by omega), Bool.and_false]))), rfl⟩
        · skip
          refine g_iload_n C 2 rfl dX8_hasRoom_184 ?_
          refine g_bipush C (nI 12) bp_12 dX8_hasRoom_185 ?_
          refine g_icmp_gtN C (zcnt (Tf T Lw k) 256) 12 194 rfl rfl (by omega) (by omega) dX8_hasRoom_187 rfl (fun c187 => ?_) (fun c187 => ?_)
          · skip
            refine g_iconst C (nI 0) ic_0 dX8_hasRoom_194 ?_
            exact g_zret E false rfl dX8_hasRoom_195 (by decide) (by decide) ⟨(congrArg (fun z => some (Value.int (bI z))) (by rw [← hkl]; first | (rw [decide_eq_true (show nr + rcn Lw k ≤ 6 by omega), decide_eq_true (show zcnt (Tf T Lw k) 256 ≤ 12 by omega)]; rfl) | (rw [decide_eq_false (show ¬ nr + rcn Lw k ≤ 6 by omega)]; rfl) | (rw [decide_eq_false (show ¬ zcnt (Tf T Lw k) 256 ≤ 12 by omega), Bool.and_false]))), rfl⟩
          · skip
            refine g_iconst C (nI 1) ic_1 dX8_hasRoom_190 ?_
            refine g_goto C 195 dX8_hasRoom_191 rfl ?_
            exact g_zret E true rfl dX8_hasRoom_195 (by decide) (by decide) ⟨(congrArg (fun z => some (Value.int (bI z))) (by rw [← hkl]; first | (rw [decide_eq_true (show nr + rcn Lw k ≤ 6 by omega), decide_eq_true (show zcnt (Tf T Lw k) 256 ≤ 12 by omega)]; rfl) | (rw [decide_eq_false (show ¬ nr + rcn Lw k ≤ 6 by omega)]; rfl) | (rw [decide_eq_false (show ¬ zcnt (Tf T Lw k) 256 ≤ 12 by omega), Bool.and_false]))), rfl⟩
      · skip
        have hLk := hL k (by omega)
        refine g_aload_n C 0 rfl dX8_hasRoom_24 ?_
        refine g_getf C wu_X8 0 rfl rfl 20 (by decide) wf_X8_44 rfl rfl dX8_hasRoom_25 ?_
        refine g_iconst C (nI 3) ic_3 dX8_hasRoom_28 ?_
        refine g_iload_n C 3 rfl dX8_hasRoom_29 ?_
        refine g_imul C (nI (3 * k)) dX8_hasRoom_30 (pk_mul _ _) ?_
        refine g_iconst C (nI 1) ic_1 dX8_hasRoom_31 ?_
        refine g_iadd C (nI ((3 * k) + 1)) dX8_hasRoom_32 (nI_add _ _) ?_
        refine g_iald C 2 rfl ((3 * k) + 1) rfl (by omega) (by decide) (eA (Lw (3 * k + 1))) rfl dX8_hasRoom_33 ?_
        refine g_iconst C (-1) ic_m1 dX8_hasRoom_34 ?_
        refine g_icmp_eq C 42 dX8_hasRoom_35 rfl (fun c35 => ?_) (fun c35 => ?_)
        · skip
          have hc4 := (eA_m1 hLk.2.1).mp c35
          refine g_iconst C (nI 0) ic_0 dX8_hasRoom_42 ?_
          refine g_st [.int (bI (decide (Lw (3 * k + 1) ≠ 256)))] (by rw [decide_eq_false (fun z => z hc4)]; rfl) ?_
          refine g_istore C [(4, .int (bI (decide (Lw (3 * k + 1) ≠ 256)))), (0, .ref x0), (1, .int (nI (nr + rcn Lw k))), (2, .int (nI (zcnt (Tf T Lw k) 256))), (3, .int (nI k))] dX8_hasRoom_43 (by decide) rfl ?_
          refine g_iload C 0 rfl dX8_hasRoom_45 ?_
          refine g_if_neB C (decide (Lw (3 * k + 1) ≠ 256)) 71 rfl dX8_hasRoom_47 rfl (fun c47 => ?_) (fun c47 => ?_)
          · skip
            exact absurd hc4 (of_decide_eq_true c47)
          · skip
            refine g_aload_n C 1 rfl dX8_hasRoom_50 ?_
            refine g_getf C wu_X8 0 rfl rfl 1 (by decide) wf_X8_7 rfl rfl dX8_hasRoom_51 ?_
            refine g_aload_n C 1 rfl dX8_hasRoom_54 ?_
            refine g_getf C wu_X8 0 rfl rfl 20 (by decide) wf_X8_44 rfl rfl dX8_hasRoom_55 ?_
            refine g_iconst C (nI 3) ic_3 dX8_hasRoom_58 ?_
            refine g_iload_n C 4 rfl dX8_hasRoom_59 ?_
            refine g_imul C (nI (3 * k)) dX8_hasRoom_60 (pk_mul _ _) ?_
            refine g_iald C 2 rfl (3 * k) rfl (by omega) (by decide) (nI (Lw (3 * k))) (eA_n (by omega)) dX8_hasRoom_61 ?_
            refine g_iald C 1 rfl (Lw (3 * k)) rfl (by omega) (by decide) (nI (if T (Lw (3 * k)) = true then 1 else 0)) (sM_T (by omega)) dX8_hasRoom_62 ?_
            refine g_iconst C (nI 1) ic_1 dX8_hasRoom_63 ?_
            refine g_icmp_neN C (if T (Lw (3 * k)) = true then 1 else 0) 1 71 rfl rfl (by split <;> decide) (by decide) dX8_hasRoom_64 rfl (fun c64 => ?_) (fun c64 => ?_)
            · skip
              refine g_iconst C (nI 0) ic_0 dX8_hasRoom_71 ?_
              refine g_st [.int (bI (decide (Lw (3 * k + 1) = 256) && Tf T Lw 0 (Lw (3 * k))))] (by rw [decide_eq_true hc4, Bool.true_and]; show _ = [Value.int (bI (T (Lw (3 * k))))]; cases hT0 : T (Lw (3 * k)) <;> rw [hT0] at c64 <;> first | rfl | exact absurd rfl c64 | exact absurd c64 (by decide)) ?_
              refine g_istore C [(5, .int (bI (decide (Lw (3 * k + 1) = 256) && Tf T Lw 0 (Lw (3 * k))))), (4, .int (bI (decide (Lw (3 * k + 1) ≠ 256)))), (0, .ref x0), (1, .int (nI (nr + rcn Lw k))), (2, .int (nI (zcnt (Tf T Lw k) 256))), (3, .int (nI k))] dX8_hasRoom_72 (by decide) rfl ?_
              refine g_iconst C (nI 0) ic_0 dX8_hasRoom_74 ?_
              refine g_istore C [(6, .int (nI 0)), (5, .int (bI (decide (Lw (3 * k + 1) = 256) && Tf T Lw 0 (Lw (3 * k))))), (4, .int (bI (decide (Lw (3 * k + 1) ≠ 256)))), (0, .ref x0), (1, .int (nI (nr + rcn Lw k))), (2, .int (nI (zcnt (Tf T Lw k) 256))), (3, .int (nI k))] dX8_hasRoom_75 (by decide) rfl ?_
              refine g_lo [3, 4, 5, 6, 2, 1, 0] [(0, .ref x0), (1, .int (nI (nr + rcn Lw k))), (2, .int (nI (zcnt (Tf T Lw k) 256))), (3, .int (nI k)), (4, .int (bI (decide (Lw (3 * k + 1) ≠ 256)))), (5, .int (bI (decide (Lw (3 * k + 1) = 256) && Tf T Lw 0 (Lw (3 * k))))), (6, .int (nI 0))] rfl ?_
              have L77 : ∀ (fu77 : Nat) (e : Nat) (he : e ≤ k), (k - e) < fu77 → gW pg l en r_X8_hasRoom s0 mi ag bl mth cd 7 D AA HH QQ 77 [(0, .ref x0), (1, .int (nI (nr + rcn Lw k))), (2, .int (nI (zcnt (Tf T Lw k) 256))), (3, .int (nI k)), (4, .int (bI (decide (Lw (3 * k + 1) ≠ 256)))), (5, .int (bI (decide (Lw (3 * k + 1) = 256) && Tf T Lw e (Lw (3 * k))))), (6, .int (nI e))] [] [(x0, .inr (6, [.int (nI th), .ref i1, .ref i2, .int (nI sd), .ref i3, .int (nI ln), .ref j1, .ref j2, .ref j3, .ref j4, .ref j5, .ref j6, .int (nI fm), .int (nI rd), .int (nI mt), .int (nI dr), .ref j7, .ref j8, .int (nI tt), .int (bI (wl)), .ref j9, .int (nI lm), .long (hs)])), (i1, .inl (ty 0, 275, .inl (eR (sM T q nr)))), (j9, .inl (ty 0, 96, .inl (eR Lw)))] 0 0 := by
                intro fu77
                induction fu77 with
                | zero => intro e he hfu; exact absurd hfu (Nat.not_lt_zero _)
                | succ fu77 ih77 =>
                  intro e he hfu77
                  refine g_iload C 6 rfl dX8_hasRoom_77 ?_
                  refine g_iload_n C 3 rfl dX8_hasRoom_79 ?_
                  refine g_icmp_geN C e k 141 rfl rfl (by omega) (by omega) dX8_hasRoom_80 rfl (fun c80 => ?_) (fun c80 => ?_)
                  · skip
                    refine g_lo2 [(0, .ref x0), (1, .int (nI (nr + rcn Lw k))), (2, .int (nI (zcnt (Tf T Lw k) 256))), (3, .int (nI k)), (4, .int (bI (decide (Lw (3 * k + 1) ≠ 256)))), (5, .int (bI (decide (Lw (3 * k + 1) = 256) && Tf T Lw k (Lw (3 * k))))), (6, .int (nI e))] (by rw [show e = k by omega]) ?_
                    refine g_iload_n C 1 rfl dX8_hasRoom_141 ?_
                    refine g_iload C 4 rfl dX8_hasRoom_142 ?_
                    refine g_if_eqB C (decide (Lw (3 * k + 1) ≠ 256)) 151 rfl dX8_hasRoom_144 rfl (fun c144 => ?_) (fun c144 => ?_)
                    · skip
                      refine g_iconst C (nI 0) ic_0 dX8_hasRoom_151 ?_
                      refine g_iadd C (nI (nr + rcn Lw (k + 1))) dX8_hasRoom_152 (by rw [rcn_f hc4]; exact nI_add _ 0) ?_
                      refine g_istore_n C [(1, .int (nI (nr + rcn Lw (k + 1)))), (0, .ref x0), (2, .int (nI (zcnt (Tf T Lw k) 256))), (3, .int (nI k)), (4, .int (bI (decide (Lw (3 * k + 1) ≠ 256)))), (5, .int (bI (decide (Lw (3 * k + 1) = 256) && Tf T Lw k (Lw (3 * k))))), (6, .int (nI e))] dX8_hasRoom_153 rfl (by decide) rfl ?_
                      refine g_iload_n C 2 rfl dX8_hasRoom_154 ?_
                      refine g_iload C 4 rfl dX8_hasRoom_155 ?_
                      refine g_if_neB C (decide (Lw (3 * k + 1) ≠ 256)) 165 rfl dX8_hasRoom_157 rfl (fun c157 => ?_) (fun c157 => ?_)
                      · skip
                        exact absurd hc4 (of_decide_eq_true c157)
                      · skip
                        refine g_iload C 5 rfl dX8_hasRoom_160 ?_
                        refine g_if_eqB C (decide (Lw (3 * k + 1) = 256) && Tf T Lw k (Lw (3 * k))) 169 rfl dX8_hasRoom_162 rfl (fun c162 => ?_) (fun c162 => ?_)
                        · skip
                          refine g_iconst C (nI 1) ic_1 dX8_hasRoom_169 ?_
                          refine g_iadd C (nI (zcnt (Tf T Lw (k + 1)) 256)) dX8_hasRoom_170 (by rw [Tf_f hc4, zcnt_put (by omega), if_neg (show ¬ Tf T Lw k (Lw (3 * k)) = true by rw [decide_eq_true hc4, Bool.true_and] at c162; rw [c162]; decide)]; exact nI_add _ 1) ?_
                          refine g_istore_n C [(2, .int (nI (zcnt (Tf T Lw (k + 1)) 256))), (1, .int (nI (nr + rcn Lw (k + 1)))), (0, .ref x0), (3, .int (nI k)), (4, .int (bI (decide (Lw (3 * k + 1) ≠ 256)))), (5, .int (bI (decide (Lw (3 * k + 1) = 256) && Tf T Lw k (Lw (3 * k))))), (6, .int (nI e))] dX8_hasRoom_171 rfl (by decide) rfl ?_
                          refine g_iinc C (nI (k + 1)) [(3, .int (nI (k + 1))), (2, .int (nI (zcnt (Tf T Lw (k + 1)) 256))), (1, .int (nI (nr + rcn Lw (k + 1)))), (0, .ref x0), (4, .int (bI (decide (Lw (3 * k + 1) ≠ 256)))), (5, .int (bI (decide (Lw (3 * k + 1) = 256) && Tf T Lw k (Lw (3 * k))))), (6, .int (nI e))] 3 dX8_hasRoom_172 rfl (ii_1 _) (by decide) rfl ?_
                          refine g_goto C 16 dX8_hasRoom_175 rfl ?_
                          refine g_lo [3, 2, 1, 0] [(0, .ref x0), (1, .int (nI (nr + rcn Lw (k + 1)))), (2, .int (nI (zcnt (Tf T Lw (k + 1)) 256))), (3, .int (nI (k + 1)))] rfl ?_
                          exact ih16 (k + 1) (by omega) (by omega)
                        · skip
                          refine g_iconst C (nI 0) ic_0 dX8_hasRoom_165 ?_
                          refine g_goto C 170 dX8_hasRoom_166 rfl ?_
                          refine g_iadd C (nI (zcnt (Tf T Lw (k + 1)) 256)) dX8_hasRoom_170 (by rw [Tf_f hc4, zcnt_put (by omega), if_pos (show Tf T Lw k (Lw (3 * k)) = true by rw [decide_eq_true hc4, Bool.true_and] at c162; exact c162)]; exact nI_add _ 0) ?_
                          refine g_istore_n C [(2, .int (nI (zcnt (Tf T Lw (k + 1)) 256))), (1, .int (nI (nr + rcn Lw (k + 1)))), (0, .ref x0), (3, .int (nI k)), (4, .int (bI (decide (Lw (3 * k + 1) ≠ 256)))), (5, .int (bI (decide (Lw (3 * k + 1) = 256) && Tf T Lw k (Lw (3 * k))))), (6, .int (nI e))] dX8_hasRoom_171 rfl (by decide) rfl ?_
                          refine g_iinc C (nI (k + 1)) [(3, .int (nI (k + 1))), (2, .int (nI (zcnt (Tf T Lw (k + 1)) 256))), (1, .int (nI (nr + rcn Lw (k + 1)))), (0, .ref x0), (4, .int (bI (decide (Lw (3 * k + 1) ≠ 256)))), (5, .int (bI (decide (Lw (3 * k + 1) = 256) && Tf T Lw k (Lw (3 * k))))), (6, .int (nI e))] 3 dX8_hasRoom_172 rfl (ii_1 _) (by decide) rfl ?_
                          refine g_goto C 16 dX8_hasRoom_175 rfl ?_
                          refine g_lo [3, 2, 1, 0] [(0, .ref x0), (1, .int (nI (nr + rcn Lw (k + 1)))), (2, .int (nI (zcnt (Tf T Lw (k + 1)) 256))), (3, .int (nI (k + 1)))] rfl ?_
                          exact ih16 (k + 1) (by omega) (by omega)
                    · skip
                      exact absurd hc4 (of_decide_eq_true c144)
                  · skip
                    have hLe := hL e (by omega)
                    refine g_iload C 5 rfl dX8_hasRoom_83 ?_
                    refine g_if_neB C (decide (Lw (3 * k + 1) = 256) && Tf T Lw e (Lw (3 * k))) 128 rfl dX8_hasRoom_85 rfl (fun c85 => ?_) (fun c85 => ?_)
                    · skip
                      have hb9 : (decide (Lw (3 * k + 1) = 256) && Tf T Lw (e + 1) (Lw (3 * k))) = true := by have hz := (Bool.and_eq_true _ _ ▸ c85 : _ ∧ _); rw [hz.1, Bool.true_and]; by_cases z : Lw (3 * e + 1) = 256; (rw [Tf_f z]; unfold zPut; split; rfl; exact hz.2); (rw [Tf_r z]; exact hz.2)
                      refine g_iconst C (nI 1) ic_1 dX8_hasRoom_128 ?_
                      refine g_goto C 133 dX8_hasRoom_129 rfl ?_
                      refine g_st [.int (bI (decide (Lw (3 * k + 1) = 256) && Tf T Lw (e + 1) (Lw (3 * k))))] (by rw [hb9]; rfl) ?_
                      refine g_istore C [(5, .int (bI (decide (Lw (3 * k + 1) = 256) && Tf T Lw (e + 1) (Lw (3 * k))))), (0, .ref x0), (1, .int (nI (nr + rcn Lw k))), (2, .int (nI (zcnt (Tf T Lw k) 256))), (3, .int (nI k)), (4, .int (bI (decide (Lw (3 * k + 1) ≠ 256)))), (6, .int (nI e))] dX8_hasRoom_133 (by decide) rfl ?_
                      refine g_iinc C (nI (e + 1)) [(6, .int (nI (e + 1))), (5, .int (bI (decide (Lw (3 * k + 1) = 256) && Tf T Lw (e + 1) (Lw (3 * k))))), (0, .ref x0), (1, .int (nI (nr + rcn Lw k))), (2, .int (nI (zcnt (Tf T Lw k) 256))), (3, .int (nI k)), (4, .int (bI (decide (Lw (3 * k + 1) ≠ 256))))] 6 dX8_hasRoom_135 rfl (ii_1 _) (by decide) rfl ?_
                      refine g_goto C 77 dX8_hasRoom_138 rfl ?_
                      refine g_lo [2, 3, 4, 5, 6, 1, 0] [(0, .ref x0), (1, .int (nI (nr + rcn Lw k))), (2, .int (nI (zcnt (Tf T Lw k) 256))), (3, .int (nI k)), (4, .int (bI (decide (Lw (3 * k + 1) ≠ 256)))), (5, .int (bI (decide (Lw (3 * k + 1) = 256) && Tf T Lw (e + 1) (Lw (3 * k))))), (6, .int (nI (e + 1)))] rfl ?_
                      exact ih77 (e + 1) (by omega) (by omega)
                    · skip
                      refine g_iload C 4 rfl dX8_hasRoom_88 ?_
                      refine g_if_neB C (decide (Lw (3 * k + 1) ≠ 256)) 132 rfl dX8_hasRoom_90 rfl (fun c90 => ?_) (fun c90 => ?_)
                      · skip
                        exact absurd hc4 (of_decide_eq_true c90)
                      · skip
                        have hS : Tf T Lw e (Lw (3 * k)) = false := by rw [decide_eq_true hc4, Bool.true_and] at c85; exact c85
                        refine g_aload_n C 0 rfl dX8_hasRoom_93 ?_
                        refine g_getf C wu_X8 0 rfl rfl 20 (by decide) wf_X8_44 rfl rfl dX8_hasRoom_94 ?_
                        refine g_iconst C (nI 3) ic_3 dX8_hasRoom_97 ?_
                        refine g_iload C 6 rfl dX8_hasRoom_98 ?_
                        refine g_imul C (nI (3 * e)) dX8_hasRoom_100 (pk_mul _ _) ?_
                        refine g_iconst C (nI 1) ic_1 dX8_hasRoom_101 ?_
                        refine g_iadd C (nI ((3 * e) + 1)) dX8_hasRoom_102 (nI_add _ _) ?_
                        refine g_iald C 2 rfl ((3 * e) + 1) rfl (by omega) (by decide) (eA (Lw (3 * e + 1))) rfl dX8_hasRoom_103 ?_
                        refine g_iconst C (-1) ic_m1 dX8_hasRoom_104 ?_
                        refine g_icmp_ne C 132 dX8_hasRoom_105 rfl (fun c105 => ?_) (fun c105 => ?_)
                        · skip
                          have hb9 : (decide (Lw (3 * k + 1) = 256) && Tf T Lw (e + 1) (Lw (3 * k))) = false := by rw [Tf_r (fun z => c105 ((eA_m1 hLe.2.1).mpr z)), hS, Bool.and_false]
                          refine g_iconst C (nI 0) ic_0 dX8_hasRoom_132 ?_
                          refine g_st [.int (bI (decide (Lw (3 * k + 1) = 256) && Tf T Lw (e + 1) (Lw (3 * k))))] (by rw [hb9]; rfl) ?_
                          refine g_istore C [(5, .int (bI (decide (Lw (3 * k + 1) = 256) && Tf T Lw (e + 1) (Lw (3 * k))))), (0, .ref x0), (1, .int (nI (nr + rcn Lw k))), (2, .int (nI (zcnt (Tf T Lw k) 256))), (3, .int (nI k)), (4, .int (bI (decide (Lw (3 * k + 1) ≠ 256)))), (6, .int (nI e))] dX8_hasRoom_133 (by decide) rfl ?_
                          refine g_iinc C (nI (e + 1)) [(6, .int (nI (e + 1))), (5, .int (bI (decide (Lw (3 * k + 1) = 256) && Tf T Lw (e + 1) (Lw (3 * k))))), (0, .ref x0), (1, .int (nI (nr + rcn Lw k))), (2, .int (nI (zcnt (Tf T Lw k) 256))), (3, .int (nI k)), (4, .int (bI (decide (Lw (3 * k + 1) ≠ 256))))] 6 dX8_hasRoom_135 rfl (ii_1 _) (by decide) rfl ?_
                          refine g_goto C 77 dX8_hasRoom_138 rfl ?_
                          refine g_lo [2, 3, 4, 5, 6, 1, 0] [(0, .ref x0), (1, .int (nI (nr + rcn Lw k))), (2, .int (nI (zcnt (Tf T Lw k) 256))), (3, .int (nI k)), (4, .int (bI (decide (Lw (3 * k + 1) ≠ 256)))), (5, .int (bI (decide (Lw (3 * k + 1) = 256) && Tf T Lw (e + 1) (Lw (3 * k))))), (6, .int (nI (e + 1)))] rfl ?_
                          exact ih77 (e + 1) (by omega) (by omega)
                        · skip
                          have hc5 := (eA_m1 hLe.2.1).mp c105
                          refine g_aload_n C 0 rfl dX8_hasRoom_108 ?_
                          refine g_getf C wu_X8 0 rfl rfl 20 (by decide) wf_X8_44 rfl rfl dX8_hasRoom_109 ?_
                          refine g_iconst C (nI 3) ic_3 dX8_hasRoom_112 ?_
                          refine g_iload C 6 rfl dX8_hasRoom_113 ?_
                          refine g_imul C (nI (3 * e)) dX8_hasRoom_115 (pk_mul _ _) ?_
                          refine g_iald C 2 rfl (3 * e) rfl (by omega) (by decide) (nI (Lw (3 * e))) (eA_n (by omega)) dX8_hasRoom_116 ?_
                          refine g_aload_n C 0 rfl dX8_hasRoom_117 ?_
                          refine g_getf C wu_X8 0 rfl rfl 20 (by decide) wf_X8_44 rfl rfl dX8_hasRoom_118 ?_
                          refine g_iconst C (nI 3) ic_3 dX8_hasRoom_121 ?_
                          refine g_iload_n C 3 rfl dX8_hasRoom_122 ?_
                          refine g_imul C (nI (3 * k)) dX8_hasRoom_123 (pk_mul _ _) ?_
                          refine g_iald C 2 rfl (3 * k) rfl (by omega) (by decide) (nI (Lw (3 * k))) (eA_n (by omega)) dX8_hasRoom_124 ?_
                          refine g_icmp_neN C (Lw (3 * e)) (Lw (3 * k)) 132 rfl rfl (by omega) (by omega) dX8_hasRoom_125 rfl (fun c125 => ?_) (fun c125 => ?_)
                          · skip
                            have hb9 : (decide (Lw (3 * k + 1) = 256) && Tf T Lw (e + 1) (Lw (3 * k))) = false := by rw [Tf_f hc5]; unfold zPut; rw [if_neg (fun z => c125 z.symm), hS, Bool.and_false]
                            refine g_iconst C (nI 0) ic_0 dX8_hasRoom_132 ?_
                            refine g_st [.int (bI (decide (Lw (3 * k + 1) = 256) && Tf T Lw (e + 1) (Lw (3 * k))))] (by rw [hb9]; rfl) ?_
                            refine g_istore C [(5, .int (bI (decide (Lw (3 * k + 1) = 256) && Tf T Lw (e + 1) (Lw (3 * k))))), (0, .ref x0), (1, .int (nI (nr + rcn Lw k))), (2, .int (nI (zcnt (Tf T Lw k) 256))), (3, .int (nI k)), (4, .int (bI (decide (Lw (3 * k + 1) ≠ 256)))), (6, .int (nI e))] dX8_hasRoom_133 (by decide) rfl ?_
                            refine g_iinc C (nI (e + 1)) [(6, .int (nI (e + 1))), (5, .int (bI (decide (Lw (3 * k + 1) = 256) && Tf T Lw (e + 1) (Lw (3 * k))))), (0, .ref x0), (1, .int (nI (nr + rcn Lw k))), (2, .int (nI (zcnt (Tf T Lw k) 256))), (3, .int (nI k)), (4, .int (bI (decide (Lw (3 * k + 1) ≠ 256))))] 6 dX8_hasRoom_135 rfl (ii_1 _) (by decide) rfl ?_
                            refine g_goto C 77 dX8_hasRoom_138 rfl ?_
                            refine g_lo [2, 3, 4, 5, 6, 1, 0] [(0, .ref x0), (1, .int (nI (nr + rcn Lw k))), (2, .int (nI (zcnt (Tf T Lw k) 256))), (3, .int (nI k)), (4, .int (bI (decide (Lw (3 * k + 1) ≠ 256)))), (5, .int (bI (decide (Lw (3 * k + 1) = 256) && Tf T Lw (e + 1) (Lw (3 * k))))), (6, .int (nI (e + 1)))] rfl ?_
                            exact ih77 (e + 1) (by omega) (by omega)
                          · skip
                            have hb9 : (decide (Lw (3 * k + 1) = 256) && Tf T Lw (e + 1) (Lw (3 * k))) = true := by rw [Tf_f hc5, decide_eq_true hc4]; unfold zPut; rw [if_pos c125.symm]; rfl
                            refine g_iconst C (nI 1) ic_1 dX8_hasRoom_128 ?_
                            refine g_goto C 133 dX8_hasRoom_129 rfl ?_
                            refine g_st [.int (bI (decide (Lw (3 * k + 1) = 256) && Tf T Lw (e + 1) (Lw (3 * k))))] (by rw [hb9]; rfl) ?_
                            refine g_istore C [(5, .int (bI (decide (Lw (3 * k + 1) = 256) && Tf T Lw (e + 1) (Lw (3 * k))))), (0, .ref x0), (1, .int (nI (nr + rcn Lw k))), (2, .int (nI (zcnt (Tf T Lw k) 256))), (3, .int (nI k)), (4, .int (bI (decide (Lw (3 * k + 1) ≠ 256)))), (6, .int (nI e))] dX8_hasRoom_133 (by decide) rfl ?_
                            refine g_iinc C (nI (e + 1)) [(6, .int (nI (e + 1))), (5, .int (bI (decide (Lw (3 * k + 1) = 256) && Tf T Lw (e + 1) (Lw (3 * k))))), (0, .ref x0), (1, .int (nI (nr + rcn Lw k))), (2, .int (nI (zcnt (Tf T Lw k) 256))), (3, .int (nI k)), (4, .int (bI (decide (Lw (3 * k + 1) ≠ 256))))] 6 dX8_hasRoom_135 rfl (ii_1 _) (by decide) rfl ?_
                            refine g_goto C 77 dX8_hasRoom_138 rfl ?_
                            refine g_lo [2, 3, 4, 5, 6, 1, 0] [(0, .ref x0), (1, .int (nI (nr + rcn Lw k))), (2, .int (nI (zcnt (Tf T Lw k) 256))), (3, .int (nI k)), (4, .int (bI (decide (Lw (3 * k + 1) ≠ 256)))), (5, .int (bI (decide (Lw (3 * k + 1) = 256) && Tf T Lw (e + 1) (Lw (3 * k))))), (6, .int (nI (e + 1)))] rfl ?_
                            exact ih77 (e + 1) (by omega) (by omega)
              exact L77 (k - 0 + 1) 0 (by omega) (Nat.lt_succ_self _)
            · skip
              refine g_iconst C (nI 1) ic_1 dX8_hasRoom_67 ?_
              refine g_goto C 72 dX8_hasRoom_68 rfl ?_
              refine g_st [.int (bI (decide (Lw (3 * k + 1) = 256) && Tf T Lw 0 (Lw (3 * k))))] (by rw [decide_eq_true hc4, Bool.true_and]; show _ = [Value.int (bI (T (Lw (3 * k))))]; cases hT0 : T (Lw (3 * k)) <;> rw [hT0] at c64 <;> first | rfl | exact absurd rfl c64 | exact absurd c64 (by decide)) ?_
              refine g_istore C [(5, .int (bI (decide (Lw (3 * k + 1) = 256) && Tf T Lw 0 (Lw (3 * k))))), (4, .int (bI (decide (Lw (3 * k + 1) ≠ 256)))), (0, .ref x0), (1, .int (nI (nr + rcn Lw k))), (2, .int (nI (zcnt (Tf T Lw k) 256))), (3, .int (nI k))] dX8_hasRoom_72 (by decide) rfl ?_
              refine g_iconst C (nI 0) ic_0 dX8_hasRoom_74 ?_
              refine g_istore C [(6, .int (nI 0)), (5, .int (bI (decide (Lw (3 * k + 1) = 256) && Tf T Lw 0 (Lw (3 * k))))), (4, .int (bI (decide (Lw (3 * k + 1) ≠ 256)))), (0, .ref x0), (1, .int (nI (nr + rcn Lw k))), (2, .int (nI (zcnt (Tf T Lw k) 256))), (3, .int (nI k))] dX8_hasRoom_75 (by decide) rfl ?_
              refine g_lo [3, 4, 5, 6, 2, 1, 0] [(0, .ref x0), (1, .int (nI (nr + rcn Lw k))), (2, .int (nI (zcnt (Tf T Lw k) 256))), (3, .int (nI k)), (4, .int (bI (decide (Lw (3 * k + 1) ≠ 256)))), (5, .int (bI (decide (Lw (3 * k + 1) = 256) && Tf T Lw 0 (Lw (3 * k))))), (6, .int (nI 0))] rfl ?_
              have L77 : ∀ (fu77 : Nat) (e : Nat) (he : e ≤ k), (k - e) < fu77 → gW pg l en r_X8_hasRoom s0 mi ag bl mth cd 7 D AA HH QQ 77 [(0, .ref x0), (1, .int (nI (nr + rcn Lw k))), (2, .int (nI (zcnt (Tf T Lw k) 256))), (3, .int (nI k)), (4, .int (bI (decide (Lw (3 * k + 1) ≠ 256)))), (5, .int (bI (decide (Lw (3 * k + 1) = 256) && Tf T Lw e (Lw (3 * k))))), (6, .int (nI e))] [] [(x0, .inr (6, [.int (nI th), .ref i1, .ref i2, .int (nI sd), .ref i3, .int (nI ln), .ref j1, .ref j2, .ref j3, .ref j4, .ref j5, .ref j6, .int (nI fm), .int (nI rd), .int (nI mt), .int (nI dr), .ref j7, .ref j8, .int (nI tt), .int (bI (wl)), .ref j9, .int (nI lm), .long (hs)])), (i1, .inl (ty 0, 275, .inl (eR (sM T q nr)))), (j9, .inl (ty 0, 96, .inl (eR Lw)))] 0 0 := by
                intro fu77
                induction fu77 with
                | zero => intro e he hfu; exact absurd hfu (Nat.not_lt_zero _)
                | succ fu77 ih77 =>
                  intro e he hfu77
                  refine g_iload C 6 rfl dX8_hasRoom_77 ?_
                  refine g_iload_n C 3 rfl dX8_hasRoom_79 ?_
                  refine g_icmp_geN C e k 141 rfl rfl (by omega) (by omega) dX8_hasRoom_80 rfl (fun c80 => ?_) (fun c80 => ?_)
                  · skip
                    refine g_lo2 [(0, .ref x0), (1, .int (nI (nr + rcn Lw k))), (2, .int (nI (zcnt (Tf T Lw k) 256))), (3, .int (nI k)), (4, .int (bI (decide (Lw (3 * k + 1) ≠ 256)))), (5, .int (bI (decide (Lw (3 * k + 1) = 256) && Tf T Lw k (Lw (3 * k))))), (6, .int (nI e))] (by rw [show e = k by omega]) ?_
                    refine g_iload_n C 1 rfl dX8_hasRoom_141 ?_
                    refine g_iload C 4 rfl dX8_hasRoom_142 ?_
                    refine g_if_eqB C (decide (Lw (3 * k + 1) ≠ 256)) 151 rfl dX8_hasRoom_144 rfl (fun c144 => ?_) (fun c144 => ?_)
                    · skip
                      refine g_iconst C (nI 0) ic_0 dX8_hasRoom_151 ?_
                      refine g_iadd C (nI (nr + rcn Lw (k + 1))) dX8_hasRoom_152 (by rw [rcn_f hc4]; exact nI_add _ 0) ?_
                      refine g_istore_n C [(1, .int (nI (nr + rcn Lw (k + 1)))), (0, .ref x0), (2, .int (nI (zcnt (Tf T Lw k) 256))), (3, .int (nI k)), (4, .int (bI (decide (Lw (3 * k + 1) ≠ 256)))), (5, .int (bI (decide (Lw (3 * k + 1) = 256) && Tf T Lw k (Lw (3 * k))))), (6, .int (nI e))] dX8_hasRoom_153 rfl (by decide) rfl ?_
                      refine g_iload_n C 2 rfl dX8_hasRoom_154 ?_
                      refine g_iload C 4 rfl dX8_hasRoom_155 ?_
                      refine g_if_neB C (decide (Lw (3 * k + 1) ≠ 256)) 165 rfl dX8_hasRoom_157 rfl (fun c157 => ?_) (fun c157 => ?_)
                      · skip
                        exact absurd hc4 (of_decide_eq_true c157)
                      · skip
                        refine g_iload C 5 rfl dX8_hasRoom_160 ?_
                        refine g_if_eqB C (decide (Lw (3 * k + 1) = 256) && Tf T Lw k (Lw (3 * k))) 169 rfl dX8_hasRoom_162 rfl (fun c162 => ?_) (fun c162 => ?_)
                        · skip
                          refine g_iconst C (nI 1) ic_1 dX8_hasRoom_169 ?_
                          refine g_iadd C (nI (zcnt (Tf T Lw (k + 1)) 256)) dX8_hasRoom_170 (by rw [Tf_f hc4, zcnt_put (by omega), if_neg (show ¬ Tf T Lw k (Lw (3 * k)) = true by rw [decide_eq_true hc4, Bool.true_and] at c162; rw [c162]; decide)]; exact nI_add _ 1) ?_
                          refine g_istore_n C [(2, .int (nI (zcnt (Tf T Lw (k + 1)) 256))), (1, .int (nI (nr + rcn Lw (k + 1)))), (0, .ref x0), (3, .int (nI k)), (4, .int (bI (decide (Lw (3 * k + 1) ≠ 256)))), (5, .int (bI (decide (Lw (3 * k + 1) = 256) && Tf T Lw k (Lw (3 * k))))), (6, .int (nI e))] dX8_hasRoom_171 rfl (by decide) rfl ?_
                          refine g_iinc C (nI (k + 1)) [(3, .int (nI (k + 1))), (2, .int (nI (zcnt (Tf T Lw (k + 1)) 256))), (1, .int (nI (nr + rcn Lw (k + 1)))), (0, .ref x0), (4, .int (bI (decide (Lw (3 * k + 1) ≠ 256)))), (5, .int (bI (decide (Lw (3 * k + 1) = 256) && Tf T Lw k (Lw (3 * k))))), (6, .int (nI e))] 3 dX8_hasRoom_172 rfl (ii_1 _) (by decide) rfl ?_
                          refine g_goto C 16 dX8_hasRoom_175 rfl ?_
                          refine g_lo [3, 2, 1, 0] [(0, .ref x0), (1, .int (nI (nr + rcn Lw (k + 1)))), (2, .int (nI (zcnt (Tf T Lw (k + 1)) 256))), (3, .int (nI (k + 1)))] rfl ?_
                          exact ih16 (k + 1) (by omega) (by omega)
                        · skip
                          refine g_iconst C (nI 0) ic_0 dX8_hasRoom_165 ?_
                          refine g_goto C 170 dX8_hasRoom_166 rfl ?_
                          refine g_iadd C (nI (zcnt (Tf T Lw (k + 1)) 256)) dX8_hasRoom_170 (by rw [Tf_f hc4, zcnt_put (by omega), if_pos (show Tf T Lw k (Lw (3 * k)) = true by rw [decide_eq_true hc4, Bool.true_and] at c162; exact c162)]; exact nI_add _ 0) ?_
                          refine g_istore_n C [(2, .int (nI (zcnt (Tf T Lw (k + 1)) 256))), (1, .int (nI (nr + rcn Lw (k + 1)))), (0, .ref x0), (3, .int (nI k)), (4, .int (bI (decide (Lw (3 * k + 1) ≠ 256)))), (5, .int (bI (decide (Lw (3 * k + 1) = 256) && Tf T Lw k (Lw (3 * k))))), (6, .int (nI e))] dX8_hasRoom_171 rfl (by decide) rfl ?_
                          refine g_iinc C (nI (k + 1)) [(3, .int (nI (k + 1))), (2, .int (nI (zcnt (Tf T Lw (k + 1)) 256))), (1, .int (nI (nr + rcn Lw (k + 1)))), (0, .ref x0), (4, .int (bI (decide (Lw (3 * k + 1) ≠ 256)))), (5, .int (bI (decide (Lw (3 * k + 1) = 256) && Tf T Lw k (Lw (3 * k))))), (6, .int (nI e))] 3 dX8_hasRoom_172 rfl (ii_1 _) (by decide) rfl ?_
                          refine g_goto C 16 dX8_hasRoom_175 rfl ?_
                          refine g_lo [3, 2, 1, 0] [(0, .ref x0), (1, .int (nI (nr + rcn Lw (k + 1)))), (2, .int (nI (zcnt (Tf T Lw (k + 1)) 256))), (3, .int (nI (k + 1)))] rfl ?_
                          exact ih16 (k + 1) (by omega) (by omega)
                    · skip
                      exact absurd hc4 (of_decide_eq_true c144)
                  · skip
                    have hLe := hL e (by omega)
                    refine g_iload C 5 rfl dX8_hasRoom_83 ?_
                    refine g_if_neB C (decide (Lw (3 * k + 1) = 256) && Tf T Lw e (Lw (3 * k))) 128 rfl dX8_hasRoom_85 rfl (fun c85 => ?_) (fun c85 => ?_)
                    · skip
                      have hb9 : (decide (Lw (3 * k + 1) = 256) && Tf T Lw (e + 1) (Lw (3 * k))) = true := by have hz := (Bool.and_eq_true _ _ ▸ c85 : _ ∧ _); rw [hz.1, Bool.true_and]; by_cases z : Lw (3 * e + 1) = 256; (rw [Tf_f z]; unfold zPut; split; rfl; exact hz.2); (rw [Tf_r z]; exact hz.2)
                      refine g_iconst C (nI 1) ic_1 dX8_hasRoom_128 ?_
                      refine g_goto C 133 dX8_hasRoom_129 rfl ?_
                      refine g_st [.int (bI (decide (Lw (3 * k + 1) = 256) && Tf T Lw (e + 1) (Lw (3 * k))))] (by rw [hb9]; rfl) ?_
                      refine g_istore C [(5, .int (bI (decide (Lw (3 * k + 1) = 256) && Tf T Lw (e + 1) (Lw (3 * k))))), (0, .ref x0), (1, .int (nI (nr + rcn Lw k))), (2, .int (nI (zcnt (Tf T Lw k) 256))), (3, .int (nI k)), (4, .int (bI (decide (Lw (3 * k + 1) ≠ 256)))), (6, .int (nI e))] dX8_hasRoom_133 (by decide) rfl ?_
                      refine g_iinc C (nI (e + 1)) [(6, .int (nI (e + 1))), (5, .int (bI (decide (Lw (3 * k + 1) = 256) && Tf T Lw (e + 1) (Lw (3 * k))))), (0, .ref x0), (1, .int (nI (nr + rcn Lw k))), (2, .int (nI (zcnt (Tf T Lw k) 256))), (3, .int (nI k)), (4, .int (bI (decide (Lw (3 * k + 1) ≠ 256))))] 6 dX8_hasRoom_135 rfl (ii_1 _) (by decide) rfl ?_
                      refine g_goto C 77 dX8_hasRoom_138 rfl ?_
                      refine g_lo [2, 3, 4, 5, 6, 1, 0] [(0, .ref x0), (1, .int (nI (nr + rcn Lw k))), (2, .int (nI (zcnt (Tf T Lw k) 256))), (3, .int (nI k)), (4, .int (bI (decide (Lw (3 * k + 1) ≠ 256)))), (5, .int (bI (decide (Lw (3 * k + 1) = 256) && Tf T Lw (e + 1) (Lw (3 * k))))), (6, .int (nI (e + 1)))] rfl ?_
                      exact ih77 (e + 1) (by omega) (by omega)
                    · skip
                      refine g_iload C 4 rfl dX8_hasRoom_88 ?_
                      refine g_if_neB C (decide (Lw (3 * k + 1) ≠ 256)) 132 rfl dX8_hasRoom_90 rfl (fun c90 => ?_) (fun c90 => ?_)
                      · skip
                        exact absurd hc4 (of_decide_eq_true c90)
                      · skip
                        have hS : Tf T Lw e (Lw (3 * k)) = false := by rw [decide_eq_true hc4, Bool.true_and] at c85; exact c85
                        refine g_aload_n C 0 rfl dX8_hasRoom_93 ?_
                        refine g_getf C wu_X8 0 rfl rfl 20 (by decide) wf_X8_44 rfl rfl dX8_hasRoom_94 ?_
                        refine g_iconst C (nI 3) ic_3 dX8_hasRoom_97 ?_
                        refine g_iload C 6 rfl dX8_hasRoom_98 ?_
                        refine g_imul C (nI (3 * e)) dX8_hasRoom_100 (pk_mul _ _) ?_
                        refine g_iconst C (nI 1) ic_1 dX8_hasRoom_101 ?_
                        refine g_iadd C (nI ((3 * e) + 1)) dX8_hasRoom_102 (nI_add _ _) ?_
                        refine g_iald C 2 rfl ((3 * e) + 1) rfl (by omega) (by decide) (eA (Lw (3 * e + 1))) rfl dX8_hasRoom_103 ?_
                        refine g_iconst C (-1) ic_m1 dX8_hasRoom_104 ?_
                        refine g_icmp_ne C 132 dX8_hasRoom_105 rfl (fun c105 => ?_) (fun c105 => ?_)
                        · skip
                          have hb9 : (decide (Lw (3 * k + 1) = 256) && Tf T Lw (e + 1) (Lw (3 * k))) = false := by rw [Tf_r (fun z => c105 ((eA_m1 hLe.2.1).mpr z)), hS, Bool.and_false]
                          refine g_iconst C (nI 0) ic_0 dX8_hasRoom_132 ?_
                          refine g_st [.int (bI (decide (Lw (3 * k + 1) = 256) && Tf T Lw (e + 1) (Lw (3 * k))))] (by rw [hb9]; rfl) ?_
                          refine g_istore C [(5, .int (bI (decide (Lw (3 * k + 1) = 256) && Tf T Lw (e + 1) (Lw (3 * k))))), (0, .ref x0), (1, .int (nI (nr + rcn Lw k))), (2, .int (nI (zcnt (Tf T Lw k) 256))), (3, .int (nI k)), (4, .int (bI (decide (Lw (3 * k + 1) ≠ 256)))), (6, .int (nI e))] dX8_hasRoom_133 (by decide) rfl ?_
                          refine g_iinc C (nI (e + 1)) [(6, .int (nI (e + 1))), (5, .int (bI (decide (Lw (3 * k + 1) = 256) && Tf T Lw (e + 1) (Lw (3 * k))))), (0, .ref x0), (1, .int (nI (nr + rcn Lw k))), (2, .int (nI (zcnt (Tf T Lw k) 256))), (3, .int (nI k)), (4, .int (bI (decide (Lw (3 * k + 1) ≠ 256))))] 6 dX8_hasRoom_135 rfl (ii_1 _) (by decide) rfl ?_
                          refine g_goto C 77 dX8_hasRoom_138 rfl ?_
                          refine g_lo [2, 3, 4, 5, 6, 1, 0] [(0, .ref x0), (1, .int (nI (nr + rcn Lw k))), (2, .int (nI (zcnt (Tf T Lw k) 256))), (3, .int (nI k)), (4, .int (bI (decide (Lw (3 * k + 1) ≠ 256)))), (5, .int (bI (decide (Lw (3 * k + 1) = 256) && Tf T Lw (e + 1) (Lw (3 * k))))), (6, .int (nI (e + 1)))] rfl ?_
                          exact ih77 (e + 1) (by omega) (by omega)
                        · skip
                          have hc5 := (eA_m1 hLe.2.1).mp c105
                          refine g_aload_n C 0 rfl dX8_hasRoom_108 ?_
                          refine g_getf C wu_X8 0 rfl rfl 20 (by decide) wf_X8_44 rfl rfl dX8_hasRoom_109 ?_
                          refine g_iconst C (nI 3) ic_3 dX8_hasRoom_112 ?_
                          refine g_iload C 6 rfl dX8_hasRoom_113 ?_
                          refine g_imul C (nI (3 * e)) dX8_hasRoom_115 (pk_mul _ _) ?_
                          refine g_iald C 2 rfl (3 * e) rfl (by omega) (by decide) (nI (Lw (3 * e))) (eA_n (by omega)) dX8_hasRoom_116 ?_
                          refine g_aload_n C 0 rfl dX8_hasRoom_117 ?_
                          refine g_getf C wu_X8 0 rfl rfl 20 (by decide) wf_X8_44 rfl rfl dX8_hasRoom_118 ?_
                          refine g_iconst C (nI 3) ic_3 dX8_hasRoom_121 ?_
                          refine g_iload_n C 3 rfl dX8_hasRoom_122 ?_
                          refine g_imul C (nI (3 * k)) dX8_hasRoom_123 (pk_mul _ _) ?_
                          refine g_iald C 2 rfl (3 * k) rfl (by omega) (by decide) (nI (Lw (3 * k))) (eA_n (by omega)) dX8_hasRoom_124 ?_
                          refine g_icmp_neN C (Lw (3 * e)) (Lw (3 * k)) 132 rfl rfl (by omega) (by omega) dX8_hasRoom_125 rfl (fun c125 => ?_) (fun c125 => ?_)
                          · skip
                            have hb9 : (decide (Lw (3 * k + 1) = 256) && Tf T Lw (e + 1) (Lw (3 * k))) = false := by rw [Tf_f hc5]; unfold zPut; rw [if_neg (fun z => c125 z.symm), hS, Bool.and_false]
                            refine g_iconst C (nI 0) ic_0 dX8_hasRoom_132 ?_
                            refine g_st [.int (bI (decide (Lw (3 * k + 1) = 256) && Tf T Lw (e + 1) (Lw (3 * k))))] (by rw [hb9]; rfl) ?_
                            refine g_istore C [(5, .int (bI (decide (Lw (3 * k + 1) = 256) && Tf T Lw (e + 1) (Lw (3 * k))))), (0, .ref x0), (1, .int (nI (nr + rcn Lw k))), (2, .int (nI (zcnt (Tf T Lw k) 256))), (3, .int (nI k)), (4, .int (bI (decide (Lw (3 * k + 1) ≠ 256)))), (6, .int (nI e))] dX8_hasRoom_133 (by decide) rfl ?_
                            refine g_iinc C (nI (e + 1)) [(6, .int (nI (e + 1))), (5, .int (bI (decide (Lw (3 * k + 1) = 256) && Tf T Lw (e + 1) (Lw (3 * k))))), (0, .ref x0), (1, .int (nI (nr + rcn Lw k))), (2, .int (nI (zcnt (Tf T Lw k) 256))), (3, .int (nI k)), (4, .int (bI (decide (Lw (3 * k + 1) ≠ 256))))] 6 dX8_hasRoom_135 rfl (ii_1 _) (by decide) rfl ?_
                            refine g_goto C 77 dX8_hasRoom_138 rfl ?_
                            refine g_lo [2, 3, 4, 5, 6, 1, 0] [(0, .ref x0), (1, .int (nI (nr + rcn Lw k))), (2, .int (nI (zcnt (Tf T Lw k) 256))), (3, .int (nI k)), (4, .int (bI (decide (Lw (3 * k + 1) ≠ 256)))), (5, .int (bI (decide (Lw (3 * k + 1) = 256) && Tf T Lw (e + 1) (Lw (3 * k))))), (6, .int (nI (e + 1)))] rfl ?_
                            exact ih77 (e + 1) (by omega) (by omega)
                          · skip
                            have hb9 : (decide (Lw (3 * k + 1) = 256) && Tf T Lw (e + 1) (Lw (3 * k))) = true := by rw [Tf_f hc5, decide_eq_true hc4]; unfold zPut; rw [if_pos c125.symm]; rfl
                            refine g_iconst C (nI 1) ic_1 dX8_hasRoom_128 ?_
                            refine g_goto C 133 dX8_hasRoom_129 rfl ?_
                            refine g_st [.int (bI (decide (Lw (3 * k + 1) = 256) && Tf T Lw (e + 1) (Lw (3 * k))))] (by rw [hb9]; rfl) ?_
                            refine g_istore C [(5, .int (bI (decide (Lw (3 * k + 1) = 256) && Tf T Lw (e + 1) (Lw (3 * k))))), (0, .ref x0), (1, .int (nI (nr + rcn Lw k))), (2, .int (nI (zcnt (Tf T Lw k) 256))), (3, .int (nI k)), (4, .int (bI (decide (Lw (3 * k + 1) ≠ 256)))), (6, .int (nI e))] dX8_hasRoom_133 (by decide) rfl ?_
                            refine g_iinc C (nI (e + 1)) [(6, .int (nI (e + 1))), (5, .int (bI (decide (Lw (3 * k + 1) = 256) && Tf T Lw (e + 1) (Lw (3 * k))))), (0, .ref x0), (1, .int (nI (nr + rcn Lw k))), (2, .int (nI (zcnt (Tf T Lw k) 256))), (3, .int (nI k)), (4, .int (bI (decide (Lw (3 * k + 1) ≠ 256))))] 6 dX8_hasRoom_135 rfl (ii_1 _) (by decide) rfl ?_
                            refine g_goto C 77 dX8_hasRoom_138 rfl ?_
                            refine g_lo [2, 3, 4, 5, 6, 1, 0] [(0, .ref x0), (1, .int (nI (nr + rcn Lw k))), (2, .int (nI (zcnt (Tf T Lw k) 256))), (3, .int (nI k)), (4, .int (bI (decide (Lw (3 * k + 1) ≠ 256)))), (5, .int (bI (decide (Lw (3 * k + 1) = 256) && Tf T Lw (e + 1) (Lw (3 * k))))), (6, .int (nI (e + 1)))] rfl ?_
                            exact ih77 (e + 1) (by omega) (by omega)
              exact L77 (k - 0 + 1) 0 (by omega) (Nat.lt_succ_self _)
        · skip
          have hc4 : Lw (3 * k + 1) ≠ 256 := fun z => c35 ((eA_m1 hLk.2.1).mpr z)
          refine g_iconst C (nI 1) ic_1 dX8_hasRoom_38 ?_
          refine g_goto C 43 dX8_hasRoom_39 rfl ?_
          refine g_st [.int (bI (decide (Lw (3 * k + 1) ≠ 256)))] (by rw [decide_eq_true hc4]; rfl) ?_
          refine g_istore C [(4, .int (bI (decide (Lw (3 * k + 1) ≠ 256)))), (0, .ref x0), (1, .int (nI (nr + rcn Lw k))), (2, .int (nI (zcnt (Tf T Lw k) 256))), (3, .int (nI k))] dX8_hasRoom_43 (by decide) rfl ?_
          refine g_iload C 0 rfl dX8_hasRoom_45 ?_
          refine g_if_neB C (decide (Lw (3 * k + 1) ≠ 256)) 71 rfl dX8_hasRoom_47 rfl (fun c47 => ?_) (fun c47 => ?_)
          · skip
            refine g_iconst C (nI 0) ic_0 dX8_hasRoom_71 ?_
            refine g_st [.int (bI (decide (Lw (3 * k + 1) = 256) && Tf T Lw 0 (Lw (3 * k))))] (by rw [decide_eq_false (show ¬ Lw (3 * k + 1) = 256 by omega)]; rfl) ?_
            refine g_istore C [(5, .int (bI (decide (Lw (3 * k + 1) = 256) && Tf T Lw 0 (Lw (3 * k))))), (4, .int (bI (decide (Lw (3 * k + 1) ≠ 256)))), (0, .ref x0), (1, .int (nI (nr + rcn Lw k))), (2, .int (nI (zcnt (Tf T Lw k) 256))), (3, .int (nI k))] dX8_hasRoom_72 (by decide) rfl ?_
            refine g_iconst C (nI 0) ic_0 dX8_hasRoom_74 ?_
            refine g_istore C [(6, .int (nI 0)), (5, .int (bI (decide (Lw (3 * k + 1) = 256) && Tf T Lw 0 (Lw (3 * k))))), (4, .int (bI (decide (Lw (3 * k + 1) ≠ 256)))), (0, .ref x0), (1, .int (nI (nr + rcn Lw k))), (2, .int (nI (zcnt (Tf T Lw k) 256))), (3, .int (nI k))] dX8_hasRoom_75 (by decide) rfl ?_
            refine g_lo [3, 4, 5, 6, 2, 1, 0] [(0, .ref x0), (1, .int (nI (nr + rcn Lw k))), (2, .int (nI (zcnt (Tf T Lw k) 256))), (3, .int (nI k)), (4, .int (bI (decide (Lw (3 * k + 1) ≠ 256)))), (5, .int (bI (decide (Lw (3 * k + 1) = 256) && Tf T Lw 0 (Lw (3 * k))))), (6, .int (nI 0))] rfl ?_
            have L77 : ∀ (fu77 : Nat) (e : Nat) (he : e ≤ k), (k - e) < fu77 → gW pg l en r_X8_hasRoom s0 mi ag bl mth cd 7 D AA HH QQ 77 [(0, .ref x0), (1, .int (nI (nr + rcn Lw k))), (2, .int (nI (zcnt (Tf T Lw k) 256))), (3, .int (nI k)), (4, .int (bI (decide (Lw (3 * k + 1) ≠ 256)))), (5, .int (bI (decide (Lw (3 * k + 1) = 256) && Tf T Lw e (Lw (3 * k))))), (6, .int (nI e))] [] [(x0, .inr (6, [.int (nI th), .ref i1, .ref i2, .int (nI sd), .ref i3, .int (nI ln), .ref j1, .ref j2, .ref j3, .ref j4, .ref j5, .ref j6, .int (nI fm), .int (nI rd), .int (nI mt), .int (nI dr), .ref j7, .ref j8, .int (nI tt), .int (bI (wl)), .ref j9, .int (nI lm), .long (hs)])), (i1, .inl (ty 0, 275, .inl (eR (sM T q nr)))), (j9, .inl (ty 0, 96, .inl (eR Lw)))] 0 0 := by
              intro fu77
              induction fu77 with
              | zero => intro e he hfu; exact absurd hfu (Nat.not_lt_zero _)
              | succ fu77 ih77 =>
                intro e he hfu77
                refine g_iload C 6 rfl dX8_hasRoom_77 ?_
                refine g_iload_n C 3 rfl dX8_hasRoom_79 ?_
                refine g_icmp_geN C e k 141 rfl rfl (by omega) (by omega) dX8_hasRoom_80 rfl (fun c80 => ?_) (fun c80 => ?_)
                · skip
                  refine g_lo2 [(0, .ref x0), (1, .int (nI (nr + rcn Lw k))), (2, .int (nI (zcnt (Tf T Lw k) 256))), (3, .int (nI k)), (4, .int (bI (decide (Lw (3 * k + 1) ≠ 256)))), (5, .int (bI (decide (Lw (3 * k + 1) = 256) && Tf T Lw k (Lw (3 * k))))), (6, .int (nI e))] (by rw [show e = k by omega]) ?_
                  refine g_iload_n C 1 rfl dX8_hasRoom_141 ?_
                  refine g_iload C 4 rfl dX8_hasRoom_142 ?_
                  refine g_if_eqB C (decide (Lw (3 * k + 1) ≠ 256)) 151 rfl dX8_hasRoom_144 rfl (fun c144 => ?_) (fun c144 => ?_)
                  · skip
                    exact absurd (decide_eq_true hc4) (by rw [c144]; decide)
                  · skip
                    refine g_iconst C (nI 1) ic_1 dX8_hasRoom_147 ?_
                    refine g_goto C 152 dX8_hasRoom_148 rfl ?_
                    refine g_iadd C (nI (nr + rcn Lw (k + 1))) dX8_hasRoom_152 (by rw [rcn_r hc4]; exact nI_add _ 1) ?_
                    refine g_istore_n C [(1, .int (nI (nr + rcn Lw (k + 1)))), (0, .ref x0), (2, .int (nI (zcnt (Tf T Lw k) 256))), (3, .int (nI k)), (4, .int (bI (decide (Lw (3 * k + 1) ≠ 256)))), (5, .int (bI (decide (Lw (3 * k + 1) = 256) && Tf T Lw k (Lw (3 * k))))), (6, .int (nI e))] dX8_hasRoom_153 rfl (by decide) rfl ?_
                    refine g_iload_n C 2 rfl dX8_hasRoom_154 ?_
                    refine g_iload C 4 rfl dX8_hasRoom_155 ?_
                    refine g_if_neB C (decide (Lw (3 * k + 1) ≠ 256)) 165 rfl dX8_hasRoom_157 rfl (fun c157 => ?_) (fun c157 => ?_)
                    · skip
                      refine g_iconst C (nI 0) ic_0 dX8_hasRoom_165 ?_
                      refine g_goto C 170 dX8_hasRoom_166 rfl ?_
                      refine g_iadd C (nI (zcnt (Tf T Lw (k + 1)) 256)) dX8_hasRoom_170 (by rw [Tf_r hc4]; exact nI_add _ 0) ?_
                      refine g_istore_n C [(2, .int (nI (zcnt (Tf T Lw (k + 1)) 256))), (1, .int (nI (nr + rcn Lw (k + 1)))), (0, .ref x0), (3, .int (nI k)), (4, .int (bI (decide (Lw (3 * k + 1) ≠ 256)))), (5, .int (bI (decide (Lw (3 * k + 1) = 256) && Tf T Lw k (Lw (3 * k))))), (6, .int (nI e))] dX8_hasRoom_171 rfl (by decide) rfl ?_
                      refine g_iinc C (nI (k + 1)) [(3, .int (nI (k + 1))), (2, .int (nI (zcnt (Tf T Lw (k + 1)) 256))), (1, .int (nI (nr + rcn Lw (k + 1)))), (0, .ref x0), (4, .int (bI (decide (Lw (3 * k + 1) ≠ 256)))), (5, .int (bI (decide (Lw (3 * k + 1) = 256) && Tf T Lw k (Lw (3 * k))))), (6, .int (nI e))] 3 dX8_hasRoom_172 rfl (ii_1 _) (by decide) rfl ?_
                      refine g_goto C 16 dX8_hasRoom_175 rfl ?_
                      refine g_lo [3, 2, 1, 0] [(0, .ref x0), (1, .int (nI (nr + rcn Lw (k + 1)))), (2, .int (nI (zcnt (Tf T Lw (k + 1)) 256))), (3, .int (nI (k + 1)))] rfl ?_
                      exact ih16 (k + 1) (by omega) (by omega)
                    · skip
                      exact absurd (decide_eq_true hc4) (by rw [c157]; decide)
                · skip
                  have hLe := hL e (by omega)
                  refine g_iload C 5 rfl dX8_hasRoom_83 ?_
                  refine g_if_neB C (decide (Lw (3 * k + 1) = 256) && Tf T Lw e (Lw (3 * k))) 128 rfl dX8_hasRoom_85 rfl (fun c85 => ?_) (fun c85 => ?_)
                  · skip
                    have hb9 : (decide (Lw (3 * k + 1) = 256) && Tf T Lw (e + 1) (Lw (3 * k))) = true := by have hz := (Bool.and_eq_true _ _ ▸ c85 : _ ∧ _); rw [hz.1, Bool.true_and]; by_cases z : Lw (3 * e + 1) = 256; (rw [Tf_f z]; unfold zPut; split; rfl; exact hz.2); (rw [Tf_r z]; exact hz.2)
                    refine g_iconst C (nI 1) ic_1 dX8_hasRoom_128 ?_
                    refine g_goto C 133 dX8_hasRoom_129 rfl ?_
                    refine g_st [.int (bI (decide (Lw (3 * k + 1) = 256) && Tf T Lw (e + 1) (Lw (3 * k))))] (by rw [hb9]; rfl) ?_
                    refine g_istore C [(5, .int (bI (decide (Lw (3 * k + 1) = 256) && Tf T Lw (e + 1) (Lw (3 * k))))), (0, .ref x0), (1, .int (nI (nr + rcn Lw k))), (2, .int (nI (zcnt (Tf T Lw k) 256))), (3, .int (nI k)), (4, .int (bI (decide (Lw (3 * k + 1) ≠ 256)))), (6, .int (nI e))] dX8_hasRoom_133 (by decide) rfl ?_
                    refine g_iinc C (nI (e + 1)) [(6, .int (nI (e + 1))), (5, .int (bI (decide (Lw (3 * k + 1) = 256) && Tf T Lw (e + 1) (Lw (3 * k))))), (0, .ref x0), (1, .int (nI (nr + rcn Lw k))), (2, .int (nI (zcnt (Tf T Lw k) 256))), (3, .int (nI k)), (4, .int (bI (decide (Lw (3 * k + 1) ≠ 256))))] 6 dX8_hasRoom_135 rfl (ii_1 _) (by decide) rfl ?_
                    refine g_goto C 77 dX8_hasRoom_138 rfl ?_
                    refine g_lo [2, 3, 4, 5, 6, 1, 0] [(0, .ref x0), (1, .int (nI (nr + rcn Lw k))), (2, .int (nI (zcnt (Tf T Lw k) 256))), (3, .int (nI k)), (4, .int (bI (decide (Lw (3 * k + 1) ≠ 256)))), (5, .int (bI (decide (Lw (3 * k + 1) = 256) && Tf T Lw (e + 1) (Lw (3 * k))))), (6, .int (nI (e + 1)))] rfl ?_
                    exact ih77 (e + 1) (by omega) (by omega)
                  · skip
                    refine g_iload C 4 rfl dX8_hasRoom_88 ?_
                    refine g_if_neB C (decide (Lw (3 * k + 1) ≠ 256)) 132 rfl dX8_hasRoom_90 rfl (fun c90 => ?_) (fun c90 => ?_)
                    · skip
                      have hb9 : (decide (Lw (3 * k + 1) = 256) && Tf T Lw (e + 1) (Lw (3 * k))) = false := by rw [decide_eq_false (show ¬ Lw (3 * k + 1) = 256 from hc4)]; rfl
                      refine g_iconst C (nI 0) ic_0 dX8_hasRoom_132 ?_
                      refine g_st [.int (bI (decide (Lw (3 * k + 1) = 256) && Tf T Lw (e + 1) (Lw (3 * k))))] (by rw [hb9]; rfl) ?_
                      refine g_istore C [(5, .int (bI (decide (Lw (3 * k + 1) = 256) && Tf T Lw (e + 1) (Lw (3 * k))))), (0, .ref x0), (1, .int (nI (nr + rcn Lw k))), (2, .int (nI (zcnt (Tf T Lw k) 256))), (3, .int (nI k)), (4, .int (bI (decide (Lw (3 * k + 1) ≠ 256)))), (6, .int (nI e))] dX8_hasRoom_133 (by decide) rfl ?_
                      refine g_iinc C (nI (e + 1)) [(6, .int (nI (e + 1))), (5, .int (bI (decide (Lw (3 * k + 1) = 256) && Tf T Lw (e + 1) (Lw (3 * k))))), (0, .ref x0), (1, .int (nI (nr + rcn Lw k))), (2, .int (nI (zcnt (Tf T Lw k) 256))), (3, .int (nI k)), (4, .int (bI (decide (Lw (3 * k + 1) ≠ 256))))] 6 dX8_hasRoom_135 rfl (ii_1 _) (by decide) rfl ?_
                      refine g_goto C 77 dX8_hasRoom_138 rfl ?_
                      refine g_lo [2, 3, 4, 5, 6, 1, 0] [(0, .ref x0), (1, .int (nI (nr + rcn Lw k))), (2, .int (nI (zcnt (Tf T Lw k) 256))), (3, .int (nI k)), (4, .int (bI (decide (Lw (3 * k + 1) ≠ 256)))), (5, .int (bI (decide (Lw (3 * k + 1) = 256) && Tf T Lw (e + 1) (Lw (3 * k))))), (6, .int (nI (e + 1)))] rfl ?_
                      exact ih77 (e + 1) (by omega) (by omega)
                    · skip
                      exact absurd (decide_eq_true hc4) (by rw [c90]; decide)
            exact L77 (k - 0 + 1) 0 (by omega) (Nat.lt_succ_self _)
          · skip
            exact absurd (decide_eq_true hc4) (by rw [c47]; decide)
  exact L16 (lm - 0 + 1) 0 (by omega) (Nat.lt_succ_self _)
