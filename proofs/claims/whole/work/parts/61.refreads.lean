def r_X8_read_x1 : Room := { frames := 5, cells := 0, slots := 0, locals := 110 }
set_option maxRecDepth 100000 in
set_option maxHeartbeats 4000000 in
theorem k_X8_read_x1 (l : Launch) (D : va_G) (ty : Nat → ClassId) (x0 : Nat) (th : Nat) (i1 : Nat) (i2 : Nat) (sd : Nat) (i3 : Nat) (ln : Nat) (j1 : Nat) (j2 : Nat) (j3 : Nat) (j4 : Nat) (j5 : Nat) (j6 : Nat) (fm : Nat) (rd : Nat) (mt : Nat) (dr : Nat) (j7 : Nat) (j8 : Nat) (tt : Nat) (wl : Bool) (j9 : Nat) (lm : Nat) (hs : Int64) (b : Nat → Nat) (Lw : Nat → Nat) (as1 : Nat → Nat) (hl : ln ≤ 60) (hb : ∀ j, j < ln → b j < 128) (hbad : fe b as1 ln ≠ none ∨ stb (ry b as1 ln) = false) : gM l D ty yX8_read cX8_read 2 (some (FieldType.int : FieldType)) r_X8_read_x1 0 0 [.ref x0] [(x0, .inr (6, [.int (nI th), .ref i1, .ref i2, .int (nI sd), .ref i3, .int (nI ln), .ref j1, .ref j2, .ref j3, .ref j4, .ref j5, .ref j6, .int (nI fm), .int (nI rd), .int (nI mt), .int (nI dr), .ref j7, .ref j8, .int (nI tt), .int (bI (wl)), .ref j9, .int (nI lm), .long (hs)])), (i3, .inl (ty 0, 60, .inl (tI b))), (j9, .inl (ty 0, 96, .inl (eR Lw)))] (fun (zr : Option Value) (zW : va_W) => ∃ (w9 : Bool) (u9 : Nat) (n9 : Nat) (M9 : Nat → Nat), zr = some (.int (nI 0)) ∧ zW = [(x0, .inr (6, [.int (nI 1), .ref i1, .ref i2, .int (nI sd), .ref i3, .int (nI ln), .ref j1, .ref j2, .ref j3, .ref j4, .ref j5, .ref j6, .int (nI fm), .int (nI rd), .int (nI mt), .int (nI dr), .ref j7, .ref j8, .int (nI u9), .int (bI (w9)), .ref j9, .int (nI n9), .long (hs)])), (i3, .inl (ty 0, 60, .inl (tI b))), (j9, .inl (ty 0, 96, .inl (eR M9)))]) := by
  refine gM_of RX8 rfl (by decide +kernel) (Nat.le_of_ble_eq_true rfl) ?_
  intro pg en s0 mi ag bl mth cd AA HH QQ C E hnm
  show gW pg l en r_X8_read_x1 s0 mi ag bl mth cd 2 D AA HH QQ 0 [(0, .ref x0)] [] [(x0, .inr (6, [.int (nI th), .ref i1, .ref i2, .int (nI sd), .ref i3, .int (nI ln), .ref j1, .ref j2, .ref j3, .ref j4, .ref j5, .ref j6, .int (nI fm), .int (nI rd), .int (nI mt), .int (nI dr), .ref j7, .ref j8, .int (nI tt), .int (bI (wl)), .ref j9, .int (nI lm), .long (hs)])), (i3, .inl (ty 0, 60, .inl (tI b))), (j9, .inl (ty 0, 96, .inl (eR Lw)))] 0 0
  refine g_aload_n C 0 rfl dX8_read_0 ?_
  refine g_iconst C (nI 0) ic_0 dX8_read_1 ?_
  refine g_putf C wu_X8 tyX8 tyX8_ok nmX8 0 rfl rfl 0 (by decide) wf_X8_47 rfl rfl rfl rfl (Nat.le_of_ble_eq_true rfl) dX8_read_2 [(x0, .inr (6, [.int (nI 0), .ref i1, .ref i2, .int (nI sd), .ref i3, .int (nI ln), .ref j1, .ref j2, .ref j3, .ref j4, .ref j5, .ref j6, .int (nI fm), .int (nI rd), .int (nI mt), .int (nI dr), .ref j7, .ref j8, .int (nI tt), .int (bI (wl)), .ref j9, .int (nI lm), .long (hs)])), (i3, .inl (ty 0, 60, .inl (tI b))), (j9, .inl (ty 0, 96, .inl (eR Lw)))] rfl ?_
  refine g_aload_n C 0 rfl dX8_read_5 ?_
  refine g_callV C (nA := 0) (ci := 6) (q0 := 0) (As := []) (wr := []) (k_X8_readsAll l D ty x0 0 i1 i2 sd i3 ln j1 j2 j3 j4 j5 j6 fm rd mt dr j7 j8 tt wl j9 lm hs b Lw (by omega) hb) wm_X8_179 wn_X8_readsAll wv_X8_readsAll wi_X8 wc_X8_readsAll rfl (by decide +kernel) ⟨(Nat.le_of_ble_eq_true rfl), (Nat.le_of_ble_eq_true rfl)⟩ ⟨rfl, rfl⟩ dX8_read_6 ⟨Nat.zero_le _, Nat.zero_le _⟩ rfl rfl rfl [0, 1, 2] [] rfl rfl rfl rfl (by decide) (Nat.le_of_ble_eq_true rfl) rfl (fun r W1 hp => ?_)
  obtain ⟨w5, u5, n5, M5, hr1, rfl, rfl⟩ := hp
  refine g_fix [] [(x0, .inr (6, [.int (nI 0), .ref i1, .ref i2, .int (nI sd), .ref i3, .int (nI ln), .ref j1, .ref j2, .ref j3, .ref j4, .ref j5, .ref j6, .int (nI fm), .int (nI rd), .int (nI mt), .int (nI dr), .ref j7, .ref j8, .int (nI u5), .int (bI (w5)), .ref j9, .int (nI n5), .long (hs)])), (i3, .inl (ty 0, 60, .inl (tI b))), (j9, .inl (ty 0, 96, .inl (eR M5)))] [0, 1, 2] rfl rfl rfl ?_
  have hw : w5 = false := by
    cases h : w5 with
    | false => rfl
    | true =>
      obtain ⟨e1, e2, e3, e4⟩ := le_end ((hr1 as1).1 h).2 (Nat.lt_irrefl _)
      exact absurd hbad (by rw [e2, e3]; simp)
  refine g_aload_n C 0 rfl dX8_read_9 ?_
  refine g_getf C wu_X8 0 rfl rfl 19 (by decide) wf_X8_157 rfl rfl dX8_read_10 ?_
  refine g_if_neB C w5 22 rfl dX8_read_13 rfl (fun c13 => ?_) (fun c13 => ?_)
  · skip
    exact absurd (hw.symm.trans c13) (by decide)
  · skip
    refine g_aload_n C 0 rfl dX8_read_16 ?_
    refine g_iconst C (nI 1) ic_1 dX8_read_17 ?_
    refine g_callV C (nA := 1) (ci := 6) (q0 := 0) (As := [.int (nI 1)]) (wr := [(i3, .inl (ty 0, 60, .inl (tI b))), (j9, .inl (ty 0, 96, .inl (eR M5)))]) (k_X8_fails l D ty x0 0 i1 i2 sd i3 ln j1 j2 j3 j4 j5 j6 fm rd mt dr j7 j8 u5 w5 j9 n5 hs 1 ) wm_X8_131 wn_X8_fails wv_X8_fails wi_X8 wc_X8_fails rfl (by decide +kernel) ⟨(Nat.le_of_ble_eq_true rfl), (Nat.le_of_ble_eq_true rfl)⟩ ⟨rfl, rfl⟩ dX8_read_18 ⟨Nat.zero_le _, Nat.zero_le _⟩ rfl rfl rfl [0] [1, 2] rfl rfl rfl rfl (by decide) (Nat.le_of_ble_eq_true rfl) rfl (fun r W1 hp => ?_)
    obtain ⟨rfl, rfl⟩ := hp
    refine g_fix [.int (nI 0)] [(x0, .inr (6, [.int (nI 1), .ref i1, .ref i2, .int (nI sd), .ref i3, .int (nI ln), .ref j1, .ref j2, .ref j3, .ref j4, .ref j5, .ref j6, .int (nI fm), .int (nI rd), .int (nI mt), .int (nI dr), .ref j7, .ref j8, .int (nI u5), .int (bI (w5)), .ref j9, .int (nI n5), .long (hs)])), (i3, .inl (ty 0, 60, .inl (tI b))), (j9, .inl (ty 0, 96, .inl (eR M5)))] [2, 0, 1] rfl rfl rfl ?_
    exact g_iret E dX8_read_21 (by decide) (by decide) ⟨w5, u5, n5, M5, rfl, rfl⟩
def r_X8_read_x2 : Room := { frames := 5, cells := 0, slots := 0, locals := 110 }
set_option maxRecDepth 100000 in
set_option maxHeartbeats 4000000 in
theorem k_X8_read_x2 (l : Launch) (D : va_G) (ty : Nat → ClassId) (x0 : Nat) (th : Nat) (i1 : Nat) (i2 : Nat) (sd : Nat) (i3 : Nat) (ln : Nat) (j1 : Nat) (j2 : Nat) (j3 : Nat) (j4 : Nat) (j5 : Nat) (j6 : Nat) (fm : Nat) (rd : Nat) (mt : Nat) (dr : Nat) (j7 : Nat) (j8 : Nat) (tt : Nat) (wl : Bool) (j9 : Nat) (lm : Nat) (hs : Int64) (T : Nat → Bool) (q : Nat → Nat) (nr : Nat) (b : Nat → Nat) (Lw : Nat → Nat) (as1 : Nat → Nat) (a2 : Nat → Nat) (hl : ln ≤ 60) (hb : ∀ j, j < ln → b j < 128) (hfe : fe b as1 ln = none) (hst : stb (ry b as1 ln) = true) (h6 : nr ≤ 6) (hno : ∀ P2, pst b a2 ln (0, T, q, nr) (ln + 1) = some P2 → 12 < zcnt P2.2.1 256) : gM l D ty yX8_read cX8_read 2 (some (FieldType.int : FieldType)) r_X8_read_x2 0 0 [.ref x0] [(x0, .inr (6, [.int (nI th), .ref i1, .ref i2, .int (nI sd), .ref i3, .int (nI ln), .ref j1, .ref j2, .ref j3, .ref j4, .ref j5, .ref j6, .int (nI fm), .int (nI rd), .int (nI mt), .int (nI dr), .ref j7, .ref j8, .int (nI tt), .int (bI (wl)), .ref j9, .int (nI lm), .long (hs)])), (i1, .inl (ty 0, 275, .inl (eR (sM T q nr)))), (i3, .inl (ty 0, 60, .inl (tI b))), (j9, .inl (ty 0, 96, .inl (eR Lw)))] (fun (zr : Option Value) (zW : va_W) => ∃ (w9 : Bool) (u9 : Nat) (n9 : Nat) (M9 : Nat → Nat), zr = some (.int (nI 0)) ∧ zW = [(x0, .inr (6, [.int (nI 2), .ref i1, .ref i2, .int (nI sd), .ref i3, .int (nI ln), .ref j1, .ref j2, .ref j3, .ref j4, .ref j5, .ref j6, .int (nI fm), .int (nI rd), .int (nI mt), .int (nI dr), .ref j7, .ref j8, .int (nI u9), .int (bI (w9)), .ref j9, .int (nI n9), .long (hs)])), (i1, .inl (ty 0, 275, .inl (eR (sM T q nr)))), (i3, .inl (ty 0, 60, .inl (tI b))), (j9, .inl (ty 0, 96, .inl (eR M9)))]) := by
  refine gM_of RX8 rfl (by decide +kernel) (Nat.le_of_ble_eq_true rfl) ?_
  intro pg en s0 mi ag bl mth cd AA HH QQ C E hnm
  show gW pg l en r_X8_read_x2 s0 mi ag bl mth cd 2 D AA HH QQ 0 [(0, .ref x0)] [] [(x0, .inr (6, [.int (nI th), .ref i1, .ref i2, .int (nI sd), .ref i3, .int (nI ln), .ref j1, .ref j2, .ref j3, .ref j4, .ref j5, .ref j6, .int (nI fm), .int (nI rd), .int (nI mt), .int (nI dr), .ref j7, .ref j8, .int (nI tt), .int (bI (wl)), .ref j9, .int (nI lm), .long (hs)])), (i1, .inl (ty 0, 275, .inl (eR (sM T q nr)))), (i3, .inl (ty 0, 60, .inl (tI b))), (j9, .inl (ty 0, 96, .inl (eR Lw)))] 0 0
  refine g_aload_n C 0 rfl dX8_read_0 ?_
  refine g_iconst C (nI 0) ic_0 dX8_read_1 ?_
  refine g_putf C wu_X8 tyX8 tyX8_ok nmX8 0 rfl rfl 0 (by decide) wf_X8_47 rfl rfl rfl rfl (Nat.le_of_ble_eq_true rfl) dX8_read_2 [(x0, .inr (6, [.int (nI 0), .ref i1, .ref i2, .int (nI sd), .ref i3, .int (nI ln), .ref j1, .ref j2, .ref j3, .ref j4, .ref j5, .ref j6, .int (nI fm), .int (nI rd), .int (nI mt), .int (nI dr), .ref j7, .ref j8, .int (nI tt), .int (bI (wl)), .ref j9, .int (nI lm), .long (hs)])), (i1, .inl (ty 0, 275, .inl (eR (sM T q nr)))), (i3, .inl (ty 0, 60, .inl (tI b))), (j9, .inl (ty 0, 96, .inl (eR Lw)))] rfl ?_
  refine g_aload_n C 0 rfl dX8_read_5 ?_
  refine g_callV C (nA := 0) (ci := 6) (q0 := 0) (As := []) (wr := [(i1, .inl (ty 0, 275, .inl (eR (sM T q nr))))]) (k_X8_readsAll l D ty x0 0 i1 i2 sd i3 ln j1 j2 j3 j4 j5 j6 fm rd mt dr j7 j8 tt wl j9 lm hs b Lw (by omega) hb) wm_X8_179 wn_X8_readsAll wv_X8_readsAll wi_X8 wc_X8_readsAll rfl (by decide +kernel) ⟨(Nat.le_of_ble_eq_true rfl), (Nat.le_of_ble_eq_true rfl)⟩ ⟨rfl, rfl⟩ dX8_read_6 ⟨Nat.zero_le _, Nat.zero_le _⟩ rfl rfl rfl [0, 2, 3] [1] rfl rfl rfl rfl (by decide) (Nat.le_of_ble_eq_true rfl) rfl (fun r W1 hp => ?_)
  obtain ⟨w5, u5, n5, M5, hr1, rfl, rfl⟩ := hp
  refine g_fix [] [(x0, .inr (6, [.int (nI 0), .ref i1, .ref i2, .int (nI sd), .ref i3, .int (nI ln), .ref j1, .ref j2, .ref j3, .ref j4, .ref j5, .ref j6, .int (nI fm), .int (nI rd), .int (nI mt), .int (nI dr), .ref j7, .ref j8, .int (nI u5), .int (bI (w5)), .ref j9, .int (nI n5), .long (hs)])), (i1, .inl (ty 0, 275, .inl (eR (sM T q nr)))), (i3, .inl (ty 0, 60, .inl (tI b))), (j9, .inl (ty 0, 96, .inl (eR M5)))] [1, 0, 2, 3] rfl rfl rfl ?_
  have hw : w5 = true := by
    cases h : w5 with
    | true => rfl
    | false => exact absurd ((bd_fe ((hr1 as1).2 h)).2) (by rw [hfe, hst]; simp)
  have hE2 := ((hr1 a2).1 hw).2
  have hap := (le_end hE2 (Nat.lt_irrefl _)).2.2.2 (0, T, q, nr)
  rw [apl_la _ _ _ _ _ h6] at hap
  have hlan := la_n M5 (T, q, nr) n5
  have hL5 := hE2.2.2.2.2.2.2.1
  have h4n := hE2.2.2.2.2.2.2.2
  refine g_aload_n C 0 rfl dX8_read_9 ?_
  refine g_getf C wu_X8 0 rfl rfl 19 (by decide) wf_X8_157 rfl rfl dX8_read_10 ?_
  refine g_if_neB C w5 22 rfl dX8_read_13 rfl (fun c13 => ?_) (fun c13 => ?_)
  · skip
    refine g_aload_n C 0 rfl dX8_read_22 ?_
    refine g_callV C (nA := 0) (ci := 6) (q0 := 0) (As := []) (wr := [(i3, .inl (ty 0, 60, .inl (tI b)))]) (k_X8_hasRoom l D ty x0 0 i1 i2 sd i3 ln j1 j2 j3 j4 j5 j6 fm rd mt dr j7 j8 u5 w5 j9 n5 hs T q nr M5 (by omega) hL5 (by omega)) wm_X8_182 wn_X8_hasRoom wv_X8_hasRoom wi_X8 wc_X8_hasRoom rfl (by decide +kernel) ⟨(Nat.le_of_ble_eq_true rfl), (Nat.le_of_ble_eq_true rfl)⟩ ⟨rfl, rfl⟩ dX8_read_23 ⟨Nat.zero_le _, Nat.zero_le _⟩ rfl rfl rfl [0, 1, 3] [2] rfl rfl rfl rfl (by decide) (Nat.le_of_ble_eq_true rfl) rfl (fun r W1 hp => ?_)
    obtain ⟨rfl, rfl⟩ := hp
    refine g_fix [.int (bI (decide (nr + rcn M5 n5 ≤ 6) && decide (zcnt (Tf T M5 n5) 256 ≤ 12)))] [(x0, .inr (6, [.int (nI 0), .ref i1, .ref i2, .int (nI sd), .ref i3, .int (nI ln), .ref j1, .ref j2, .ref j3, .ref j4, .ref j5, .ref j6, .int (nI fm), .int (nI rd), .int (nI mt), .int (nI dr), .ref j7, .ref j8, .int (nI u5), .int (bI (w5)), .ref j9, .int (nI n5), .long (hs)])), (i1, .inl (ty 0, 275, .inl (eR (sM T q nr)))), (i3, .inl (ty 0, 60, .inl (tI b))), (j9, .inl (ty 0, 96, .inl (eR M5)))] [1, 2, 0, 3] rfl rfl rfl ?_
    refine g_if_neB C (decide (nr + rcn M5 n5 ≤ 6) && decide (zcnt (Tf T M5 n5) 256 ≤ 12)) 35 rfl dX8_read_26 rfl (fun c26 => ?_) (fun c26 => ?_)
    · skip
      exact absurd (hno _ (hap.trans (if_pos (of_decide_eq_true (Bool.and_eq_true _ _ ▸ c26 : _ ∧ _).1)))) (by have z := of_decide_eq_true (Bool.and_eq_true _ _ ▸ c26 : _ ∧ _).2; rw [← hlan.2] at z; exact Nat.not_lt.mpr z)
    · skip
      refine g_aload_n C 0 rfl dX8_read_29 ?_
      refine g_iconst C (nI 2) ic_2 dX8_read_30 ?_
      refine g_callV C (nA := 1) (ci := 6) (q0 := 0) (As := [.int (nI 2)]) (wr := [(i1, .inl (ty 0, 275, .inl (eR (sM T q nr)))), (i3, .inl (ty 0, 60, .inl (tI b))), (j9, .inl (ty 0, 96, .inl (eR M5)))]) (k_X8_fails l D ty x0 0 i1 i2 sd i3 ln j1 j2 j3 j4 j5 j6 fm rd mt dr j7 j8 u5 w5 j9 n5 hs 2 ) wm_X8_131 wn_X8_fails wv_X8_fails wi_X8 wc_X8_fails rfl (by decide +kernel) ⟨(Nat.le_of_ble_eq_true rfl), (Nat.le_of_ble_eq_true rfl)⟩ ⟨rfl, rfl⟩ dX8_read_31 ⟨Nat.zero_le _, Nat.zero_le _⟩ rfl rfl rfl [0] [1, 2, 3] rfl rfl rfl rfl (by decide) (Nat.le_of_ble_eq_true rfl) rfl (fun r W1 hp => ?_)
      obtain ⟨rfl, rfl⟩ := hp
      refine g_fix [.int (nI 0)] [(x0, .inr (6, [.int (nI 2), .ref i1, .ref i2, .int (nI sd), .ref i3, .int (nI ln), .ref j1, .ref j2, .ref j3, .ref j4, .ref j5, .ref j6, .int (nI fm), .int (nI rd), .int (nI mt), .int (nI dr), .ref j7, .ref j8, .int (nI u5), .int (bI (w5)), .ref j9, .int (nI n5), .long (hs)])), (i1, .inl (ty 0, 275, .inl (eR (sM T q nr)))), (i3, .inl (ty 0, 60, .inl (tI b))), (j9, .inl (ty 0, 96, .inl (eR M5)))] [3, 0, 1, 2] rfl rfl rfl ?_
      exact g_iret E dX8_read_34 (by decide) (by decide) ⟨w5, u5, n5, M5, rfl, rfl⟩
  · skip
    exact absurd (hw.symm.trans c13) (by decide)
def r_X8_read_ok : Room := { frames := 5, cells := 0, slots := 0, locals := 110 }
set_option maxRecDepth 100000 in
set_option maxHeartbeats 4000000 in
theorem k_X8_read_ok (l : Launch) (D : va_G) (ty : Nat → ClassId) (x0 : Nat) (th : Nat) (i1 : Nat) (i2 : Nat) (sd : Nat) (i3 : Nat) (ln : Nat) (j1 : Nat) (j2 : Nat) (j3 : Nat) (j4 : Nat) (j5 : Nat) (j6 : Nat) (fm : Nat) (rd : Nat) (mt : Nat) (dr : Nat) (j7 : Nat) (j8 : Nat) (tt : Nat) (wl : Bool) (j9 : Nat) (lm : Nat) (hs : Int64) (T : Nat → Bool) (q : Nat → Nat) (nr : Nat) (R : Nat → Int32) (V : Nat → LT) (b : Nat → Nat) (Lw : Nat → Nat) (as1 : Nat → Nat) (a2 : Nat → Nat) (P2 : PT) (hl : ln ≤ 60) (hb : ∀ j, j < ln → b j < 128) (hfe : fe b as1 ln = none) (hst : stb (ry b as1 ln) = true) (h6 : nr ≤ 6) (hsd : sd ≤ 6) (hR : okR V sd R) (hp : pst b a2 ln (0, T, q, nr) (ln + 1) = some P2) (h12 : zcnt P2.2.1 256 ≤ 12) : gM l D ty yX8_read cX8_read 2 (some (FieldType.int : FieldType)) r_X8_read_ok 0 0 [.ref x0] [(x0, .inr (6, [.int (nI th), .ref i1, .ref i2, .int (nI sd), .ref i3, .int (nI ln), .ref j1, .ref j2, .ref j3, .ref j4, .ref j5, .ref j6, .int (nI fm), .int (nI rd), .int (nI mt), .int (nI dr), .ref j7, .ref j8, .int (nI tt), .int (bI (wl)), .ref j9, .int (nI lm), .long (hs)])), (i1, .inl (ty 0, 275, .inl (eR (sM T q nr)))), (i2, .inl (ty 0, 1650, .inl (R))), (i3, .inl (ty 0, 60, .inl (tI b))), (j9, .inl (ty 0, 96, .inl (eR Lw)))] (fun (zr : Option Value) (zW : va_W) => ∃ (w9 : Bool) (u9 : Nat) (n9 : Nat) (M9 : Nat → Nat) (R9 : Nat → Int32), okR (svV V sd (T, q, nr)) (svC sd) R9 ∧ zr = some (.int (nI (P2.1))) ∧ zW = [(x0, .inr (6, [.int (nI 0), .ref i1, .ref i2, .int (nI (svC sd)), .ref i3, .int (nI 0), .ref j1, .ref j2, .ref j3, .ref j4, .ref j5, .ref j6, .int (nI fm), .int (nI rd), .int (nI mt), .int (nI dr), .ref j7, .ref j8, .int (nI u9), .int (bI (w9)), .ref j9, .int (nI n9), .long (hs)])), (i1, .inl (ty 0, 275, .inl (eR (sM P2.2.1 P2.2.2.1 P2.2.2.2)))), (i2, .inl (ty 0, 1650, .inl (R9))), (i3, .inl (ty 0, 60, .inl (tI b))), (j9, .inl (ty 0, 96, .inl (eR M9)))]) := by
  refine gM_of RX8 rfl (by decide +kernel) (Nat.le_of_ble_eq_true rfl) ?_
  intro pg en s0 mi ag bl mth cd AA HH QQ C E hnm
  show gW pg l en r_X8_read_ok s0 mi ag bl mth cd 2 D AA HH QQ 0 [(0, .ref x0)] [] [(x0, .inr (6, [.int (nI th), .ref i1, .ref i2, .int (nI sd), .ref i3, .int (nI ln), .ref j1, .ref j2, .ref j3, .ref j4, .ref j5, .ref j6, .int (nI fm), .int (nI rd), .int (nI mt), .int (nI dr), .ref j7, .ref j8, .int (nI tt), .int (bI (wl)), .ref j9, .int (nI lm), .long (hs)])), (i1, .inl (ty 0, 275, .inl (eR (sM T q nr)))), (i2, .inl (ty 0, 1650, .inl (R))), (i3, .inl (ty 0, 60, .inl (tI b))), (j9, .inl (ty 0, 96, .inl (eR Lw)))] 0 0
  refine g_aload_n C 0 rfl dX8_read_0 ?_
  refine g_iconst C (nI 0) ic_0 dX8_read_1 ?_
  refine g_putf C wu_X8 tyX8 tyX8_ok nmX8 0 rfl rfl 0 (by decide) wf_X8_47 rfl rfl rfl rfl (Nat.le_of_ble_eq_true rfl) dX8_read_2 [(x0, .inr (6, [.int (nI 0), .ref i1, .ref i2, .int (nI sd), .ref i3, .int (nI ln), .ref j1, .ref j2, .ref j3, .ref j4, .ref j5, .ref j6, .int (nI fm), .int (nI rd), .int (nI mt), .int (nI dr), .ref j7, .ref j8, .int (nI tt), .int (bI (wl)), .ref j9, .int (nI lm), .long (hs)])), (i1, .inl (ty 0, 275, .inl (eR (sM T q nr)))), (i2, .inl (ty 0, 1650, .inl (R))), (i3, .inl (ty 0, 60, .inl (tI b))), (j9, .inl (ty 0, 96, .inl (eR Lw)))] rfl ?_
  refine g_aload_n C 0 rfl dX8_read_5 ?_
  refine g_callV C (nA := 0) (ci := 6) (q0 := 0) (As := []) (wr := [(i1, .inl (ty 0, 275, .inl (eR (sM T q nr)))), (i2, .inl (ty 0, 1650, .inl (R)))]) (k_X8_readsAll l D ty x0 0 i1 i2 sd i3 ln j1 j2 j3 j4 j5 j6 fm rd mt dr j7 j8 tt wl j9 lm hs b Lw (by omega) hb) wm_X8_179 wn_X8_readsAll wv_X8_readsAll wi_X8 wc_X8_readsAll rfl (by decide +kernel) ⟨(Nat.le_of_ble_eq_true rfl), (Nat.le_of_ble_eq_true rfl)⟩ ⟨rfl, rfl⟩ dX8_read_6 ⟨Nat.zero_le _, Nat.zero_le _⟩ rfl rfl rfl [0, 3, 4] [1, 2] rfl rfl rfl rfl (by decide) (Nat.le_of_ble_eq_true rfl) rfl (fun r W1 hp => ?_)
  obtain ⟨w5, u5, n5, M5, hr1, rfl, rfl⟩ := hp
  refine g_fix [] [(x0, .inr (6, [.int (nI 0), .ref i1, .ref i2, .int (nI sd), .ref i3, .int (nI ln), .ref j1, .ref j2, .ref j3, .ref j4, .ref j5, .ref j6, .int (nI fm), .int (nI rd), .int (nI mt), .int (nI dr), .ref j7, .ref j8, .int (nI u5), .int (bI (w5)), .ref j9, .int (nI n5), .long (hs)])), (i1, .inl (ty 0, 275, .inl (eR (sM T q nr)))), (i2, .inl (ty 0, 1650, .inl (R))), (i3, .inl (ty 0, 60, .inl (tI b))), (j9, .inl (ty 0, 96, .inl (eR M5)))] [2, 0, 1, 3, 4] rfl rfl rfl ?_
  have hw : w5 = true := by
    cases h : w5 with
    | true => rfl
    | false => exact absurd ((bd_fe ((hr1 as1).2 h)).2) (by rw [hfe, hst]; simp)
  have hE2 := ((hr1 a2).1 hw).2
  have hap := (le_end hE2 (Nat.lt_irrefl _)).2.2.2 (0, T, q, nr)
  rw [apl_la _ _ _ _ _ h6] at hap
  have hlan := la_n M5 (T, q, nr) n5
  have hL5 := hE2.2.2.2.2.2.2.1
  have h4n := hE2.2.2.2.2.2.2.2
  rw [hp] at hap
  have hroom : nr + rcn M5 n5 ≤ 6 := by
    by_cases z : nr + rcn M5 n5 ≤ 6
    · exact z
    · rw [if_neg z] at hap; cases hap
  rw [if_pos hroom] at hap
  have hP2 : P2 = (n5, la M5 (T, q, nr) n5) := Option.some.inj hap
  have h12b : zcnt (Tf T M5 n5) 256 ≤ 12 := by
    have z := h12
    rw [hP2] at z
    have z2 : zcnt (la M5 (T, q, nr) n5).1 256 ≤ 12 := z
    rw [hlan.2] at z2
    exact z2
  refine g_aload_n C 0 rfl dX8_read_9 ?_
  refine g_getf C wu_X8 0 rfl rfl 19 (by decide) wf_X8_157 rfl rfl dX8_read_10 ?_
  refine g_if_neB C w5 22 rfl dX8_read_13 rfl (fun c13 => ?_) (fun c13 => ?_)
  · skip
    refine g_aload_n C 0 rfl dX8_read_22 ?_
    refine g_callV C (nA := 0) (ci := 6) (q0 := 0) (As := []) (wr := [(i2, .inl (ty 0, 1650, .inl (R))), (i3, .inl (ty 0, 60, .inl (tI b)))]) (k_X8_hasRoom l D ty x0 0 i1 i2 sd i3 ln j1 j2 j3 j4 j5 j6 fm rd mt dr j7 j8 u5 w5 j9 n5 hs T q nr M5 (by omega) hL5 (by omega)) wm_X8_182 wn_X8_hasRoom wv_X8_hasRoom wi_X8 wc_X8_hasRoom rfl (by decide +kernel) ⟨(Nat.le_of_ble_eq_true rfl), (Nat.le_of_ble_eq_true rfl)⟩ ⟨rfl, rfl⟩ dX8_read_23 ⟨Nat.zero_le _, Nat.zero_le _⟩ rfl rfl rfl [0, 1, 4] [2, 3] rfl rfl rfl rfl (by decide) (Nat.le_of_ble_eq_true rfl) rfl (fun r W1 hp => ?_)
    obtain ⟨rfl, rfl⟩ := hp
    refine g_fix [.int (bI (decide (nr + rcn M5 n5 ≤ 6) && decide (zcnt (Tf T M5 n5) 256 ≤ 12)))] [(x0, .inr (6, [.int (nI 0), .ref i1, .ref i2, .int (nI sd), .ref i3, .int (nI ln), .ref j1, .ref j2, .ref j3, .ref j4, .ref j5, .ref j6, .int (nI fm), .int (nI rd), .int (nI mt), .int (nI dr), .ref j7, .ref j8, .int (nI u5), .int (bI (w5)), .ref j9, .int (nI n5), .long (hs)])), (i1, .inl (ty 0, 275, .inl (eR (sM T q nr)))), (i2, .inl (ty 0, 1650, .inl (R))), (i3, .inl (ty 0, 60, .inl (tI b))), (j9, .inl (ty 0, 96, .inl (eR M5)))] [2, 3, 0, 1, 4] rfl rfl rfl ?_
    refine g_if_neB C (decide (nr + rcn M5 n5 ≤ 6) && decide (zcnt (Tf T M5 n5) 256 ≤ 12)) 35 rfl dX8_read_26 rfl (fun c26 => ?_) (fun c26 => ?_)
    · skip
      refine g_aload_n C 0 rfl dX8_read_35 ?_
      refine g_callV C (nA := 0) (ci := 6) (q0 := 0) (As := []) (wr := [(i3, .inl (ty 0, 60, .inl (tI b))), (j9, .inl (ty 0, 96, .inl (eR M5)))]) (k_X8_saves l D ty x0 0 i1 i2 sd i3 ln j1 j2 j3 j4 j5 j6 fm rd mt dr j7 j8 u5 w5 j9 n5 hs T q nr R V hsd hR) wm_X8_138 wn_X8_saves wv_X8_saves wi_X8 wc_X8_saves rfl (by decide +kernel) ⟨(Nat.le_of_ble_eq_true rfl), (Nat.le_of_ble_eq_true rfl)⟩ ⟨rfl, rfl⟩ dX8_read_36 ⟨Nat.zero_le _, Nat.zero_le _⟩ rfl rfl rfl [0, 1, 2] [3, 4] rfl rfl rfl rfl (by decide) (Nat.le_of_ble_eq_true rfl) rfl (fun r W1 hp => ?_)
      obtain ⟨R5, hR5, rfl, rfl⟩ := hp
      refine g_fix [] [(x0, .inr (6, [.int (nI 0), .ref i1, .ref i2, .int (nI (svC sd)), .ref i3, .int (nI ln), .ref j1, .ref j2, .ref j3, .ref j4, .ref j5, .ref j6, .int (nI fm), .int (nI rd), .int (nI mt), .int (nI dr), .ref j7, .ref j8, .int (nI u5), .int (bI (w5)), .ref j9, .int (nI n5), .long (hs)])), (i1, .inl (ty 0, 275, .inl (eR (sM T q nr)))), (i2, .inl (ty 0, 1650, .inl (R5))), (i3, .inl (ty 0, 60, .inl (tI b))), (j9, .inl (ty 0, 96, .inl (eR M5)))] [2, 3, 4, 0, 1] rfl rfl rfl ?_
      refine g_aload_n C 0 rfl dX8_read_39 ?_
      refine g_iconst C (nI 0) ic_0 dX8_read_40 ?_
      refine g_putf C wu_X8 tyX8 tyX8_ok nmX8 0 rfl rfl 5 (by decide) wf_X8_151 rfl rfl rfl rfl (Nat.le_of_ble_eq_true rfl) dX8_read_41 [(x0, .inr (6, [.int (nI 0), .ref i1, .ref i2, .int (nI (svC sd)), .ref i3, .int (nI 0), .ref j1, .ref j2, .ref j3, .ref j4, .ref j5, .ref j6, .int (nI fm), .int (nI rd), .int (nI mt), .int (nI dr), .ref j7, .ref j8, .int (nI u5), .int (bI (w5)), .ref j9, .int (nI n5), .long (hs)])), (i1, .inl (ty 0, 275, .inl (eR (sM T q nr)))), (i2, .inl (ty 0, 1650, .inl (R5))), (i3, .inl (ty 0, 60, .inl (tI b))), (j9, .inl (ty 0, 96, .inl (eR M5)))] rfl ?_
      refine g_iconst C (nI 0) ic_0 dX8_read_44 ?_
      refine g_istore_n C [(1, .int (nI 0)), (0, .ref x0)] dX8_read_45 rfl (by decide) rfl ?_
      refine g_lo [1, 0] [(0, .ref x0), (1, .int (nI 0))] rfl ?_
      refine g_ws [(x0, .inr (6, [.int (nI 0), .ref i1, .ref i2, .int (nI (svC sd)), .ref i3, .int (nI 0), .ref j1, .ref j2, .ref j3, .ref j4, .ref j5, .ref j6, .int (nI fm), .int (nI rd), .int (nI mt), .int (nI dr), .ref j7, .ref j8, .int (nI u5), .int (bI (w5)), .ref j9, .int (nI n5), .long (hs)])), (i1, .inl (ty 0, 275, .inl (eR (sM (la M5 (T, q, nr) 0).1 (la M5 (T, q, nr) 0).2.1 (la M5 (T, q, nr) 0).2.2)))), (i2, .inl (ty 0, 1650, .inl (R5))), (i3, .inl (ty 0, 60, .inl (tI b))), (j9, .inl (ty 0, 96, .inl (eR M5)))] rfl ?_
      have L46 : ∀ (fu46 : Nat) (k : Nat) (hk : k ≤ n5), (n5 - k) < fu46 → gW pg l en r_X8_read_ok s0 mi ag bl mth cd 2 D AA HH QQ 46 [(0, .ref x0), (1, .int (nI k))] [] [(x0, .inr (6, [.int (nI 0), .ref i1, .ref i2, .int (nI (svC sd)), .ref i3, .int (nI 0), .ref j1, .ref j2, .ref j3, .ref j4, .ref j5, .ref j6, .int (nI fm), .int (nI rd), .int (nI mt), .int (nI dr), .ref j7, .ref j8, .int (nI u5), .int (bI (w5)), .ref j9, .int (nI n5), .long (hs)])), (i1, .inl (ty 0, 275, .inl (eR (sM ((la M5 (T, q, nr) k).1) ((la M5 (T, q, nr) k).2.1) ((la M5 (T, q, nr) k).2.2))))), (i2, .inl (ty 0, 1650, .inl (R5))), (i3, .inl (ty 0, 60, .inl (tI b))), (j9, .inl (ty 0, 96, .inl (eR M5)))] 0 0 := by
        intro fu46
        induction fu46 with
        | zero => intro k hk hfu; exact absurd hfu (Nat.not_lt_zero _)
        | succ fu46 ih46 =>
          intro k hk hfu46
          refine g_iload_n C 1 rfl dX8_read_46 ?_
          refine g_aload_n C 0 rfl dX8_read_47 ?_
          refine g_getf C wu_X8 0 rfl rfl 21 (by decide) wf_X8_173 rfl rfl dX8_read_48 ?_
          refine g_icmp_geN C k n5 123 rfl rfl (by omega) (by omega) dX8_read_51 rfl (fun c51 => ?_) (fun c51 => ?_)
          · skip
            refine g_ws [(x0, .inr (6, [.int (nI 0), .ref i1, .ref i2, .int (nI (svC sd)), .ref i3, .int (nI 0), .ref j1, .ref j2, .ref j3, .ref j4, .ref j5, .ref j6, .int (nI fm), .int (nI rd), .int (nI mt), .int (nI dr), .ref j7, .ref j8, .int (nI u5), .int (bI (w5)), .ref j9, .int (nI n5), .long (hs)])), (i1, .inl (ty 0, 275, .inl (eR (sM P2.2.1 P2.2.2.1 P2.2.2.2)))), (i2, .inl (ty 0, 1650, .inl (R5))), (i3, .inl (ty 0, 60, .inl (tI b))), (j9, .inl (ty 0, 96, .inl (eR M5)))] (by rw [show k = n5 by omega, hP2]) ?_
            refine g_aload_n C 0 rfl dX8_read_123 ?_
            refine g_getf C wu_X8 0 rfl rfl 21 (by decide) wf_X8_173 rfl rfl dX8_read_124 ?_
            exact g_iret E dX8_read_127 (by decide) (by decide) ⟨w5, u5, n5, M5, R5, hR5, (congrArg (fun z => some (Value.int (nI z))) (by rw [hP2])), rfl⟩
          · skip
            have hLk := hL5 k (by omega)
            refine g_aload_n C 0 rfl dX8_read_54 ?_
            refine g_getf C wu_X8 0 rfl rfl 20 (by decide) wf_X8_44 rfl rfl dX8_read_55 ?_
            refine g_iconst C (nI 3) ic_3 dX8_read_58 ?_
            refine g_iload_n C 1 rfl dX8_read_59 ?_
            refine g_imul C (nI (3 * k)) dX8_read_60 (pk_mul _ _) ?_
            refine g_iconst C (nI 1) ic_1 dX8_read_61 ?_
            refine g_iadd C (nI ((3 * k) + 1)) dX8_read_62 (nI_add _ _) ?_
            refine g_iald C 4 rfl ((3 * k) + 1) rfl (by omega) (by decide) (eA (M5 (3 * k + 1))) rfl dX8_read_63 ?_
            refine g_iconst C (-1) ic_m1 dX8_read_64 ?_
            refine g_icmp_ne C 85 dX8_read_65 rfl (fun c65 => ?_) (fun c65 => ?_)
            · skip
              have hc3 : M5 (3 * k + 1) ≠ 256 := fun z => c65 ((eA_m1 hLk.2.1).mpr z)
              refine g_aload_n C 0 rfl dX8_read_85 ?_
              refine g_aload_n C 0 rfl dX8_read_86 ?_
              refine g_getf C wu_X8 0 rfl rfl 20 (by decide) wf_X8_44 rfl rfl dX8_read_87 ?_
              refine g_iconst C (nI 3) ic_3 dX8_read_90 ?_
              refine g_iload_n C 1 rfl dX8_read_91 ?_
              refine g_imul C (nI (3 * k)) dX8_read_92 (pk_mul _ _) ?_
              refine g_iald C 4 rfl (3 * k) rfl (by omega) (by decide) (nI (M5 (3 * k))) (eA_n (by have := hLk.1; omega)) dX8_read_93 ?_
              refine g_aload_n C 0 rfl dX8_read_94 ?_
              refine g_getf C wu_X8 0 rfl rfl 20 (by decide) wf_X8_44 rfl rfl dX8_read_95 ?_
              refine g_iconst C (nI 3) ic_3 dX8_read_98 ?_
              refine g_iload_n C 1 rfl dX8_read_99 ?_
              refine g_imul C (nI (3 * k)) dX8_read_100 (pk_mul _ _) ?_
              refine g_iconst C (nI 1) ic_1 dX8_read_101 ?_
              refine g_iadd C (nI ((3 * k) + 1)) dX8_read_102 (nI_add _ _) ?_
              refine g_iald C 4 rfl ((3 * k) + 1) rfl (by omega) (by decide) (nI (M5 (3 * k + 1))) (eA_n hc3) dX8_read_103 ?_
              refine g_aload_n C 0 rfl dX8_read_104 ?_
              refine g_getf C wu_X8 0 rfl rfl 20 (by decide) wf_X8_44 rfl rfl dX8_read_105 ?_
              refine g_iconst C (nI 3) ic_3 dX8_read_108 ?_
              refine g_iload_n C 1 rfl dX8_read_109 ?_
              refine g_imul C (nI (3 * k)) dX8_read_110 (pk_mul _ _) ?_
              refine g_iconst C (nI 2) ic_2 dX8_read_111 ?_
              refine g_iadd C (nI ((3 * k) + 2)) dX8_read_112 (nI_add _ _) ?_
              refine g_iald C 4 rfl ((3 * k) + 2) rfl (by omega) (by decide) (eA (M5 (3 * k + 2))) rfl dX8_read_113 ?_
              refine g_callV C (nA := 3) (ci := 6) (q0 := 0) (As := [.int (nI (M5 (3 * k))), .int (nI (M5 (3 * k + 1))), .int (eA (M5 (3 * k + 2)))]) (wr := [(i2, .inl (ty 0, 1650, .inl (R5))), (i3, .inl (ty 0, 60, .inl (tI b))), (j9, .inl (ty 0, 96, .inl (eR M5)))]) (k_X8_comesRule l D ty x0 0 i1 i2 (svC sd) i3 0 j1 j2 j3 j4 j5 j6 fm rd mt dr j7 j8 u5 w5 j9 n5 hs ((la M5 (T, q, nr) k).1) ((la M5 (T, q, nr) k).2.1) ((la M5 (T, q, nr) k).2.2) (M5 (3 * k)) (M5 (3 * k + 1)) (M5 (3 * k + 2)) (by have := (la_n M5 (T, q, nr) k).1; have h2 := rcn_mono M5 (show k + 1 ≤ n5 by omega); rw [rcn_r hc3] at h2; rw [this]; show nr + rcn M5 k < 6; omega) hLk.1 (by omega)) wm_X8_141 wn_X8_comesRule wv_X8_comesRule wi_X8 wc_X8_comesRule rfl (by decide +kernel) ⟨(Nat.le_of_ble_eq_true rfl), (Nat.le_of_ble_eq_true rfl)⟩ ⟨rfl, rfl⟩ dX8_read_114 ⟨Nat.zero_le _, Nat.zero_le _⟩ rfl rfl rfl [0, 1] [2, 3, 4] rfl rfl rfl rfl (by decide) (Nat.le_of_ble_eq_true rfl) rfl (fun r W1 hp => ?_)
              obtain ⟨rfl, rfl⟩ := hp
              refine g_fix [] [(x0, .inr (6, [.int (nI 0), .ref i1, .ref i2, .int (nI ((svC sd))), .ref i3, .int (nI 0), .ref j1, .ref j2, .ref j3, .ref j4, .ref j5, .ref j6, .int (nI fm), .int (nI rd), .int (nI mt), .int (nI dr), .ref j7, .ref j8, .int (nI u5), .int (bI (w5)), .ref j9, .int (nI n5), .long (hs)])), (i1, .inl (ty 0, 275, .inl (eR (sM ((la M5 (T, q, nr) k).1) (aR ((la M5 (T, q, nr) k).2.1) ((la M5 (T, q, nr) k).2.2) (M5 (3 * k)) (M5 (3 * k + 1)) (M5 (3 * k + 2))) (((la M5 (T, q, nr) k).2.2) + 1))))), (i2, .inl (ty 0, 1650, .inl (R5))), (i3, .inl (ty 0, 60, .inl (tI b))), (j9, .inl (ty 0, 96, .inl (eR M5)))] [3, 4, 0, 1, 2] rfl rfl rfl ?_
              refine g_ws [(x0, .inr (6, [.int (nI 0), .ref i1, .ref i2, .int (nI ((svC sd))), .ref i3, .int (nI 0), .ref j1, .ref j2, .ref j3, .ref j4, .ref j5, .ref j6, .int (nI fm), .int (nI rd), .int (nI mt), .int (nI dr), .ref j7, .ref j8, .int (nI u5), .int (bI (w5)), .ref j9, .int (nI n5), .long (hs)])), (i1, .inl (ty 0, 275, .inl (eR (sM (la M5 (T, q, nr) (k + 1)).1 (la M5 (T, q, nr) (k + 1)).2.1 (la M5 (T, q, nr) (k + 1)).2.2)))), (i2, .inl (ty 0, 1650, .inl (R5))), (i3, .inl (ty 0, 60, .inl (tI b))), (j9, .inl (ty 0, 96, .inl (eR M5)))] (by first | rw [la_f hc3] | rw [la_r hc3]) ?_
              refine g_iinc C (nI (k + 1)) [(1, .int (nI (k + 1))), (0, .ref x0)] 1 dX8_read_117 rfl (ii_1 _) (by decide) rfl ?_
              refine g_goto C 46 dX8_read_120 rfl ?_
              refine g_lo [1, 0] [(0, .ref x0), (1, .int (nI (k + 1)))] rfl ?_
              exact ih46 (k + 1) (by omega) (by omega)
            · skip
              have hc3 := (eA_m1 hLk.2.1).mp c65
              refine g_aload_n C 0 rfl dX8_read_68 ?_
              refine g_getf C wu_X8 0 rfl rfl 1 (by decide) wf_X8_7 rfl rfl dX8_read_69 ?_
              refine g_aload_n C 0 rfl dX8_read_72 ?_
              refine g_getf C wu_X8 0 rfl rfl 20 (by decide) wf_X8_44 rfl rfl dX8_read_73 ?_
              refine g_iconst C (nI 3) ic_3 dX8_read_76 ?_
              refine g_iload_n C 1 rfl dX8_read_77 ?_
              refine g_imul C (nI (3 * k)) dX8_read_78 (pk_mul _ _) ?_
              refine g_iald C 4 rfl (3 * k) rfl (by omega) (by decide) (nI (M5 (3 * k))) (eA_n (by have := hLk.1; omega)) dX8_read_79 ?_
              refine g_iconst C (nI 1) ic_1 dX8_read_80 ?_
              refine g_iast C 1 rfl (M5 (3 * k)) rfl (by have := hLk.1; omega) (by decide) dX8_read_81 (eR (sM (zPut (la M5 (T, q, nr) k).1 (M5 (3 * k))) (la M5 (T, q, nr) k).2.1 (la M5 (T, q, nr) k).2.2)) (sM_put _ _ _ hLk.1) [(x0, .inr (6, [.int (nI 0), .ref i1, .ref i2, .int (nI (svC sd)), .ref i3, .int (nI 0), .ref j1, .ref j2, .ref j3, .ref j4, .ref j5, .ref j6, .int (nI fm), .int (nI rd), .int (nI mt), .int (nI dr), .ref j7, .ref j8, .int (nI u5), .int (bI (w5)), .ref j9, .int (nI n5), .long (hs)])), (i1, .inl (ty 0, 275, .inl (eR (sM (zPut (la M5 (T, q, nr) k).1 (M5 (3 * k))) (la M5 (T, q, nr) k).2.1 (la M5 (T, q, nr) k).2.2)))), (i2, .inl (ty 0, 1650, .inl (R5))), (i3, .inl (ty 0, 60, .inl (tI b))), (j9, .inl (ty 0, 96, .inl (eR M5)))] rfl ?_
              refine g_goto C 117 dX8_read_82 rfl ?_
              refine g_ws [(x0, .inr (6, [.int (nI 0), .ref i1, .ref i2, .int (nI (svC sd)), .ref i3, .int (nI 0), .ref j1, .ref j2, .ref j3, .ref j4, .ref j5, .ref j6, .int (nI fm), .int (nI rd), .int (nI mt), .int (nI dr), .ref j7, .ref j8, .int (nI u5), .int (bI (w5)), .ref j9, .int (nI n5), .long (hs)])), (i1, .inl (ty 0, 275, .inl (eR (sM (la M5 (T, q, nr) (k + 1)).1 (la M5 (T, q, nr) (k + 1)).2.1 (la M5 (T, q, nr) (k + 1)).2.2)))), (i2, .inl (ty 0, 1650, .inl (R5))), (i3, .inl (ty 0, 60, .inl (tI b))), (j9, .inl (ty 0, 96, .inl (eR M5)))] (by first | rw [la_f hc3] | rw [la_r hc3]) ?_
              refine g_iinc C (nI (k + 1)) [(1, .int (nI (k + 1))), (0, .ref x0)] 1 dX8_read_117 rfl (ii_1 _) (by decide) rfl ?_
              refine g_goto C 46 dX8_read_120 rfl ?_
              refine g_lo [1, 0] [(0, .ref x0), (1, .int (nI (k + 1)))] rfl ?_
              exact ih46 (k + 1) (by omega) (by omega)
      exact L46 (n5 - 0 + 1) 0 (by omega) (Nat.lt_succ_self _)
    · skip
      exact absurd c26 (by rw [decide_eq_true hroom, decide_eq_true h12b]; decide)
  · skip
    exact absurd (hw.symm.trans c13) (by decide)
