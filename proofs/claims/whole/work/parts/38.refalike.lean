/-! terms made alike, as the reference keeps them: g the links, c the constants (256: none); rt the roots, d falls along the links -/
def okG (g rt d : Nat → Nat) : Prop := ∀ u, u < 8 → rt u < 8 ∧ (g u = u → rt u = u) ∧ (g u ≠ u → g u < 8 ∧ d (g u) < d u ∧ rt (g u) = rt u)
def okC (c : Nat → Nat) : Prop := ∀ u, u < 8 → c u < 4 ∨ c u = 256
def rsv (rt c : Nat → Nat) (t : Nat) : Nat := if t < 8 then t else if c (rt (t - 8)) = 256 then 8 + rt (t - 8) else c (rt (t - 8))
theorem okC_le {c : Nat → Nat} (h : okC c) {u : Nat} (hu : u < 8) : c u ≤ 256 := by
  have := h u hu
  omega
theorem rsv_1 {rt c : Nat → Nat} {t : Nat} (h : t < 8) : rsv rt c t = t := if_pos h
theorem rsv_2 {rt c : Nat → Nat} {t : Nat} (h : ¬ t < 8) (h2 : c (rt (t - 8)) = 256) : rsv rt c t = 8 + rt (t - 8) := by unfold rsv; rw [if_neg h, if_pos h2]
theorem rsv_3 {rt c : Nat → Nat} {t : Nat} (h : ¬ t < 8) (h2 : c (rt (t - 8)) ≠ 256) : rsv rt c t = c (rt (t - 8)) := by unfold rsv; rw [if_neg h, if_neg h2]

def r_X8_find : Room := { frames := 0, cells := 0, slots := 0, locals := 0 }
set_option maxRecDepth 100000 in
set_option maxHeartbeats 4000000 in
theorem k_X8_find (l : Launch) (D : va_G) (ty : Nat → ClassId) (x0 : Nat) (th : Nat) (i1 : Nat) (i2 : Nat) (sd : Nat) (i3 : Nat) (ln : Nat) (j1 : Nat) (j2 : Nat) (j3 : Nat) (j4 : Nat) (j5 : Nat) (j6 : Nat) (fm : Nat) (rd : Nat) (mt : Nat) (dr : Nat) (j7 : Nat) (j8 : Nat) (tt : Nat) (wl : Bool) (j9 : Nat) (lm : Nat) (hs : Int64) (g : Nat → Nat) (rt : Nat → Nat) (d : Nat → Nat) (a : Nat) (hg : okG g rt d) (ha : a < 8) : gM l D ty yX8_find cX8_find 3 (some (FieldType.int : FieldType)) r_X8_find 0 0 [.ref x0, .int (nI a)] [(x0, .inr (6, [.int (nI th), .ref i1, .ref i2, .int (nI sd), .ref i3, .int (nI ln), .ref j1, .ref j2, .ref j3, .ref j4, .ref j5, .ref j6, .int (nI fm), .int (nI rd), .int (nI mt), .int (nI dr), .ref j7, .ref j8, .int (nI tt), .int (bI (wl)), .ref j9, .int (nI lm), .long (hs)])), (j7, .inl (ty 0, 8, .inl (tI g)))] (fun (zr : Option Value) (zW : va_W) => zr = some (.int (nI (rt a))) ∧ zW = [(x0, .inr (6, [.int (nI th), .ref i1, .ref i2, .int (nI sd), .ref i3, .int (nI ln), .ref j1, .ref j2, .ref j3, .ref j4, .ref j5, .ref j6, .int (nI fm), .int (nI rd), .int (nI mt), .int (nI dr), .ref j7, .ref j8, .int (nI tt), .int (bI (wl)), .ref j9, .int (nI lm), .long (hs)])), (j7, .inl (ty 0, 8, .inl (tI g)))]) := by
  refine gM_of RX8 rfl (by decide +kernel) (Nat.le_of_ble_eq_true rfl) ?_
  intro pg en s0 mi ag bl mth cd AA HH QQ C E hnm
  show gW pg l en r_X8_find s0 mi ag bl mth cd 3 D AA HH QQ 0 [(0, .ref x0), (1, .int (nI a))] [] [(x0, .inr (6, [.int (nI th), .ref i1, .ref i2, .int (nI sd), .ref i3, .int (nI ln), .ref j1, .ref j2, .ref j3, .ref j4, .ref j5, .ref j6, .int (nI fm), .int (nI rd), .int (nI mt), .int (nI dr), .ref j7, .ref j8, .int (nI tt), .int (bI (wl)), .ref j9, .int (nI lm), .long (hs)])), (j7, .inl (ty 0, 8, .inl (tI g)))] 0 0
  refine g_iload_n C 1 rfl dX8_find_0 ?_
  refine g_istore_n C [(2, .int (nI a)), (0, .ref x0), (1, .int (nI a))] dX8_find_1 rfl (by decide) rfl ?_
  refine g_lo [1, 2, 0] [(0, .ref x0), (1, .int (nI a)), (2, .int (nI a))] rfl ?_
  have L2 : ∀ (fu2 : Nat) (u : Nat) (hu : u < 8) (hr : rt u = rt a), (d u) < fu2 → gW pg l en r_X8_find s0 mi ag bl mth cd 3 D AA HH QQ 2 [(0, .ref x0), (1, .int (nI a)), (2, .int (nI u))] [] [(x0, .inr (6, [.int (nI th), .ref i1, .ref i2, .int (nI sd), .ref i3, .int (nI ln), .ref j1, .ref j2, .ref j3, .ref j4, .ref j5, .ref j6, .int (nI fm), .int (nI rd), .int (nI mt), .int (nI dr), .ref j7, .ref j8, .int (nI tt), .int (bI (wl)), .ref j9, .int (nI lm), .long (hs)])), (j7, .inl (ty 0, 8, .inl (tI g)))] 0 0 := by
    intro fu2
    induction fu2 with
    | zero => intro u hu hr hfu; exact absurd hfu (Nat.not_lt_zero _)
    | succ fu2 ih2 =>
      intro u hu hr hfu2
      refine g_aload_n C 0 rfl dX8_find_2 ?_
      refine g_getf C wu_X8 0 rfl rfl 16 (by decide) wf_X8_38 rfl rfl dX8_find_3 ?_
      refine g_iload_n C 2 rfl dX8_find_6 ?_
      refine g_iald C 1 rfl u rfl (by omega) (by decide) (nI (g u)) rfl dX8_find_7 ?_
      refine g_iload_n C 2 rfl dX8_find_8 ?_
      refine g_icmp_eqN C (g u) u 22 rfl rfl (by by_cases z : g u = u; exact (by omega); exact (by have := ((hg u hu).2.2 z).1; omega)) (by omega) dX8_find_9 rfl (fun c9 => ?_) (fun c9 => ?_)
      · skip
        refine g_iload_n C 2 rfl dX8_find_22 ?_
        exact g_iret E dX8_find_23 (by decide) (by decide) ⟨(congrArg (fun z => some (Value.int (nI z))) (by rw [← hr]; exact ((hg u hu).2.1 c9).symm)), rfl⟩
      · skip
        refine g_aload_n C 0 rfl dX8_find_12 ?_
        refine g_getf C wu_X8 0 rfl rfl 16 (by decide) wf_X8_38 rfl rfl dX8_find_13 ?_
        refine g_iload_n C 2 rfl dX8_find_16 ?_
        refine g_iald C 1 rfl u rfl (by omega) (by decide) (nI (g u)) rfl dX8_find_17 ?_
        refine g_istore_n C [(2, .int (nI (g u))), (0, .ref x0), (1, .int (nI a))] dX8_find_18 rfl (by decide) rfl ?_
        refine g_goto C 2 dX8_find_19 rfl ?_
        refine g_lo [1, 2, 0] [(0, .ref x0), (1, .int (nI a)), (2, .int (nI (g u)))] rfl ?_
        exact ih2 (g u) ((hg u hu).2.2 c9).1 (((hg u hu).2.2 c9).2.2.trans hr) (by have := ((hg u hu).2.2 c9).2.1; omega)
  exact L2 (d a + 1) a ha rfl (Nat.lt_succ_self _)
def r_X8_resolved : Room := { frames := 1, cells := 0, slots := 0, locals := 22 }
set_option maxRecDepth 100000 in
set_option maxHeartbeats 4000000 in
theorem k_X8_resolved (l : Launch) (D : va_G) (ty : Nat → ClassId) (x0 : Nat) (th : Nat) (i1 : Nat) (i2 : Nat) (sd : Nat) (i3 : Nat) (ln : Nat) (j1 : Nat) (j2 : Nat) (j3 : Nat) (j4 : Nat) (j5 : Nat) (j6 : Nat) (fm : Nat) (rd : Nat) (mt : Nat) (dr : Nat) (j7 : Nat) (j8 : Nat) (tt : Nat) (wl : Bool) (j9 : Nat) (lm : Nat) (hs : Int64) (g : Nat → Nat) (rt : Nat → Nat) (d : Nat → Nat) (c : Nat → Nat) (t : Nat) (hg : okG g rt d) (hc : okC c) (ht : t < 16) : gM l D ty yX8_resolved cX8_resolved 3 (some (FieldType.int : FieldType)) r_X8_resolved 0 0 [.ref x0, .int (nI t)] [(x0, .inr (6, [.int (nI th), .ref i1, .ref i2, .int (nI sd), .ref i3, .int (nI ln), .ref j1, .ref j2, .ref j3, .ref j4, .ref j5, .ref j6, .int (nI fm), .int (nI rd), .int (nI mt), .int (nI dr), .ref j7, .ref j8, .int (nI tt), .int (bI (wl)), .ref j9, .int (nI lm), .long (hs)])), (j7, .inl (ty 0, 8, .inl (tI g))), (j8, .inl (ty 0, 8, .inl (eR c)))] (fun (zr : Option Value) (zW : va_W) => zr = some (.int (nI (rsv rt c t))) ∧ zW = [(x0, .inr (6, [.int (nI th), .ref i1, .ref i2, .int (nI sd), .ref i3, .int (nI ln), .ref j1, .ref j2, .ref j3, .ref j4, .ref j5, .ref j6, .int (nI fm), .int (nI rd), .int (nI mt), .int (nI dr), .ref j7, .ref j8, .int (nI tt), .int (bI (wl)), .ref j9, .int (nI lm), .long (hs)])), (j7, .inl (ty 0, 8, .inl (tI g))), (j8, .inl (ty 0, 8, .inl (eR c)))]) := by
  refine gM_of RX8 rfl (by decide +kernel) (Nat.le_of_ble_eq_true rfl) ?_
  intro pg en s0 mi ag bl mth cd AA HH QQ C E hnm
  show gW pg l en r_X8_resolved s0 mi ag bl mth cd 3 D AA HH QQ 0 [(0, .ref x0), (1, .int (nI t))] [] [(x0, .inr (6, [.int (nI th), .ref i1, .ref i2, .int (nI sd), .ref i3, .int (nI ln), .ref j1, .ref j2, .ref j3, .ref j4, .ref j5, .ref j6, .int (nI fm), .int (nI rd), .int (nI mt), .int (nI dr), .ref j7, .ref j8, .int (nI tt), .int (bI (wl)), .ref j9, .int (nI lm), .long (hs)])), (j7, .inl (ty 0, 8, .inl (tI g))), (j8, .inl (ty 0, 8, .inl (eR c)))] 0 0
  refine g_iload_n C 1 rfl dX8_resolved_0 ?_
  refine g_bipush C (nI 8) bp_8 dX8_resolved_1 ?_
  refine g_icmp_geN C t 8 8 rfl rfl (by omega) (by omega) dX8_resolved_3 rfl (fun c3 => ?_) (fun c3 => ?_)
  · skip
    have hrt := (hg (t - 8) (by omega)).1
    have hcr := okC_le hc hrt
    refine g_aload_n C 0 rfl dX8_resolved_8 ?_
    refine g_iload_n C 1 rfl dX8_resolved_9 ?_
    refine g_bipush C (nI 8) bp_8 dX8_resolved_10 ?_
    refine g_isub C (nI (t - 8)) dX8_resolved_12 (pk_sub (by omega)) ?_
    refine g_callV C (nA := 1) (ci := 6) (q0 := 0) (As := [.int (nI (t - 8))]) (wr := [(j8, .inl (ty 0, 8, .inl (eR c)))]) (k_X8_find l D ty x0 th i1 i2 sd i3 ln j1 j2 j3 j4 j5 j6 fm rd mt dr j7 j8 tt wl j9 lm hs g rt d (t - 8) hg (by omega)) wm_X8_62 wn_X8_find wv_X8_find wi_X8 wc_X8_find rfl (by decide +kernel) ⟨(Nat.le_of_ble_eq_true rfl), (Nat.le_of_ble_eq_true rfl)⟩ ⟨rfl, rfl⟩ dX8_resolved_13 ⟨Nat.zero_le _, Nat.zero_le _⟩ rfl rfl rfl [0, 1] [2] rfl rfl rfl rfl (by decide) (Nat.le_of_ble_eq_true rfl) rfl (fun r W1 hp => ?_)
    obtain ⟨rfl, rfl⟩ := hp
    refine g_fix [.int (nI (rt (t - 8)))] [(x0, .inr (6, [.int (nI th), .ref i1, .ref i2, .int (nI sd), .ref i3, .int (nI ln), .ref j1, .ref j2, .ref j3, .ref j4, .ref j5, .ref j6, .int (nI fm), .int (nI rd), .int (nI mt), .int (nI dr), .ref j7, .ref j8, .int (nI tt), .int (bI (wl)), .ref j9, .int (nI lm), .long (hs)])), (j7, .inl (ty 0, 8, .inl (tI g))), (j8, .inl (ty 0, 8, .inl (eR c)))] [1, 2, 0] rfl rfl rfl ?_
    refine g_istore_n C [(2, .int (nI (rt (t - 8)))), (0, .ref x0), (1, .int (nI t))] dX8_resolved_16 rfl (by decide) rfl ?_
    refine g_aload_n C 1 rfl dX8_resolved_17 ?_
    refine g_getf C wu_X8 0 rfl rfl 17 (by decide) wf_X8_41 rfl rfl dX8_resolved_18 ?_
    refine g_iload_n C 0 rfl dX8_resolved_21 ?_
    refine g_iald C 2 rfl (rt (t - 8)) rfl (by omega) (by decide) (eA (c (rt (t - 8)))) rfl dX8_resolved_22 ?_
    refine g_iconst C (-1) ic_m1 dX8_resolved_23 ?_
    refine g_icmp_ne C 34 dX8_resolved_24 rfl (fun c24 => ?_) (fun c24 => ?_)
    · skip
      refine g_aload_n C 1 rfl dX8_resolved_34 ?_
      refine g_getf C wu_X8 0 rfl rfl 17 (by decide) wf_X8_41 rfl rfl dX8_resolved_35 ?_
      refine g_iload_n C 0 rfl dX8_resolved_38 ?_
      refine g_iald C 2 rfl (rt (t - 8)) rfl (by omega) (by decide) (eA (c (rt (t - 8)))) rfl dX8_resolved_39 ?_
      exact g_iret E dX8_resolved_40 (by decide) (by decide) ⟨(congrArg (fun z => some (Value.int z)) (by rw [rsv_3 (by omega) (fun z => c24 ((eA_m1 hcr).mpr z)), eA_n (fun z => c24 ((eA_m1 hcr).mpr z))])), rfl⟩
    · skip
      refine g_bipush C (nI 8) bp_8 dX8_resolved_27 ?_
      refine g_iload_n C 0 rfl dX8_resolved_29 ?_
      refine g_iadd C (nI (8 + (rt (t - 8)))) dX8_resolved_30 (nI_add _ _) ?_
      refine g_goto C 40 dX8_resolved_31 rfl ?_
      exact g_iret E dX8_resolved_40 (by decide) (by decide) ⟨(congrArg (fun z => some (Value.int (nI z))) (rsv_2 (by omega) ((eA_m1 hcr).mp c24)).symm), rfl⟩
  · skip
    refine g_iload_n C 1 rfl dX8_resolved_6 ?_
    exact g_iret E dX8_resolved_7 (by decide) (by decide) ⟨(congrArg (fun z => some (Value.int (nI z))) (rsv_1 (by omega)).symm), rfl⟩
