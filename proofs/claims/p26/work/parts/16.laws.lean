/-! rules in rows of three numbers: 256 stands for NONE -/
def eA (v : Nat) : Int32 := if v = 256 then -1 else nI v
def eR (q : Nat → Nat) : Nat → Int32 := fun j => eA (q j)
theorem eA_n {v : Nat} (h : v ≠ 256) : eA v = nI v := if_neg h
theorem eA_256 : eA 256 = -1 := rfl
theorem eA_m1 {v : Nat} (h : v ≤ 256) : eA v = -1 ↔ v = 256 := by
  unfold eA
  by_cases q : v = 256
  · simp [q]
  · simp only [q, if_false, iff_false]
    intro e
    have := congrArg Int32.toInt e
    rw [nI_toInt (by omega)] at this
    have e2 : (-1 : Int32).toInt = -1 := by decide +kernel
    omega
def hR (r : Int32) (nr : Nat) : Bool := if r < 0 then false else if nI nr ≤ r then false else true
theorem hR_N {r nr : Nat} (h1 : r < 2 ^ 31) (h2 : nr < 2 ^ 31) : hR (nI r) nr = decide (r < nr) := by
  unfold hR
  rw [if_neg (nI_pos h1)]
  by_cases h : r < nr
  · rw [if_neg (nI_ge h h2)]; simp [h]
  · rw [if_pos ((nI_leI h2 h1).mpr (by omega))]; simp [h]
theorem hR_of {r : Int32} {nr : Nat} (h2 : nr < 2 ^ 31) (h : hR r nr = true) : ∃ k, k < nr ∧ r = nI k := by
  unfold hR at h
  split at h
  · cases h
  · split at h
    · cases h
    · rename_i h3 h4
      obtain ⟨k, hk, rfl⟩ := nI_of h3
      exact ⟨k, Nat.lt_of_not_le (fun q => h4 ((nI_leI h2 hk).mpr q)), rfl⟩
def aR (q : Nat → Nat) (nr h a b : Nat) : Nat → Nat := fun j => if j = 3 * nr then h else if j = 3 * nr + 1 then a else if j = 3 * nr + 2 then b else q j
def dRi (q : Nat → Nat) (r n : Nat) : Nat → Nat := fun j => if 3 * r ≤ j ∧ j < n then q (j + 3) else q j
theorem aR_eq (q : Nat → Nat) (nr : Nat) {h a : Nat} (b : Nat) (hh : h ≠ 256) (ha : a ≠ 256) : upd (upd (upd (eR q) (3 * nr) (nI h)) (3 * nr + 1) (nI a)) (3 * nr + 2) (eA b) = eR (aR q nr h a b) := by
  funext j
  unfold upd eR aR
  by_cases h1 : j = 3 * nr
  · subst h1; simp [eA_n hh]
  · by_cases h2 : j = 3 * nr + 1
    · subst h2; simp [eA_n ha]
    · by_cases h3 : j = 3 * nr + 2
      · subst h3; simp
      · simp [h1, h2, h3]
theorem dRi_s (q : Nat → Nat) {r i : Nat} (h : 3 * r ≤ i) : upd (eR (dRi q r i)) i (eA (q (i + 3))) = eR (dRi q r (i + 1)) := by
  funext j
  unfold upd eR dRi
  by_cases h1 : j = i
  · subst h1; simp [h]
  · by_cases h2 : 3 * r ≤ j ∧ j < i
    · simp [h1, h2, show j < i + 1 by omega]
    · simp only [h1, h2, if_false]
      rw [if_neg (by omega)]
theorem dRi_0 (q : Nat → Nat) (r : Nat) : dRi q r (3 * r) = q := by
  funext j
  unfold dRi
  rw [if_neg (by omega)]

def r_X4_ruleCount : Room := { frames := 0, cells := 0, slots := 0, locals := 0 }
set_option maxRecDepth 100000 in
set_option maxHeartbeats 4000000 in
theorem k_X4_ruleCount (l : Launch) (D : va_G) (ty : Nat → ClassId) (h0 : Nat) (h1 : Nat) (h2 : Nat) (nr : Nat)  : gM l D ty yX4_ruleCount cX4_ruleCount 1 (some (FieldType.int : FieldType)) r_X4_ruleCount 0 0 [.ref h0] [(h0, .inr (2, [.ref h1, .ref h2, .int (nI nr)]))] (fun (zr : Option Value) (zW : va_W) => zr = some (.int (nI nr)) ∧ zW = [(h0, .inr (2, [.ref h1, .ref h2, .int (nI nr)]))]) := by
  refine gM_of RX4 rfl (by decide +kernel) (Nat.le_of_ble_eq_true rfl) ?_
  intro pg en s0 mi ag bl mth cd AA HH QQ C E hnm
  show gW pg l en r_X4_ruleCount s0 mi ag bl mth cd 1 D AA HH QQ 0 [(0, .ref h0)] [] [(h0, .inr (2, [.ref h1, .ref h2, .int (nI nr)]))] 0 0
  refine g_aload_n C 0 rfl dX4_ruleCount_0 ?_
  refine g_getf C wu_X4 0 rfl rfl 2 (by decide) wf_X4_22 rfl rfl dX4_ruleCount_1 ?_
  exact g_iret E dX4_ruleCount_4 (by decide) (by decide) ⟨rfl, rfl⟩
def r_X4_hasRule : Room := { frames := 0, cells := 0, slots := 0, locals := 0 }
set_option maxRecDepth 100000 in
set_option maxHeartbeats 4000000 in
theorem k_X4_hasRule (l : Launch) (D : va_G) (ty : Nat → ClassId) (h0 : Nat) (h1 : Nat) (h2 : Nat) (nr : Nat) (r : Int32)  : gM l D ty yX4_hasRule cX4_hasRule 2 (some (FieldType.boolean : FieldType)) r_X4_hasRule 0 0 [.ref h0, .int (r)] [(h0, .inr (2, [.ref h1, .ref h2, .int (nI nr)]))] (fun (zr : Option Value) (zW : va_W) => zr = some (.int (bI (hR r nr))) ∧ zW = [(h0, .inr (2, [.ref h1, .ref h2, .int (nI nr)]))]) := by
  refine gM_of RX4 rfl (by decide +kernel) (Nat.le_of_ble_eq_true rfl) ?_
  intro pg en s0 mi ag bl mth cd AA HH QQ C E hnm
  show gW pg l en r_X4_hasRule s0 mi ag bl mth cd 2 D AA HH QQ 0 [(0, .ref h0), (1, .int (r))] [] [(h0, .inr (2, [.ref h1, .ref h2, .int (nI nr)]))] 0 0
  refine g_iload_n C 1 rfl dX4_hasRule_0 ?_
  refine g_if_lt C 16 dX4_hasRule_1 rfl (fun c1 => ?_) (fun c1 => ?_)
  · skip
    refine g_iconst C (nI 0) ic_0 dX4_hasRule_16 ?_
    exact g_zret E false rfl dX4_hasRule_17 (by decide) (by decide) ⟨(congrArg (fun z => some (Value.int (bI z))) (by simp only [hR, *, reduceIte])), rfl⟩
  · skip
    refine g_iload_n C 1 rfl dX4_hasRule_4 ?_
    refine g_aload_n C 0 rfl dX4_hasRule_5 ?_
    refine g_getf C wu_X4 0 rfl rfl 2 (by decide) wf_X4_22 rfl rfl dX4_hasRule_6 ?_
    refine g_icmp_ge C 16 dX4_hasRule_9 rfl (fun c9 => ?_) (fun c9 => ?_)
    · skip
      refine g_iconst C (nI 0) ic_0 dX4_hasRule_16 ?_
      exact g_zret E false rfl dX4_hasRule_17 (by decide) (by decide) ⟨(congrArg (fun z => some (Value.int (bI z))) (by simp only [hR, *, reduceIte])), rfl⟩
    · skip
      refine g_iconst C (nI 1) ic_1 dX4_hasRule_12 ?_
      refine g_goto C 17 dX4_hasRule_13 rfl ?_
      exact g_zret E true rfl dX4_hasRule_17 (by decide) (by decide) ⟨(congrArg (fun z => some (Value.int (bI z))) (by simp only [hR, *, reduceIte])), rfl⟩
def r_X4_atomAt : Room := { frames := 0, cells := 0, slots := 0, locals := 0 }
set_option maxRecDepth 100000 in
set_option maxHeartbeats 4000000 in
theorem k_X4_atomAt (l : Launch) (D : va_G) (ty : Nat → ClassId) (h0 : Nat) (h1 : Nat) (h2 : Nat) (q : Nat → Nat) (nr : Nat) (r : Nat) (j : Nat) (hr : r < 6) (hj : j < 3) : gM l D ty yX4_atomAt cX4_atomAt 4 (some (FieldType.int : FieldType)) r_X4_atomAt 0 0 [.ref h0, .int (nI r), .int (nI j)] [(h0, .inr (2, [.ref h1, .ref h2, .int (nI nr)])), (h2, .inl (ty 0, 18, .inl (eR q)))] (fun (zr : Option Value) (zW : va_W) => zr = some (.int (eA (q (3 * r + j)))) ∧ zW = [(h0, .inr (2, [.ref h1, .ref h2, .int (nI nr)])), (h2, .inl (ty 0, 18, .inl (eR q)))]) := by
  refine gM_of RX4 rfl (by decide +kernel) (Nat.le_of_ble_eq_true rfl) ?_
  intro pg en s0 mi ag bl mth cd AA HH QQ C E hnm
  show gW pg l en r_X4_atomAt s0 mi ag bl mth cd 4 D AA HH QQ 0 [(0, .ref h0), (1, .int (nI r)), (2, .int (nI j))] [] [(h0, .inr (2, [.ref h1, .ref h2, .int (nI nr)])), (h2, .inl (ty 0, 18, .inl (eR q)))] 0 0
  refine g_iconst C (nI 3) ic_3 dX4_atomAt_0 ?_
  refine g_iload_n C 1 rfl dX4_atomAt_1 ?_
  refine g_imul C (nI (3 * r)) dX4_atomAt_2 (pk_mul _ _) ?_
  refine g_iload_n C 2 rfl dX4_atomAt_3 ?_
  refine g_iadd C (nI ((3 * r) + j)) dX4_atomAt_4 (nI_add _ _) ?_
  refine g_istore_n C [(3, .int (nI ((3 * r) + j))), (0, .ref h0), (1, .int (nI r)), (2, .int (nI j))] dX4_atomAt_5 rfl (by decide) rfl ?_
  refine g_iload_n C 0 rfl dX4_atomAt_6 ?_
  refine g_if_lt C 28 dX4_atomAt_7 rfl (fun c7 => ?_) (fun c7 => ?_)
  · skip
    exact absurd c7 (nI_pos (by omega))
  · skip
    refine g_iload_n C 0 rfl dX4_atomAt_10 ?_
    refine g_aload_n C 1 rfl dX4_atomAt_11 ?_
    refine g_getf C wu_X4 0 rfl rfl 1 (by decide) wf_X4_18 rfl rfl dX4_atomAt_12 ?_
    refine g_alen C 1 0 rfl rfl (nI 18) rfl dX4_atomAt_15 ?_
    refine g_icmp_geN C ((3 * r) + j) 18 28 rfl rfl (by omega) (by omega) dX4_atomAt_16 rfl (fun c16 => ?_) (fun c16 => ?_)
    · skip
      exact absurd c16 (by omega)
    · skip
      refine g_aload_n C 1 rfl dX4_atomAt_19 ?_
      refine g_getf C wu_X4 0 rfl rfl 1 (by decide) wf_X4_18 rfl rfl dX4_atomAt_20 ?_
      refine g_iload_n C 0 rfl dX4_atomAt_23 ?_
      refine g_iald C 1 rfl ((3 * r) + j) rfl (by omega) (by decide) (eA (q ((3 * r) + j))) rfl dX4_atomAt_24 ?_
      refine g_goto C 29 dX4_atomAt_25 rfl ?_
      exact g_iret E dX4_atomAt_29 (by decide) (by decide) ⟨rfl, rfl⟩
def r_X4_addRule : Room := { frames := 0, cells := 0, slots := 0, locals := 0 }
set_option maxRecDepth 100000 in
set_option maxHeartbeats 4000000 in
theorem k_X4_addRule (l : Launch) (D : va_G) (ty : Nat → ClassId) (h0 : Nat) (h1 : Nat) (h2 : Nat) (q : Nat → Nat) (nr : Nat) (h : Nat) (a : Nat) (b : Nat) (hn : nr ≤ 6) (hh : h < 256) (ha : a < 256) : gM l D ty yX4_addRule cX4_addRule 5 (some (FieldType.boolean : FieldType)) r_X4_addRule 0 0 [.ref h0, .int (nI h), .int (nI a), .int (eA b)] [(h0, .inr (2, [.ref h1, .ref h2, .int (nI nr)])), (h2, .inl (ty 0, 18, .inl (eR q)))] (fun (zr : Option Value) (zW : va_W) => zr = some (.int (bI (decide (nr < 6)))) ∧ zW = [(h0, .inr (2, [.ref h1, .ref h2, .int (nI (if nr < 6 then nr + 1 else nr))])), (h2, .inl (ty 0, 18, .inl (eR (if nr < 6 then aR q nr h a b else q))))]) := by
  refine gM_of RX4 rfl (by decide +kernel) (Nat.le_of_ble_eq_true rfl) ?_
  intro pg en s0 mi ag bl mth cd AA HH QQ C E hnm
  show gW pg l en r_X4_addRule s0 mi ag bl mth cd 5 D AA HH QQ 0 [(0, .ref h0), (1, .int (nI h)), (2, .int (nI a)), (3, .int (eA b))] [] [(h0, .inr (2, [.ref h1, .ref h2, .int (nI nr)])), (h2, .inl (ty 0, 18, .inl (eR q)))] 0 0
  refine g_iconst C (nI 3) ic_3 dX4_addRule_0 ?_
  refine g_aload_n C 0 rfl dX4_addRule_1 ?_
  refine g_getf C wu_X4 0 rfl rfl 2 (by decide) wf_X4_22 rfl rfl dX4_addRule_2 ?_
  refine g_imul C (nI (3 * nr)) dX4_addRule_5 (pk_mul _ _) ?_
  refine g_istore C [(4, .int (nI (3 * nr))), (0, .ref h0), (1, .int (nI h)), (2, .int (nI a)), (3, .int (eA b))] dX4_addRule_6 (by decide) rfl ?_
  refine g_iload C 0 rfl dX4_addRule_8 ?_
  refine g_if_lt C 25 dX4_addRule_10 rfl (fun c10 => ?_) (fun c10 => ?_)
  · skip
    exact absurd c10 (nI_pos (by omega))
  · skip
    refine g_iload C 0 rfl dX4_addRule_13 ?_
    refine g_iconst C (nI 2) ic_2 dX4_addRule_15 ?_
    refine g_iadd C (nI ((3 * nr) + 2)) dX4_addRule_16 (nI_add _ _) ?_
    refine g_aload_n C 1 rfl dX4_addRule_17 ?_
    refine g_getf C wu_X4 0 rfl rfl 1 (by decide) wf_X4_18 rfl rfl dX4_addRule_18 ?_
    refine g_alen C 1 0 rfl rfl (nI 18) rfl dX4_addRule_21 ?_
    refine g_icmp_ltN C ((3 * nr) + 2) 18 27 rfl rfl (by omega) (by omega) dX4_addRule_22 rfl (fun c22 => ?_) (fun c22 => ?_)
    · skip
      refine g_aload_n C 1 rfl dX4_addRule_27 ?_
      refine g_getf C wu_X4 0 rfl rfl 1 (by decide) wf_X4_18 rfl rfl dX4_addRule_28 ?_
      refine g_iload C 0 rfl dX4_addRule_31 ?_
      refine g_iload_n C 2 rfl dX4_addRule_33 ?_
      refine g_iast C 1 rfl (3 * nr) rfl (by omega) (by decide) dX4_addRule_34 (upd (eR q) (3 * nr) (nI h)) rfl [(h0, .inr (2, [.ref h1, .ref h2, .int (nI nr)])), (h2, .inl (ty 0, 18, .inl (upd (eR q) (3 * nr) (nI h))))] rfl ?_
      refine g_aload_n C 1 rfl dX4_addRule_35 ?_
      refine g_getf C wu_X4 0 rfl rfl 1 (by decide) wf_X4_18 rfl rfl dX4_addRule_36 ?_
      refine g_iload C 0 rfl dX4_addRule_39 ?_
      refine g_iconst C (nI 1) ic_1 dX4_addRule_41 ?_
      refine g_iadd C (nI ((3 * nr) + 1)) dX4_addRule_42 (nI_add _ _) ?_
      refine g_iload_n C 3 rfl dX4_addRule_43 ?_
      refine g_iast C 1 rfl ((3 * nr) + 1) rfl (by omega) (by decide) dX4_addRule_44 (upd (upd (eR q) (3 * nr) (nI h)) ((3 * nr) + 1) (nI a)) rfl [(h0, .inr (2, [.ref h1, .ref h2, .int (nI nr)])), (h2, .inl (ty 0, 18, .inl (upd (upd (eR q) (3 * nr) (nI h)) ((3 * nr) + 1) (nI a))))] rfl ?_
      refine g_aload_n C 1 rfl dX4_addRule_45 ?_
      refine g_getf C wu_X4 0 rfl rfl 1 (by decide) wf_X4_18 rfl rfl dX4_addRule_46 ?_
      refine g_iload C 0 rfl dX4_addRule_49 ?_
      refine g_iconst C (nI 2) ic_2 dX4_addRule_51 ?_
      refine g_iadd C (nI ((3 * nr) + 2)) dX4_addRule_52 (nI_add _ _) ?_
      refine g_iload_n C 4 rfl dX4_addRule_53 ?_
      refine g_iast C 1 rfl ((3 * nr) + 2) rfl (by omega) (by decide) dX4_addRule_54 (upd (upd (upd (eR q) (3 * nr) (nI h)) ((3 * nr) + 1) (nI a)) ((3 * nr) + 2) (eA b)) rfl [(h0, .inr (2, [.ref h1, .ref h2, .int (nI nr)])), (h2, .inl (ty 0, 18, .inl (upd (upd (upd (eR q) (3 * nr) (nI h)) ((3 * nr) + 1) (nI a)) ((3 * nr) + 2) (eA b))))] rfl ?_
      refine g_aload_n C 1 rfl dX4_addRule_55 ?_
      refine g_dup C rfl dX4_addRule_56 ?_
      refine g_getf C wu_X4 0 rfl rfl 2 (by decide) wf_X4_22 rfl rfl dX4_addRule_57 ?_
      refine g_iconst C (nI 1) ic_1 dX4_addRule_60 ?_
      refine g_iadd C (nI (nr + 1)) dX4_addRule_61 (nI_add _ _) ?_
      refine g_putf C wu_X4 tyX4 tyX4_ok nmX4 0 rfl rfl 2 (by decide) wf_X4_22 rfl rfl rfl rfl (Nat.le_of_ble_eq_true rfl) dX4_addRule_62 [(h0, .inr (2, [.ref h1, .ref h2, .int (nI (nr + 1))])), (h2, .inl (ty 0, 18, .inl (upd (upd (upd (eR q) (3 * nr) (nI h)) ((3 * nr) + 1) (nI a)) ((3 * nr) + 2) (eA b))))] rfl ?_
      refine g_iconst C (nI 1) ic_1 dX4_addRule_65 ?_
      exact g_zret E true rfl dX4_addRule_66 (by decide) (by decide) ⟨(congrArg (fun z => some (Value.int (bI z))) (by simp; omega)), (by rw [if_pos (show nr < 6 by omega), if_pos (show nr < 6 by omega), aR_eq q nr b (by omega) (by omega)])⟩
    · skip
      refine g_iconst C (nI 0) ic_0 dX4_addRule_25 ?_
      exact g_zret E false rfl dX4_addRule_26 (by decide) (by decide) ⟨(congrArg (fun z => some (Value.int (bI z))) (by simp; omega)), (by rw [if_neg (show ¬ nr < 6 by omega), if_neg (show ¬ nr < 6 by omega)])⟩
def r_X4_dropRule : Room := { frames := 1, cells := 0, slots := 0, locals := 21 }
set_option maxRecDepth 100000 in
set_option maxHeartbeats 4000000 in
theorem k_X4_dropRule (l : Launch) (D : va_G) (ty : Nat → ClassId) (h0 : Nat) (h1 : Nat) (h2 : Nat) (q : Nat → Nat) (nr : Nat) (r : Nat) (hr : r < nr) (hn : nr ≤ 6) : gM l D ty yX4_dropRule cX4_dropRule 3 none r_X4_dropRule 0 0 [.ref h0, .int (nI r)] [(h0, .inr (2, [.ref h1, .ref h2, .int (nI nr)])), (h2, .inl (ty 0, 18, .inl (eR q)))] (fun (zr : Option Value) (zW : va_W) => zr = none ∧ zW = [(h0, .inr (2, [.ref h1, .ref h2, .int (nI (nr - 1))])), (h2, .inl (ty 0, 18, .inl (eR (dRi q r 15))))]) := by
  refine gM_of RX4 rfl (by decide +kernel) (Nat.le_of_ble_eq_true rfl) ?_
  intro pg en s0 mi ag bl mth cd AA HH QQ C E hnm
  show gW pg l en r_X4_dropRule s0 mi ag bl mth cd 3 D AA HH QQ 0 [(0, .ref h0), (1, .int (nI r))] [] [(h0, .inr (2, [.ref h1, .ref h2, .int (nI nr)])), (h2, .inl (ty 0, 18, .inl (eR q)))] 0 0
  refine g_aload_n C 0 rfl dX4_dropRule_0 ?_
  refine g_iload_n C 1 rfl dX4_dropRule_1 ?_
  refine g_callV C (nA := 1) (ci := 2) (q0 := 0) (As := [.int (nI r)]) (wr := [(h2, .inl (ty 0, 18, .inl (eR q)))]) (k_X4_hasRule l D ty h0 h1 h2 nr ((nI r)) ) wm_X4_26 wn_X4_hasRule wv_X4_hasRule wi_X4 wc_X4_hasRule rfl (by decide +kernel) ⟨(Nat.le_of_ble_eq_true rfl), (Nat.le_of_ble_eq_true rfl)⟩ ⟨rfl, rfl⟩ dX4_dropRule_2 ⟨Nat.zero_le _, Nat.zero_le _⟩ rfl rfl rfl [0] [1] rfl rfl rfl rfl (by decide) (Nat.le_of_ble_eq_true rfl) rfl (fun r W1 hp => ?_)
  obtain ⟨rfl, rfl⟩ := hp
  refine g_fix [.int (bI (hR ((nI r)) nr))] [(h0, .inr (2, [.ref h1, .ref h2, .int (nI nr)])), (h2, .inl (ty 0, 18, .inl (eR q)))] [1, 0] rfl rfl rfl ?_
  refine g_if_neB C (hR ((nI r)) nr) 9 rfl dX4_dropRule_5 rfl (fun c5 => ?_) (fun c5 => ?_)
  · skip
    refine g_iconst C (nI 3) ic_3 dX4_dropRule_9 ?_
    refine g_iload_n C 1 rfl dX4_dropRule_10 ?_
    refine g_imul C (nI (3 * r)) dX4_dropRule_11 (pk_mul _ _) ?_
    refine g_istore_n C [(2, .int (nI (3 * r))), (0, .ref h0), (1, .int (nI r))] dX4_dropRule_12 rfl (by decide) rfl ?_
    refine g_lo [1, 2, 0] [(0, .ref h0), (1, .int (nI r)), (2, .int (nI (3 * r)))] rfl ?_
    refine g_ws [(h0, .inr (2, [.ref h1, .ref h2, .int (nI nr)])), (h2, .inl (ty 0, 18, .inl (eR (dRi q r (3 * r)))))] (by rw [dRi_0]) ?_
    have L13 : ∀ (fu13 : Nat) (i : Nat) (hi : 3 * r ≤ i) (hi2 : i ≤ 15), (15 - i) < fu13 → gW pg l en r_X4_dropRule s0 mi ag bl mth cd 3 D AA HH QQ 13 [(0, .ref h0), (1, .int (nI r)), (2, .int (nI i))] [] [(h0, .inr (2, [.ref h1, .ref h2, .int (nI nr)])), (h2, .inl (ty 0, 18, .inl (eR (dRi q r i))))] 0 0 := by
      intro fu13
      induction fu13 with
      | zero => intro i hi hi2 hfu; exact absurd hfu (Nat.not_lt_zero _)
      | succ fu13 ih13 =>
        intro i hi hi2 hfu13
        refine g_iload_n C 2 rfl dX4_dropRule_13 ?_
        refine g_iconst C (nI 3) ic_3 dX4_dropRule_14 ?_
        refine g_iadd C (nI (i + 3)) dX4_dropRule_15 (nI_add _ _) ?_
        refine g_aload_n C 0 rfl dX4_dropRule_16 ?_
        refine g_getf C wu_X4 0 rfl rfl 1 (by decide) wf_X4_18 rfl rfl dX4_dropRule_17 ?_
        refine g_alen C 1 0 rfl rfl (nI 18) rfl dX4_dropRule_20 ?_
        refine g_icmp_geN C (i + 3) 18 44 rfl rfl (by omega) (by omega) dX4_dropRule_21 rfl (fun c21 => ?_) (fun c21 => ?_)
        · skip
          refine g_ws [(h0, .inr (2, [.ref h1, .ref h2, .int (nI nr)])), (h2, .inl (ty 0, 18, .inl (eR (dRi q r 15))))] (by rw [show i = 15 by omega]) ?_
          refine g_aload_n C 0 rfl dX4_dropRule_44 ?_
          refine g_dup C rfl dX4_dropRule_45 ?_
          refine g_getf C wu_X4 0 rfl rfl 2 (by decide) wf_X4_22 rfl rfl dX4_dropRule_46 ?_
          refine g_iconst C (nI 1) ic_1 dX4_dropRule_49 ?_
          refine g_isub C (nI (nr - 1)) dX4_dropRule_50 (pk_sub (by omega)) ?_
          refine g_putf C wu_X4 tyX4 tyX4_ok nmX4 0 rfl rfl 2 (by decide) wf_X4_22 rfl rfl rfl rfl (Nat.le_of_ble_eq_true rfl) dX4_dropRule_51 [(h0, .inr (2, [.ref h1, .ref h2, .int (nI (nr - 1))])), (h2, .inl (ty 0, 18, .inl (eR (dRi q r 15))))] rfl ?_
          exact g_vret E dX4_dropRule_54 (by decide) (by decide) ⟨rfl, rfl⟩
        · skip
          refine g_aload_n C 0 rfl dX4_dropRule_24 ?_
          refine g_getf C wu_X4 0 rfl rfl 1 (by decide) wf_X4_18 rfl rfl dX4_dropRule_25 ?_
          refine g_iload_n C 2 rfl dX4_dropRule_28 ?_
          refine g_aload_n C 0 rfl dX4_dropRule_29 ?_
          refine g_getf C wu_X4 0 rfl rfl 1 (by decide) wf_X4_18 rfl rfl dX4_dropRule_30 ?_
          refine g_iload_n C 2 rfl dX4_dropRule_33 ?_
          refine g_iconst C (nI 3) ic_3 dX4_dropRule_34 ?_
          refine g_iadd C (nI (i + 3)) dX4_dropRule_35 (nI_add _ _) ?_
          refine g_iald C 1 rfl (i + 3) rfl (by omega) (by decide) (eA (q (i + 3))) (by show eA (dRi q r i (i + 3)) = _; unfold dRi; rw [if_neg (by omega)]) dX4_dropRule_36 ?_
          refine g_iast C 1 rfl i rfl (by omega) (by decide) dX4_dropRule_37 (eR (dRi q r (i + 1))) (dRi_s q hi) [(h0, .inr (2, [.ref h1, .ref h2, .int (nI nr)])), (h2, .inl (ty 0, 18, .inl (eR (dRi q r (i + 1)))))] rfl ?_
          refine g_iinc C (nI (i + 1)) [(2, .int (nI (i + 1))), (0, .ref h0), (1, .int (nI r))] 2 dX4_dropRule_38 rfl (ii_1 _) (by decide) rfl ?_
          refine g_goto C 13 dX4_dropRule_41 rfl ?_
          refine g_lo [1, 2, 0] [(0, .ref h0), (1, .int (nI r)), (2, .int (nI (i + 1)))] rfl ?_
          exact ih13 (i + 1) (by omega) (by omega) (by omega)
    exact L13 (15 - (3 * r) + 1) (3 * r) (by omega) (by omega) (Nat.lt_succ_self _)
  · skip
    exact absurd c5 (by rw [hR_N (by omega) (by omega)]; simp; omega)
def r_X4_copyOf : Room := { frames := 1, cells := 0, slots := 0, locals := 22 }
set_option maxRecDepth 100000 in
set_option maxHeartbeats 4000000 in
theorem k_X4_copyOf (l : Launch) (D : va_G) (ty : Nat → ClassId) (h0 : Nat) (h1 : Nat) (h2 : Nat) (h3 : Nat) (T : Nat → Bool) (q : Nat → Nat) (nr : Nat) (k0 : Nat) (k1 : Nat) (k2 : Nat) (k3 : Nat) (V : Nat → Bool) (u : Nat → Nat) (mr : Nat)  : gM l D ty yX4_copyOf cX4_copyOf 3 none r_X4_copyOf 0 0 [.ref h0, .ref k0] [(h0, .inr (2, [.ref h1, .ref h2, .int (nI nr)])), (h1, .inr (0, [.ref h3])), (h3, .inl (ty 1, 4, .inr (.inl (zM T)))), (h2, .inl (ty 0, 18, .inl (eR q))), (k0, .inr (2, [.ref k1, .ref k2, .int (nI mr)])), (k1, .inr (0, [.ref k3])), (k3, .inl (ty 1, 4, .inr (.inl (zM V)))), (k2, .inl (ty 0, 18, .inl (eR u)))] (fun (zr : Option Value) (zW : va_W) => zr = none ∧ zW = [(h0, .inr (2, [.ref h1, .ref h2, .int (nI mr)])), (h1, .inr (0, [.ref h3])), (h3, .inl (ty 1, 4, .inr (.inl (zM V)))), (h2, .inl (ty 0, 18, .inl (eR u))), (k0, .inr (2, [.ref k1, .ref k2, .int (nI mr)])), (k1, .inr (0, [.ref k3])), (k3, .inl (ty 1, 4, .inr (.inl (zM V)))), (k2, .inl (ty 0, 18, .inl (eR u)))]) := by
  refine gM_of RX4 rfl (by decide +kernel) (Nat.le_of_ble_eq_true rfl) ?_
  intro pg en s0 mi ag bl mth cd AA HH QQ C E hnm
  show gW pg l en r_X4_copyOf s0 mi ag bl mth cd 3 D AA HH QQ 0 [(0, .ref h0), (1, .ref k0)] [] [(h0, .inr (2, [.ref h1, .ref h2, .int (nI nr)])), (h1, .inr (0, [.ref h3])), (h3, .inl (ty 1, 4, .inr (.inl (zM T)))), (h2, .inl (ty 0, 18, .inl (eR q))), (k0, .inr (2, [.ref k1, .ref k2, .int (nI mr)])), (k1, .inr (0, [.ref k3])), (k3, .inl (ty 1, 4, .inr (.inl (zM V)))), (k2, .inl (ty 0, 18, .inl (eR u)))] 0 0
  refine g_aload_n C 0 rfl dX4_copyOf_0 ?_
  refine g_getf C wu_X4 0 rfl rfl 0 (by decide) wf_X4_12 rfl rfl dX4_copyOf_1 ?_
  refine g_aload_n C 1 rfl dX4_copyOf_4 ?_
  refine g_getf C wu_X4 4 rfl rfl 0 (by decide) wf_X4_12 rfl rfl dX4_copyOf_5 ?_
  refine g_callV C (nA := 1) (ci := 0) (q0 := 0) (As := [.ref k1]) (wr := [(h0, .inr (2, [.ref h1, .ref h2, .int (nI nr)])), (h2, .inl (ty 0, 18, .inl (eR q))), (k0, .inr (2, [.ref k1, .ref k2, .int (nI mr)])), (k2, .inl (ty 0, 18, .inl (eR u)))]) (k_X2_copyOf l D ty h1 h3 T k1 k3 V ) wm_X4_30 wn_X2_copyOf wv_X2_copyOf wi_X2 wc_X2_copyOf rfl (by decide +kernel) ⟨(Nat.le_of_ble_eq_true rfl), (Nat.le_of_ble_eq_true rfl)⟩ ⟨rfl, rfl⟩ dX4_copyOf_8 ⟨Nat.zero_le _, Nat.zero_le _⟩ rfl rfl rfl [1, 2, 5, 6] [0, 3, 4, 7] rfl rfl rfl rfl (by decide) (Nat.le_of_ble_eq_true rfl) rfl (fun r W1 hp => ?_)
  obtain ⟨rfl, rfl⟩ := hp
  refine g_fix [] [(h0, .inr (2, [.ref h1, .ref h2, .int (nI nr)])), (h1, .inr (0, [.ref h3])), (h3, .inl (ty 1, 4, .inr (.inl (zM V)))), (h2, .inl (ty 0, 18, .inl (eR q))), (k0, .inr (2, [.ref k1, .ref k2, .int (nI mr)])), (k1, .inr (0, [.ref k3])), (k3, .inl (ty 1, 4, .inr (.inl (zM V)))), (k2, .inl (ty 0, 18, .inl (eR u)))] [0, 4, 5, 1, 2, 6, 7, 3] rfl rfl rfl ?_
  refine g_iconst C (nI 0) ic_0 dX4_copyOf_11 ?_
  refine g_istore_n C [(2, .int (nI 0)), (0, .ref h0), (1, .ref k0)] dX4_copyOf_12 rfl (by decide) rfl ?_
  refine g_lo [1, 2, 0] [(0, .ref h0), (1, .ref k0), (2, .int (nI 0))] rfl ?_
  refine g_ws [(h0, .inr (2, [.ref h1, .ref h2, .int (nI nr)])), (h1, .inr (0, [.ref h3])), (h3, .inl (ty 1, 4, .inr (.inl (zM V)))), (h2, .inl (ty 0, 18, .inl (zfl (eR u) (eR q) 0))), (k0, .inr (2, [.ref k1, .ref k2, .int (nI mr)])), (k1, .inr (0, [.ref k3])), (k3, .inl (ty 1, 4, .inr (.inl (zM V)))), (k2, .inl (ty 0, 18, .inl (eR u)))] (by rw [zfl_0]) ?_
  have L13 : ∀ (fu13 : Nat) (i : Nat) (hi : i ≤ 18), (18 - i) < fu13 → gW pg l en r_X4_copyOf s0 mi ag bl mth cd 3 D AA HH QQ 13 [(0, .ref h0), (1, .ref k0), (2, .int (nI i))] [] [(h0, .inr (2, [.ref h1, .ref h2, .int (nI nr)])), (h1, .inr (0, [.ref h3])), (h3, .inl (ty 1, 4, .inr (.inl (zM V)))), (h2, .inl (ty 0, 18, .inl (zfl (eR u) (eR q) i))), (k0, .inr (2, [.ref k1, .ref k2, .int (nI mr)])), (k1, .inr (0, [.ref k3])), (k3, .inl (ty 1, 4, .inr (.inl (zM V)))), (k2, .inl (ty 0, 18, .inl (eR u)))] 0 0 := by
    intro fu13
    induction fu13 with
    | zero => intro i hi hfu; exact absurd hfu (Nat.not_lt_zero _)
    | succ fu13 ih13 =>
      intro i hi hfu13
      refine g_iload_n C 2 rfl dX4_copyOf_13 ?_
      refine g_aload_n C 0 rfl dX4_copyOf_14 ?_
      refine g_getf C wu_X4 0 rfl rfl 1 (by decide) wf_X4_18 rfl rfl dX4_copyOf_15 ?_
      refine g_alen C 3 0 rfl rfl (nI 18) rfl dX4_copyOf_18 ?_
      refine g_icmp_geN C i 18 40 rfl rfl (by omega) (by omega) dX4_copyOf_19 rfl (fun c19 => ?_) (fun c19 => ?_)
      · skip
        refine g_extI 3 rfl (eR u) (fun j hj => zfl_in _ _ (show j < i by omega)) [(h0, .inr (2, [.ref h1, .ref h2, .int (nI nr)])), (h1, .inr (0, [.ref h3])), (h3, .inl (ty 1, 4, .inr (.inl (zM V)))), (h2, .inl (ty 0, 18, .inl (eR u))), (k0, .inr (2, [.ref k1, .ref k2, .int (nI mr)])), (k1, .inr (0, [.ref k3])), (k3, .inl (ty 1, 4, .inr (.inl (zM V)))), (k2, .inl (ty 0, 18, .inl (eR u)))] rfl ?_
        refine g_aload_n C 0 rfl dX4_copyOf_40 ?_
        refine g_aload_n C 1 rfl dX4_copyOf_41 ?_
        refine g_getf C wu_X4 4 rfl rfl 2 (by decide) wf_X4_22 rfl rfl dX4_copyOf_42 ?_
        refine g_putf C wu_X4 tyX4 tyX4_ok nmX4 0 rfl rfl 2 (by decide) wf_X4_22 rfl rfl rfl rfl (Nat.le_of_ble_eq_true rfl) dX4_copyOf_45 [(h0, .inr (2, [.ref h1, .ref h2, .int (nI mr)])), (h1, .inr (0, [.ref h3])), (h3, .inl (ty 1, 4, .inr (.inl (zM V)))), (h2, .inl (ty 0, 18, .inl (eR u))), (k0, .inr (2, [.ref k1, .ref k2, .int (nI mr)])), (k1, .inr (0, [.ref k3])), (k3, .inl (ty 1, 4, .inr (.inl (zM V)))), (k2, .inl (ty 0, 18, .inl (eR u)))] rfl ?_
        exact g_vret E dX4_copyOf_48 (by decide) (by decide) ⟨rfl, rfl⟩
      · skip
        refine g_aload_n C 0 rfl dX4_copyOf_22 ?_
        refine g_getf C wu_X4 0 rfl rfl 1 (by decide) wf_X4_18 rfl rfl dX4_copyOf_23 ?_
        refine g_iload_n C 2 rfl dX4_copyOf_26 ?_
        refine g_aload_n C 1 rfl dX4_copyOf_27 ?_
        refine g_getf C wu_X4 4 rfl rfl 1 (by decide) wf_X4_18 rfl rfl dX4_copyOf_28 ?_
        refine g_iload_n C 2 rfl dX4_copyOf_31 ?_
        refine g_iald C 7 rfl i rfl (by omega) (by decide) (eA (u i)) rfl dX4_copyOf_32 ?_
        refine g_iast C 3 rfl i rfl (by omega) (by decide) dX4_copyOf_33 (zfl (eR u) (eR q) (i + 1)) (zfl_I _ _ _ rfl) [(h0, .inr (2, [.ref h1, .ref h2, .int (nI nr)])), (h1, .inr (0, [.ref h3])), (h3, .inl (ty 1, 4, .inr (.inl (zM V)))), (h2, .inl (ty 0, 18, .inl (zfl (eR u) (eR q) (i + 1)))), (k0, .inr (2, [.ref k1, .ref k2, .int (nI mr)])), (k1, .inr (0, [.ref k3])), (k3, .inl (ty 1, 4, .inr (.inl (zM V)))), (k2, .inl (ty 0, 18, .inl (eR u)))] rfl ?_
        refine g_iinc C (nI (i + 1)) [(2, .int (nI (i + 1))), (0, .ref h0), (1, .ref k0)] 2 dX4_copyOf_34 rfl (ii_1 _) (by decide) rfl ?_
        refine g_goto C 13 dX4_copyOf_37 rfl ?_
        refine g_lo [1, 2, 0] [(0, .ref h0), (1, .ref k0), (2, .int (nI (i + 1)))] rfl ?_
        exact ih13 (i + 1) (by omega) (by omega)
  exact L13 (18 - 0 + 1) 0 (by omega) (Nat.lt_succ_self _)
def r_J7_fill_53178 : Room := { frames := 0, cells := 0, slots := 0, locals := 0 }
set_option maxRecDepth 100000 in
set_option maxHeartbeats 4000000 in
theorem k_J7_fill_53178 (l : Launch) (D : va_G) (ty : Nat → ClassId) (h0 : Nat) (n : Nat) (f : Nat → Int32) (v : Int32) (hn : n < 2 ^ 31) : gM l D ty yJ7_fill_53178 cJ7_fill_53178 4 none r_J7_fill_53178 0 0 [.ref h0, .int (v)] [(h0, .inl (ty 0, n, .inl (f)))] (fun (zr : Option Value) (zW : va_W) => zr = none ∧ zW = [(h0, .inl (ty 0, n, .inl (fun _ => v)))]) := by
  refine gM_of RJ7 rfl (by decide +kernel) (Nat.le_of_ble_eq_true rfl) ?_
  intro pg en s0 mi ag bl mth cd AA HH QQ C E hnm
  show gW pg l en r_J7_fill_53178 s0 mi ag bl mth cd 4 D AA HH QQ 0 [(0, .ref h0), (1, .int (v))] [] [(h0, .inl (ty 0, n, .inl (f)))] 0 0
  refine g_iconst C (nI 0) ic_0 dJ7_fill_53178_0 ?_
  refine g_istore_n C [(2, .int (nI 0)), (0, .ref h0), (1, .int (v))] dJ7_fill_53178_1 rfl (by decide) rfl ?_
  refine g_aload_n C 1 rfl dJ7_fill_53178_2 ?_
  refine g_alen C 0 0 rfl rfl (nI n) rfl dJ7_fill_53178_3 ?_
  refine g_istore_n C [(3, .int (nI n)), (2, .int (nI 0)), (0, .ref h0), (1, .int (v))] dJ7_fill_53178_4 rfl (by decide) rfl ?_
  refine g_lo [2, 3, 1, 0] [(0, .ref h0), (1, .int (v)), (2, .int (nI 0)), (3, .int (nI n))] rfl ?_
  refine g_ws [(h0, .inl (ty 0, n, .inl (zfl (fun _ => v) f 0)))] (by rw [zfl_0]) ?_
  have L5 : ∀ (fu5 : Nat) (i : Nat) (hi : i ≤ n), (n - i) < fu5 → gW pg l en r_J7_fill_53178 s0 mi ag bl mth cd 4 D AA HH QQ 5 [(0, .ref h0), (1, .int (v)), (2, .int (nI i)), (3, .int (nI n))] [] [(h0, .inl (ty 0, n, .inl (zfl (fun _ => v) f i)))] 0 0 := by
    intro fu5
    induction fu5 with
    | zero => intro i hi hfu; exact absurd hfu (Nat.not_lt_zero _)
    | succ fu5 ih5 =>
      intro i hi hfu5
      refine g_iload_n C 2 rfl dJ7_fill_53178_5 ?_
      refine g_iload_n C 3 rfl dJ7_fill_53178_6 ?_
      refine g_icmp_geN C i n 20 rfl rfl (by omega) (by omega) dJ7_fill_53178_7 rfl (fun c7 => ?_) (fun c7 => ?_)
      · skip
        refine g_extI 0 rfl (fun _ => v) (fun j hj => zfl_in _ _ (show j < i by omega)) [(h0, .inl (ty 0, n, .inl (fun _ => v)))] rfl ?_
        exact g_vret E dJ7_fill_53178_20 (by decide) (by decide) ⟨rfl, rfl⟩
      · skip
        refine g_aload_n C 0 rfl dJ7_fill_53178_10 ?_
        refine g_iload_n C 2 rfl dJ7_fill_53178_11 ?_
        refine g_iload_n C 1 rfl dJ7_fill_53178_12 ?_
        refine g_iast C 0 rfl i rfl (by omega) (by omega) dJ7_fill_53178_13 (zfl (fun _ => v) f (i + 1)) (zfl_I _ _ _ rfl) [(h0, .inl (ty 0, n, .inl (zfl (fun _ => v) f (i + 1))))] rfl ?_
        refine g_iinc C (nI (i + 1)) [(2, .int (nI (i + 1))), (0, .ref h0), (1, .int (v)), (3, .int (nI n))] 2 dJ7_fill_53178_14 rfl (ii_1 _) (by decide) rfl ?_
        refine g_goto C 5 dJ7_fill_53178_17 rfl ?_
        refine g_lo [1, 2, 0, 3] [(0, .ref h0), (1, .int (v)), (2, .int (nI (i + 1))), (3, .int (nI n))] rfl ?_
        exact ih5 (i + 1) (by omega) (by omega)
  exact L5 (n - 0 + 1) 0 (by omega) (Nat.lt_succ_self _)
