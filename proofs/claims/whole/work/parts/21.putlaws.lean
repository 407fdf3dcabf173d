def oT {α : Type} (x : Option α) (y : α) : α := match x with
  | none => y
  | some z => z
theorem plw_0 {Y : YT} {P : PT} (h : Y.1 = 0) : plw Y P = some (P.1 + 1, zPut P.2.1 (Y.2.2 0), P.2.2.1, P.2.2.2) := by unfold plw; rw [if_pos h]
theorem plw_1 {Y : YT} {P : PT} (h : Y.1 ≠ 0) (h6 : P.2.2.2 < 6) : plw Y P = some (P.1 + 1, P.2.1, aR P.2.2.1 P.2.2.2 (Y.2.2 0) (Y.2.2 1) (if Y.1 = 2 then Y.2.2 2 else 256), P.2.2.2 + 1) := by unfold plw; rw [if_neg h, if_pos h6]
theorem plw_2 {Y : YT} {P : PT} (h : Y.1 ≠ 0) (h6 : ¬ P.2.2.2 < 6) : plw Y P = none := by unfold plw; rw [if_neg h, if_neg h6]
def gtN (x : Option PT) : Int32 := match x with
  | none => -1
  | some P => nI P.1
theorem pst_s {b as : Nat → Nat} {len : Nat} {P P2 : PT} {n : Nat} (h : pst b as len P n = some P2) : pst b as len P (n + 1) = if n = len ∨ b n = 59 then plw (ry b as n) P2 else some P2 := by rw [pst, h]; rfl
theorem pst_none {b as : Nat → Nat} {len : Nat} {P : PT} {n : Nat} (h : pst b as len P n = none) (k : Nat) : pst b as len P (n + k) = none := by
  induction k with
  | zero => exact h
  | succ k ih => rw [← Nat.add_assoc, pst, ih]; rfl
theorem pst_six {b as : Nat → Nat} {len : Nat} {P : PT} {n : Nat} (h6 : P.2.2.2 ≤ 6) {P2 : PT} (h : pst b as len P n = some P2) : P2.2.2.2 ≤ 6 := by
  induction n generalizing P2 with
  | zero => cases h; exact h6
  | succ n ih =>
    rw [pst] at h
    obtain ⟨P3, e1, e2⟩ := Option.bind_eq_some_iff.mp h
    have := ih e1
    split at e2
    · unfold plw at e2
      split at e2
      · cases e2; exact this
      · split at e2
        · cases e2; simp only; omega
        · cases e2
    · cases e2; exact this
theorem plw_many {Y : YT} {P P2 : PT} (h : plw Y P = some P2) : P.1 + 1 = P2.1 := by
  unfold plw at h
  split at h
  · cases h; rfl
  · split at h
    · cases h; rfl
    · cases h

def r_X3_putLaw : Room := { frames := 2, cells := 0, slots := 0, locals := 41 }
set_option maxRecDepth 100000 in
set_option maxHeartbeats 4000000 in
theorem k_X3_putLaw (l : Launch) (D : va_G) (ty : Nat → ClassId) (y0 : Nat) (y1 : Nat) (Y : YT) (l0 : Nat) (l1 : Nat) (l2 : Nat) (l3 : Nat) (P : PT) (hY : okY Y) (h6 : P.2.2.2 ≤ 6) : gM l D ty yX3_putLaw cX3_putLaw 2 (some (FieldType.boolean : FieldType)) r_X3_putLaw 0 0 [.ref y0, .ref l0] [(y0, .inr (1, [.ref y1, .int (nI (Y.1)), .int (nI (Y.2.1))])), (y1, .inl (ty 0, 3, .inl (tI Y.2.2))), (l0, .inr (2, [.ref l1, .ref l2, .int (nI (P.2.2.2))])), (l1, .inr (0, [.ref l3])), (l3, .inl (ty 1, 4, .inr (.inl (zM P.2.1)))), (l2, .inl (ty 0, 18, .inl (eR P.2.2.1)))] (fun (zr : Option Value) (zW : va_W) => zr = some (.int (bI ((plw Y P).isSome))) ∧ zW = [(y0, .inr (1, [.ref y1, .int (nI (Y.1)), .int (nI (Y.2.1))])), (y1, .inl (ty 0, 3, .inl (tI Y.2.2))), (l0, .inr (2, [.ref l1, .ref l2, .int (nI ((oT (plw Y P) P).2.2.2))])), (l1, .inr (0, [.ref l3])), (l3, .inl (ty 1, 4, .inr (.inl (zM ((oT (plw Y P) P).2.1))))), (l2, .inl (ty 0, 18, .inl (eR ((oT (plw Y P) P).2.2.1))))]) := by
  have ha := hY.2.2.1 0 (by decide)
  have hb := hY.2.2.1 1 (by decide)
  have hb2 := hY.2.2.1 2 (by decide)
  have h1 := hY.1
  refine gM_of RX3 rfl (by decide +kernel) (Nat.le_of_ble_eq_true rfl) ?_
  intro pg en s0 mi ag bl mth cd AA HH QQ C E hnm
  show gW pg l en r_X3_putLaw s0 mi ag bl mth cd 2 D AA HH QQ 0 [(0, .ref y0), (1, .ref l0)] [] [(y0, .inr (1, [.ref y1, .int (nI (Y.1)), .int (nI (Y.2.1))])), (y1, .inl (ty 0, 3, .inl (tI Y.2.2))), (l0, .inr (2, [.ref l1, .ref l2, .int (nI (P.2.2.2))])), (l1, .inr (0, [.ref l3])), (l3, .inl (ty 1, 4, .inr (.inl (zM P.2.1)))), (l2, .inl (ty 0, 18, .inl (eR P.2.2.1)))] 0 0
  refine g_aload_n C 0 rfl dX3_putLaw_0 ?_
  refine g_getf C wu_X3 0 rfl rfl 1 (by decide) wf_X3_36 rfl rfl dX3_putLaw_1 ?_
  refine g_if_neN C Y.1 22 rfl (by omega) dX3_putLaw_4 rfl (fun c4 => ?_) (fun c4 => ?_)
  · skip
    refine g_aload_n C 1 rfl dX3_putLaw_22 ?_
    refine g_aload_n C 0 rfl dX3_putLaw_23 ?_
    refine g_getf C wu_X3 0 rfl rfl 0 (by decide) wf_X3_9 rfl rfl dX3_putLaw_24 ?_
    refine g_iconst C (nI 0) ic_0 dX3_putLaw_27 ?_
    refine g_iald C 1 rfl 0 rfl (by omega) (by decide) (nI (Y.2.2 0)) rfl dX3_putLaw_28 ?_
    refine g_aload_n C 0 rfl dX3_putLaw_29 ?_
    refine g_getf C wu_X3 0 rfl rfl 0 (by decide) wf_X3_9 rfl rfl dX3_putLaw_30 ?_
    refine g_iconst C (nI 1) ic_1 dX3_putLaw_33 ?_
    refine g_iald C 1 rfl 1 rfl (by omega) (by decide) (nI (Y.2.2 1)) rfl dX3_putLaw_34 ?_
    refine g_aload_n C 0 rfl dX3_putLaw_35 ?_
    refine g_getf C wu_X3 0 rfl rfl 1 (by decide) wf_X3_36 rfl rfl dX3_putLaw_36 ?_
    refine g_iconst C (nI 2) ic_2 dX3_putLaw_39 ?_
    refine g_icmp_neN C Y.1 2 52 rfl rfl (by omega) (by omega) dX3_putLaw_40 rfl (fun c40 => ?_) (fun c40 => ?_)
    · skip
      refine g_iconst C (-1) ic_m1 dX3_putLaw_52 ?_
      refine g_st [.int (eA (if Y.1 = 2 then Y.2.2 2 else 256)), .int (nI (Y.2.2 1)), .int (nI (Y.2.2 0)), .ref l0] (by first | (rw [if_pos (show Y.1 = 2 by omega), eA_n (show Y.2.2 2 ≠ 256 by omega)]; done) | (rw [if_neg (show ¬ Y.1 = 2 by omega)]; done) | (rw [if_neg (show ¬ Y.1 = 2 by omega)]; rfl)) ?_
      refine g_callV C (nA := 3) (ci := 2) (q0 := 0) (As := [.int (nI (Y.2.2 0)), .int (nI (Y.2.2 1)), .int (eA (if Y.1 = 2 then Y.2.2 2 else 256))]) (wr := [(y0, .inr (1, [.ref y1, .int (nI (Y.1)), .int (nI (Y.2.1))])), (y1, .inl (ty 0, 3, .inl (tI Y.2.2))), (l1, .inr (0, [.ref l3])), (l3, .inl (ty 1, 4, .inr (.inl (zM P.2.1))))]) (k_X4_addRule l D ty l0 l1 l2 P.2.2.1 P.2.2.2 (Y.2.2 0) (Y.2.2 1) (if Y.1 = 2 then Y.2.2 2 else 256) (by omega) (by omega) (by omega)) wm_X3_70 wn_X4_addRule wv_X4_addRule wi_X4 wc_X4_addRule rfl (by decide +kernel) ⟨(Nat.le_of_ble_eq_true rfl), (Nat.le_of_ble_eq_true rfl)⟩ ⟨rfl, rfl⟩ dX3_putLaw_53 ⟨Nat.zero_le _, Nat.zero_le _⟩ rfl rfl rfl [2, 5] [0, 1, 3, 4] rfl rfl rfl rfl (by decide) (Nat.le_of_ble_eq_true rfl) rfl (fun r W1 hp => ?_)
      obtain ⟨rfl, rfl⟩ := hp
      refine g_fix [.int (bI (decide (P.2.2.2 < 6)))] [(y0, .inr (1, [.ref y1, .int (nI (Y.1)), .int (nI (Y.2.1))])), (y1, .inl (ty 0, 3, .inl (tI Y.2.2))), (l0, .inr (2, [.ref l1, .ref l2, .int (nI (if P.2.2.2 < 6 then P.2.2.2 + 1 else P.2.2.2))])), (l1, .inr (0, [.ref l3])), (l3, .inl (ty 1, 4, .inr (.inl (zM P.2.1)))), (l2, .inl (ty 0, 18, .inl (eR (if P.2.2.2 < 6 then aR P.2.2.1 P.2.2.2 (Y.2.2 0) (Y.2.2 1) (if Y.1 = 2 then Y.2.2 2 else 256) else P.2.2.1))))] [0, 1, 4, 2, 3, 5] rfl rfl rfl ?_
      have hpl : (P.2.2.2 < 6 ∧ plw Y P = some (P.1 + 1, P.2.1, aR P.2.2.1 P.2.2.2 (Y.2.2 0) (Y.2.2 1) (if Y.1 = 2 then Y.2.2 2 else 256), P.2.2.2 + 1)) ∨ (¬ P.2.2.2 < 6 ∧ plw Y P = none) := by
        by_cases z : P.2.2.2 < 6
        · exact Or.inl ⟨z, plw_1 (by omega) z⟩
        · exact Or.inr ⟨z, plw_2 (by omega) z⟩
      exact g_zret E (decide (P.2.2.2 < 6)) rfl dX3_putLaw_56 (by decide) (by decide) ⟨(by rcases hpl with ⟨z, e9⟩ | ⟨z, e9⟩ <;> rw [e9] <;> simp [z]), (by rcases hpl with ⟨z, e9⟩ | ⟨z, e9⟩ <;> rw [e9] <;> simp only [z, if_true, if_false] <;> rfl)⟩
    · skip
      refine g_aload_n C 0 rfl dX3_putLaw_43 ?_
      refine g_getf C wu_X3 0 rfl rfl 0 (by decide) wf_X3_9 rfl rfl dX3_putLaw_44 ?_
      refine g_iconst C (nI 2) ic_2 dX3_putLaw_47 ?_
      refine g_iald C 1 rfl 2 rfl (by omega) (by decide) (nI (Y.2.2 2)) rfl dX3_putLaw_48 ?_
      refine g_goto C 53 dX3_putLaw_49 rfl ?_
      refine g_st [.int (eA (if Y.1 = 2 then Y.2.2 2 else 256)), .int (nI (Y.2.2 1)), .int (nI (Y.2.2 0)), .ref l0] (by first | (rw [if_pos (show Y.1 = 2 by omega), eA_n (show Y.2.2 2 ≠ 256 by omega)]; done) | (rw [if_neg (show ¬ Y.1 = 2 by omega)]; done) | (rw [if_neg (show ¬ Y.1 = 2 by omega)]; rfl)) ?_
      refine g_callV C (nA := 3) (ci := 2) (q0 := 0) (As := [.int (nI (Y.2.2 0)), .int (nI (Y.2.2 1)), .int (eA (if Y.1 = 2 then Y.2.2 2 else 256))]) (wr := [(y0, .inr (1, [.ref y1, .int (nI (Y.1)), .int (nI (Y.2.1))])), (y1, .inl (ty 0, 3, .inl (tI Y.2.2))), (l1, .inr (0, [.ref l3])), (l3, .inl (ty 1, 4, .inr (.inl (zM P.2.1))))]) (k_X4_addRule l D ty l0 l1 l2 P.2.2.1 P.2.2.2 (Y.2.2 0) (Y.2.2 1) (if Y.1 = 2 then Y.2.2 2 else 256) (by omega) (by omega) (by omega)) wm_X3_70 wn_X4_addRule wv_X4_addRule wi_X4 wc_X4_addRule rfl (by decide +kernel) ⟨(Nat.le_of_ble_eq_true rfl), (Nat.le_of_ble_eq_true rfl)⟩ ⟨rfl, rfl⟩ dX3_putLaw_53 ⟨Nat.zero_le _, Nat.zero_le _⟩ rfl rfl rfl [2, 5] [0, 1, 3, 4] rfl rfl rfl rfl (by decide) (Nat.le_of_ble_eq_true rfl) rfl (fun r W1 hp => ?_)
      obtain ⟨rfl, rfl⟩ := hp
      refine g_fix [.int (bI (decide (P.2.2.2 < 6)))] [(y0, .inr (1, [.ref y1, .int (nI (Y.1)), .int (nI (Y.2.1))])), (y1, .inl (ty 0, 3, .inl (tI Y.2.2))), (l0, .inr (2, [.ref l1, .ref l2, .int (nI (if P.2.2.2 < 6 then P.2.2.2 + 1 else P.2.2.2))])), (l1, .inr (0, [.ref l3])), (l3, .inl (ty 1, 4, .inr (.inl (zM P.2.1)))), (l2, .inl (ty 0, 18, .inl (eR (if P.2.2.2 < 6 then aR P.2.2.1 P.2.2.2 (Y.2.2 0) (Y.2.2 1) (if Y.1 = 2 then Y.2.2 2 else 256) else P.2.2.1))))] [0, 1, 4, 2, 3, 5] rfl rfl rfl ?_
      have hpl : (P.2.2.2 < 6 ∧ plw Y P = some (P.1 + 1, P.2.1, aR P.2.2.1 P.2.2.2 (Y.2.2 0) (Y.2.2 1) (if Y.1 = 2 then Y.2.2 2 else 256), P.2.2.2 + 1)) ∨ (¬ P.2.2.2 < 6 ∧ plw Y P = none) := by
        by_cases z : P.2.2.2 < 6
        · exact Or.inl ⟨z, plw_1 (by omega) z⟩
        · exact Or.inr ⟨z, plw_2 (by omega) z⟩
      exact g_zret E (decide (P.2.2.2 < 6)) rfl dX3_putLaw_56 (by decide) (by decide) ⟨(by rcases hpl with ⟨z, e9⟩ | ⟨z, e9⟩ <;> rw [e9] <;> simp [z]), (by rcases hpl with ⟨z, e9⟩ | ⟨z, e9⟩ <;> rw [e9] <;> simp only [z, if_true, if_false] <;> rfl)⟩
  · skip
    refine g_aload_n C 1 rfl dX3_putLaw_7 ?_
    refine g_getf C wu_X4 2 rfl rfl 0 (by decide) wf_X3_58 rfl rfl dX3_putLaw_8 ?_
    refine g_aload_n C 0 rfl dX3_putLaw_11 ?_
    refine g_getf C wu_X3 0 rfl rfl 0 (by decide) wf_X3_9 rfl rfl dX3_putLaw_12 ?_
    refine g_iconst C (nI 0) ic_0 dX3_putLaw_15 ?_
    refine g_iald C 1 rfl 0 rfl (by omega) (by decide) (nI (Y.2.2 0)) rfl dX3_putLaw_16 ?_
    refine g_callV C (nA := 1) (ci := 0) (q0 := 0) (As := [.int (nI (Y.2.2 0))]) (wr := [(y0, .inr (1, [.ref y1, .int (nI (Y.1)), .int (nI (Y.2.1))])), (y1, .inl (ty 0, 3, .inl (tI Y.2.2))), (l0, .inr (2, [.ref l1, .ref l2, .int (nI (P.2.2.2))])), (l2, .inl (ty 0, 18, .inl (eR P.2.2.1)))]) (k_X2_put l D ty l1 l3 P.2.1 (Y.2.2 0) (by omega)) wm_X3_64 wn_X2_put wv_X2_put wi_X2 wc_X2_put rfl (by decide +kernel) ⟨(Nat.le_of_ble_eq_true rfl), (Nat.le_of_ble_eq_true rfl)⟩ ⟨rfl, rfl⟩ dX3_putLaw_17 ⟨Nat.zero_le _, Nat.zero_le _⟩ rfl rfl rfl [3, 4] [0, 1, 2, 5] rfl rfl rfl rfl (by decide) (Nat.le_of_ble_eq_true rfl) rfl (fun r W1 hp => ?_)
    obtain ⟨rfl, rfl⟩ := hp
    refine g_fix [] [(y0, .inr (1, [.ref y1, .int (nI (Y.1)), .int (nI (Y.2.1))])), (y1, .inl (ty 0, 3, .inl (tI Y.2.2))), (l0, .inr (2, [.ref l1, .ref l2, .int (nI (P.2.2.2))])), (l1, .inr (0, [.ref l3])), (l3, .inl (ty 1, 4, .inr (.inl (zM (zPut P.2.1 (Y.2.2 0)))))), (l2, .inl (ty 0, 18, .inl (eR P.2.2.1)))] [0, 1, 2, 4, 5, 3] rfl rfl rfl ?_
    refine g_iconst C (nI 1) ic_1 dX3_putLaw_20 ?_
    exact g_zret E true rfl dX3_putLaw_21 (by decide) (by decide) ⟨(by rw [plw_0 (by omega)]; rfl), (by rw [plw_0 (by omega)]; rfl)⟩
def r_X3_putLaws : Room := { frames := 4, cells := 0, slots := 0, locals := 85 }
set_option maxRecDepth 100000 in
set_option maxHeartbeats 4000000 in
theorem k_X3_putLaws (l : Launch) (D : va_G) (ty : Nat → ClassId) (y0 : Nat) (y1 : Nat) (Y : YT) (t0 : Nat) (t1 : Nat) (b : Nat → Nat) (len : Nat) (l0 : Nat) (l1 : Nat) (l2 : Nat) (l3 : Nat) (T : Nat → Bool) (q : Nat → Nat) (nr : Nat) (hY : okY Y) (hl : len ≤ 60) (hb : ∀ j, j < len → b j < 128) (h6 : nr ≤ 6) : gM l D ty yX3_putLaws cX3_putLaws 5 (some (FieldType.int : FieldType)) r_X3_putLaws 0 0 [.ref y0, .ref t0, .ref l0] [(y0, .inr (1, [.ref y1, .int (nI (Y.1)), .int (nI (Y.2.1))])), (y1, .inl (ty 0, 3, .inl (tI Y.2.2))), (t0, .inr (4, [.ref t1, .int (nI len)])), (t1, .inl (ty 0, 60, .inl (tI b))), (l0, .inr (2, [.ref l1, .ref l2, .int (nI nr)])), (l1, .inr (0, [.ref l3])), (l3, .inl (ty 1, 4, .inr (.inl (zM T)))), (l2, .inl (ty 0, 18, .inl (eR q)))] (fun (zr : Option Value) (zW : va_W) => ∃ (Y9 : YT) (P9 : PT), okY Y9 ∧ P9.2.2.2 ≤ 6 ∧ (∀ P2, pst b Y.2.2 len (0, T, q, nr) (len + 1) = some P2 → P9 = P2) ∧ zr = some (.int (gtN (pst b Y.2.2 len (0, T, q, nr) (len + 1)))) ∧ zW = [(y0, .inr (1, [.ref y1, .int (nI (Y9.1)), .int (nI (Y9.2.1))])), (y1, .inl (ty 0, 3, .inl (tI Y9.2.2))), (t0, .inr (4, [.ref t1, .int (nI len)])), (t1, .inl (ty 0, 60, .inl (tI b))), (l0, .inr (2, [.ref l1, .ref l2, .int (nI (P9.2.2.2))])), (l1, .inr (0, [.ref l3])), (l3, .inl (ty 1, 4, .inr (.inl (zM P9.2.1)))), (l2, .inl (ty 0, 18, .inl (eR P9.2.2.1)))]) := by
  have hry : ∀ n, okY (ry b Y.2.2 n) := okY_ry hY.2.2.1
  refine gM_of RX3 rfl (by decide +kernel) (Nat.le_of_ble_eq_true rfl) ?_
  intro pg en s0 mi ag bl mth cd AA HH QQ C E hnm
  show gW pg l en r_X3_putLaws s0 mi ag bl mth cd 5 D AA HH QQ 0 [(0, .ref y0), (1, .ref t0), (2, .ref l0)] [] [(y0, .inr (1, [.ref y1, .int (nI (Y.1)), .int (nI (Y.2.1))])), (y1, .inl (ty 0, 3, .inl (tI Y.2.2))), (t0, .inr (4, [.ref t1, .int (nI len)])), (t1, .inl (ty 0, 60, .inl (tI b))), (l0, .inr (2, [.ref l1, .ref l2, .int (nI nr)])), (l1, .inr (0, [.ref l3])), (l3, .inl (ty 1, 4, .inr (.inl (zM T)))), (l2, .inl (ty 0, 18, .inl (eR q)))] 0 0
  refine g_aload_n C 0 rfl dX3_putLaws_0 ?_
  refine g_callV C (nA := 0) (ci := 1) (q0 := 0) (As := []) (wr := [(y1, .inl (ty 0, 3, .inl (tI Y.2.2))), (t0, .inr (4, [.ref t1, .int (nI len)])), (t1, .inl (ty 0, 60, .inl (tI b))), (l0, .inr (2, [.ref l1, .ref l2, .int (nI nr)])), (l1, .inr (0, [.ref l3])), (l3, .inl (ty 1, 4, .inr (.inl (zM T)))), (l2, .inl (ty 0, 18, .inl (eR q)))]) (k_X3_begin l D ty y0 y1 Y.1 Y.2.1 ) wm_X3_15 wn_X3_begin wv_X3_begin wi_X3 wc_X3_begin rfl (by decide +kernel) ⟨(Nat.le_of_ble_eq_true rfl), (Nat.le_of_ble_eq_true rfl)⟩ ⟨rfl, rfl⟩ dX3_putLaws_1 ⟨Nat.zero_le _, Nat.zero_le _⟩ rfl rfl rfl [0] [1, 2, 3, 4, 5, 6, 7] rfl rfl rfl rfl (by decide) (Nat.le_of_ble_eq_true rfl) rfl (fun r W1 hp => ?_)
  obtain ⟨rfl, rfl⟩ := hp
  refine g_fix [] [(y0, .inr (1, [.ref y1, .int (nI 0), .int (nI 0)])), (y1, .inl (ty 0, 3, .inl (tI Y.2.2))), (t0, .inr (4, [.ref t1, .int (nI len)])), (t1, .inl (ty 0, 60, .inl (tI b))), (l0, .inr (2, [.ref l1, .ref l2, .int (nI nr)])), (l1, .inr (0, [.ref l3])), (l3, .inl (ty 1, 4, .inr (.inl (zM T)))), (l2, .inl (ty 0, 18, .inl (eR q)))] [7, 0, 1, 2, 3, 4, 5, 6] rfl rfl rfl ?_
  refine g_iconst C (nI 0) ic_0 dX3_putLaws_4 ?_
  refine g_istore_n C [(3, .int (nI 0)), (0, .ref y0), (1, .ref t0), (2, .ref l0)] dX3_putLaws_5 rfl (by decide) rfl ?_
  refine g_iconst C (nI 0) ic_0 dX3_putLaws_6 ?_
  refine g_istore C [(4, .int (nI 0)), (3, .int (nI 0)), (0, .ref y0), (1, .ref t0), (2, .ref l0)] dX3_putLaws_7 (by decide) rfl ?_
  refine g_lo [2, 3, 4, 1, 0] [(0, .ref y0), (1, .ref t0), (2, .ref l0), (3, .int (nI 0)), (4, .int (nI 0))] rfl ?_
  have L9 : ∀ (fu9 : Nat) (i : Nat) (P : PT) (Y1 : YT) (hi : i ≤ len + 1) (hP : pst b Y.2.2 len (0, T, q, nr) i = some P) (hY1 : okY Y1) (hYi : i ≤ len → Y1 = ry b Y.2.2 i), (len + 1 - i) < fu9 → gW pg l en r_X3_putLaws s0 mi ag bl mth cd 5 D AA HH QQ 9 [(0, .ref y0), (1, .ref t0), (2, .ref l0), (3, .int (nI (P.1))), (4, .int (nI i))] [] [(y0, .inr (1, [.ref y1, .int (nI (Y1.1)), .int (nI (Y1.2.1))])), (y1, .inl (ty 0, 3, .inl (tI Y1.2.2))), (t0, .inr (4, [.ref t1, .int (nI len)])), (t1, .inl (ty 0, 60, .inl (tI b))), (l0, .inr (2, [.ref l1, .ref l2, .int (nI (P.2.2.2))])), (l1, .inr (0, [.ref l3])), (l3, .inl (ty 1, 4, .inr (.inl (zM P.2.1)))), (l2, .inl (ty 0, 18, .inl (eR P.2.2.1)))] 0 0 := by
    intro fu9
    induction fu9 with
    | zero => intro i P Y1 hi hP hY1 hYi hfu; exact absurd hfu (Nat.not_lt_zero _)
    | succ fu9 ih9 =>
      intro i P Y1 hi hP hY1 hYi hfu9
      refine g_iload C 4 rfl dX3_putLaws_9 ?_
      refine g_aload_n C 1 rfl dX3_putLaws_11 ?_
      refine g_callV C (nA := 0) (ci := 4) (q0 := 0) (As := []) (wr := [(y0, .inr (1, [.ref y1, .int (nI (Y1.1)), .int (nI (Y1.2.1))])), (y1, .inl (ty 0, 3, .inl (tI Y1.2.2))), (t1, .inl (ty 0, 60, .inl (tI b))), (l0, .inr (2, [.ref l1, .ref l2, .int (nI (P.2.2.2))])), (l1, .inr (0, [.ref l3])), (l3, .inl (ty 1, 4, .inr (.inl (zM P.2.1)))), (l2, .inl (ty 0, 18, .inl (eR P.2.2.1)))]) (k_X6_size l D ty t0 t1 len ) wm_X3_18 wn_X6_size wv_X6_size wi_X6 wc_X6_size rfl (by decide +kernel) ⟨(Nat.le_of_ble_eq_true rfl), (Nat.le_of_ble_eq_true rfl)⟩ ⟨rfl, rfl⟩ dX3_putLaws_12 ⟨Nat.zero_le _, Nat.zero_le _⟩ rfl rfl rfl [2] [0, 1, 3, 4, 5, 6, 7] rfl rfl rfl rfl (by decide) (Nat.le_of_ble_eq_true rfl) rfl (fun r W1 hp => ?_)
      obtain ⟨rfl, rfl⟩ := hp
      refine g_fix [.int (nI len), .int (nI i)] [(y0, .inr (1, [.ref y1, .int (nI (Y1.1)), .int (nI (Y1.2.1))])), (y1, .inl (ty 0, 3, .inl (tI Y1.2.2))), (t0, .inr (4, [.ref t1, .int (nI len)])), (t1, .inl (ty 0, 60, .inl (tI b))), (l0, .inr (2, [.ref l1, .ref l2, .int (nI (P.2.2.2))])), (l1, .inr (0, [.ref l3])), (l3, .inl (ty 1, 4, .inr (.inl (zM P.2.1)))), (l2, .inl (ty 0, 18, .inl (eR P.2.2.1)))] [0, 1, 7, 2, 3, 4, 5, 6] rfl rfl rfl ?_
      refine g_icmp_gtN C i len 68 rfl rfl (by omega) (by omega) dX3_putLaws_15 rfl (fun c15 => ?_) (fun c15 => ?_)
      · skip
        refine g_iload_n C 3 rfl dX3_putLaws_68 ?_
        exact g_iret E dX3_putLaws_69 (by decide) (by decide) ⟨Y1, P, hY1, (pst_six (P := (0, T, q, nr)) h6 hP), (fun P2 z => by rw [show len + 1 = i by omega, hP] at z; exact Option.some.inj z), (by rw [show len + 1 = i by omega, hP]; rfl), rfl⟩
      · skip
        refine g_iload C 4 rfl dX3_putLaws_18 ?_
        refine g_aload_n C 1 rfl dX3_putLaws_20 ?_
        refine g_callV C (nA := 0) (ci := 4) (q0 := 0) (As := []) (wr := [(y0, .inr (1, [.ref y1, .int (nI (Y1.1)), .int (nI (Y1.2.1))])), (y1, .inl (ty 0, 3, .inl (tI Y1.2.2))), (t1, .inl (ty 0, 60, .inl (tI b))), (l0, .inr (2, [.ref l1, .ref l2, .int (nI (P.2.2.2))])), (l1, .inr (0, [.ref l3])), (l3, .inl (ty 1, 4, .inr (.inl (zM P.2.1)))), (l2, .inl (ty 0, 18, .inl (eR P.2.2.1)))]) (k_X6_size l D ty t0 t1 len ) wm_X3_18 wn_X6_size wv_X6_size wi_X6 wc_X6_size rfl (by decide +kernel) ⟨(Nat.le_of_ble_eq_true rfl), (Nat.le_of_ble_eq_true rfl)⟩ ⟨rfl, rfl⟩ dX3_putLaws_21 ⟨Nat.zero_le _, Nat.zero_le _⟩ rfl rfl rfl [2] [0, 1, 3, 4, 5, 6, 7] rfl rfl rfl rfl (by decide) (Nat.le_of_ble_eq_true rfl) rfl (fun r W1 hp => ?_)
        obtain ⟨rfl, rfl⟩ := hp
        refine g_fix [.int (nI len), .int (nI i)] [(y0, .inr (1, [.ref y1, .int (nI (Y1.1)), .int (nI (Y1.2.1))])), (y1, .inl (ty 0, 3, .inl (tI Y1.2.2))), (t0, .inr (4, [.ref t1, .int (nI len)])), (t1, .inl (ty 0, 60, .inl (tI b))), (l0, .inr (2, [.ref l1, .ref l2, .int (nI (P.2.2.2))])), (l1, .inr (0, [.ref l3])), (l3, .inl (ty 1, 4, .inr (.inl (zM P.2.1)))), (l2, .inl (ty 0, 18, .inl (eR P.2.2.1)))] [0, 1, 7, 2, 3, 4, 5, 6] rfl rfl rfl ?_
        refine g_icmp_eqN C i len 38 rfl rfl (by omega) (by omega) dX3_putLaws_24 rfl (fun c24 => ?_) (fun c24 => ?_)
        · skip
          have hyes : i = len ∨ b i = 59 := Or.inl c24
          refine g_iinc C (nI (P.1 + 1)) [(3, .int (nI (P.1 + 1))), (0, .ref y0), (1, .ref t0), (2, .ref l0), (4, .int (nI i))] 3 dX3_putLaws_38 rfl (ii_1 _) (by decide) rfl ?_
          refine g_aload_n C 1 rfl dX3_putLaws_41 ?_
          refine g_aload_n C 3 rfl dX3_putLaws_42 ?_
          refine g_callV C (nA := 1) (ci := 1) (q0 := 0) (As := [.ref l0]) (wr := [(t0, .inr (4, [.ref t1, .int (nI len)])), (t1, .inl (ty 0, 60, .inl (tI b)))]) (k_X3_putLaw l D ty y0 y1 Y1 l0 l1 l2 l3 P hY1 (pst_six (P := (0, T, q, nr)) h6 hP)) wm_X3_54 wn_X3_putLaw wv_X3_putLaw wi_X3 wc_X3_putLaw rfl (by decide +kernel) ⟨(Nat.le_of_ble_eq_true rfl), (Nat.le_of_ble_eq_true rfl)⟩ ⟨rfl, rfl⟩ dX3_putLaws_43 ⟨Nat.zero_le _, Nat.zero_le _⟩ rfl rfl rfl [0, 1, 4, 5, 6, 7] [2, 3] rfl rfl rfl rfl (by decide) (Nat.le_of_ble_eq_true rfl) rfl (fun r W1 hp => ?_)
          obtain ⟨rfl, rfl⟩ := hp
          refine g_fix [.int (bI ((plw Y1 P).isSome))] [(y0, .inr (1, [.ref y1, .int (nI (Y1.1)), .int (nI (Y1.2.1))])), (y1, .inl (ty 0, 3, .inl (tI Y1.2.2))), (t0, .inr (4, [.ref t1, .int (nI len)])), (t1, .inl (ty 0, 60, .inl (tI b))), (l0, .inr (2, [.ref l1, .ref l2, .int (nI ((oT (plw Y1 P) P).2.2.2))])), (l1, .inr (0, [.ref l3])), (l3, .inl (ty 1, 4, .inr (.inl (zM ((oT (plw Y1 P) P).2.1))))), (l2, .inl (ty 0, 18, .inl (eR ((oT (plw Y1 P) P).2.2.1))))] [2, 3, 0, 1, 4, 5, 6, 7] rfl rfl rfl ?_
          refine g_if_neB C ((plw Y1 P).isSome) 51 rfl dX3_putLaws_46 rfl (fun c46 => ?_) (fun c46 => ?_)
          · skip
            obtain ⟨P2, hp2⟩ := Option.isSome_iff_exists.mp c46
            have hP2 : pst b Y.2.2 len (0, T, q, nr) (i + 1) = some P2 := by rw [pst_s hP, if_pos hyes, ← hYi (by omega)]; exact hp2
            have h21 : P.1 + 1 = P2.1 := plw_many hp2
            refine g_ws [(y0, .inr (1, [.ref y1, .int (nI (Y1.1)), .int (nI (Y1.2.1))])), (y1, .inl (ty 0, 3, .inl (tI Y1.2.2))), (t0, .inr (4, [.ref t1, .int (nI len)])), (t1, .inl (ty 0, 60, .inl (tI b))), (l0, .inr (2, [.ref l1, .ref l2, .int (nI (P2.2.2.2))])), (l1, .inr (0, [.ref l3])), (l3, .inl (ty 1, 4, .inr (.inl (zM P2.2.1)))), (l2, .inl (ty 0, 18, .inl (eR P2.2.2.1)))] (by rw [hp2]; rfl) ?_
            refine g_lo2 [(3, .int (nI (P2.1))), (0, .ref y0), (1, .ref t0), (2, .ref l0), (4, .int (nI i))] (by rw [h21]) ?_
            refine g_lo [1, 2, 3, 0, 4] [(0, .ref y0), (1, .ref t0), (2, .ref l0), (3, .int (nI (P2.1))), (4, .int (nI i))] rfl ?_
            have L51 : ∀ (P2 : PT) (hP2 : pst b Y.2.2 len (0, T, q, nr) (i + 1) = some P2), gW pg l en r_X3_putLaws s0 mi ag bl mth cd 5 D AA HH QQ 51 [(0, .ref y0), (1, .ref t0), (2, .ref l0), (3, .int (nI (P2.1))), (4, .int (nI i))] [] [(y0, .inr (1, [.ref y1, .int (nI (Y1.1)), .int (nI (Y1.2.1))])), (y1, .inl (ty 0, 3, .inl (tI Y1.2.2))), (t0, .inr (4, [.ref t1, .int (nI len)])), (t1, .inl (ty 0, 60, .inl (tI b))), (l0, .inr (2, [.ref l1, .ref l2, .int (nI (P2.2.2.2))])), (l1, .inr (0, [.ref l3])), (l3, .inl (ty 1, 4, .inr (.inl (zM P2.2.1)))), (l2, .inl (ty 0, 18, .inl (eR P2.2.2.1)))] 0 0 := by
              intro P2 hP2
              refine g_aload_n C 0 rfl dX3_putLaws_51 ?_
              refine g_aload_n C 1 rfl dX3_putLaws_52 ?_
              refine g_iload C 4 rfl dX3_putLaws_53 ?_
              refine g_callV C (nA := 1) (ci := 4) (q0 := 0) (As := [.int (nI i)]) (wr := [(y0, .inr (1, [.ref y1, .int (nI (Y1.1)), .int (nI (Y1.2.1))])), (y1, .inl (ty 0, 3, .inl (tI Y1.2.2))), (l0, .inr (2, [.ref l1, .ref l2, .int (nI (P2.2.2.2))])), (l1, .inr (0, [.ref l3])), (l3, .inl (ty 1, 4, .inr (.inl (zM P2.2.1)))), (l2, .inl (ty 0, 18, .inl (eR P2.2.2.1)))]) (k_X6_at l D ty t0 t1 b len i (by omega) (by omega) hb) wm_X3_24 wn_X6_at wv_X6_at wi_X6 wc_X6_at rfl (by decide +kernel) ⟨(Nat.le_of_ble_eq_true rfl), (Nat.le_of_ble_eq_true rfl)⟩ ⟨rfl, rfl⟩ dX3_putLaws_55 ⟨Nat.zero_le _, Nat.zero_le _⟩ rfl rfl rfl [2, 3] [0, 1, 4, 5, 6, 7] rfl rfl rfl rfl (by decide) (Nat.le_of_ble_eq_true rfl) rfl (fun r W1 hp => ?_)
              obtain ⟨rfl, rfl⟩ := hp
              refine g_fix [.int (eA (tc b len i)), .ref y0] [(y0, .inr (1, [.ref y1, .int (nI (Y1.1)), .int (nI (Y1.2.1))])), (y1, .inl (ty 0, 3, .inl (tI Y1.2.2))), (t0, .inr (4, [.ref t1, .int (nI len)])), (t1, .inl (ty 0, 60, .inl (tI b))), (l0, .inr (2, [.ref l1, .ref l2, .int (nI (P2.2.2.2))])), (l1, .inr (0, [.ref l3])), (l3, .inl (ty 1, 4, .inr (.inl (zM P2.2.1)))), (l2, .inl (ty 0, 18, .inl (eR P2.2.2.1)))] [0, 1, 6, 7, 2, 3, 4, 5] rfl rfl rfl ?_
              refine g_callV C (nA := 1) (ci := 1) (q0 := 0) (As := [.int (eA (tc b len i))]) (wr := [(t0, .inr (4, [.ref t1, .int (nI len)])), (t1, .inl (ty 0, 60, .inl (tI b))), (l0, .inr (2, [.ref l1, .ref l2, .int (nI (P2.2.2.2))])), (l1, .inr (0, [.ref l3])), (l3, .inl (ty 1, 4, .inr (.inl (zM P2.2.1)))), (l2, .inl (ty 0, 18, .inl (eR P2.2.2.1)))]) (k_X3_takes l D ty y0 y1 Y1 (tc b len i) hY1 (by unfold tc; split; have := hb i (by omega); omega; omega)) wm_X3_28 wn_X3_takes wv_X3_takes wi_X3 wc_X3_takes rfl (by decide +kernel) ⟨(Nat.le_of_ble_eq_true rfl), (Nat.le_of_ble_eq_true rfl)⟩ ⟨rfl, rfl⟩ dX3_putLaws_58 ⟨Nat.zero_le _, Nat.zero_le _⟩ rfl rfl rfl [0, 1] [2, 3, 4, 5, 6, 7] rfl rfl rfl rfl (by decide) (Nat.le_of_ble_eq_true rfl) rfl (fun r W1 hp => ?_)
              obtain ⟨rfl, rfl⟩ := hp
              refine g_fix [.int (bI ((tk (tc b len i) Y1).1))] [(y0, .inr (1, [.ref y1, .int (nI ((tk (tc b len i) Y1).2.1)), .int (nI ((tk (tc b len i) Y1).2.2.1))])), (y1, .inl (ty 0, 3, .inl (tI (tk (tc b len i) Y1).2.2.2))), (t0, .inr (4, [.ref t1, .int (nI len)])), (t1, .inl (ty 0, 60, .inl (tI b))), (l0, .inr (2, [.ref l1, .ref l2, .int (nI (P2.2.2.2))])), (l1, .inr (0, [.ref l3])), (l3, .inl (ty 1, 4, .inr (.inl (zM P2.2.1)))), (l2, .inl (ty 0, 18, .inl (eR P2.2.2.1)))] [6, 7, 0, 1, 2, 3, 4, 5] rfl rfl rfl ?_
              refine g_pop C rfl dX3_putLaws_61 ?_
              refine g_iinc C (nI (i + 1)) [(4, .int (nI (i + 1))), (0, .ref y0), (1, .ref t0), (2, .ref l0), (3, .int (nI (P2.1)))] 4 dX3_putLaws_62 rfl (ii_1 _) (by decide) rfl ?_
              refine g_goto C 9 dX3_putLaws_65 rfl ?_
              refine g_lo [1, 2, 3, 4, 0] [(0, .ref y0), (1, .ref t0), (2, .ref l0), (3, .int (nI (P2.1))), (4, .int (nI (i + 1)))] rfl ?_
              exact ih9 (i + 1) P2 ((tk (tc b len i) Y1).2) (by omega) hP2 (okY_tk hY1 _) (fun hh => by rw [hYi (by omega), show tc b len i = b i from if_pos (by omega)]; rfl) (by omega)
            exact L51 P2 hP2
          · skip
            have hnn : plw Y1 P = none := Option.not_isSome_iff_eq_none.mp (by rw [c46]; decide)
            have hno2 : pst b Y.2.2 len (0, T, q, nr) (len + 1) = none := by
              rw [show len + 1 = (i + 1) + (len - i) by omega]
              exact pst_none (by rw [pst_s hP, if_pos hyes, ← hYi (by omega)]; exact hnn) _
            refine g_iconst C (-1) ic_m1 dX3_putLaws_49 ?_
            exact g_iret E dX3_putLaws_50 (by decide) (by decide) ⟨Y1, (oT (plw Y1 P) P), hY1, (by rw [hnn]; exact pst_six (P := (0, T, q, nr)) h6 hP), (fun P2 z => by rw [hno2] at z; cases z), (by rw [hno2]; rfl), rfl⟩
        · skip
          refine g_aload_n C 1 rfl dX3_putLaws_27 ?_
          refine g_iload C 4 rfl dX3_putLaws_28 ?_
          refine g_callV C (nA := 1) (ci := 4) (q0 := 0) (As := [.int (nI i)]) (wr := [(y0, .inr (1, [.ref y1, .int (nI (Y1.1)), .int (nI (Y1.2.1))])), (y1, .inl (ty 0, 3, .inl (tI Y1.2.2))), (l0, .inr (2, [.ref l1, .ref l2, .int (nI (P.2.2.2))])), (l1, .inr (0, [.ref l3])), (l3, .inl (ty 1, 4, .inr (.inl (zM P.2.1)))), (l2, .inl (ty 0, 18, .inl (eR P.2.2.1)))]) (k_X6_at l D ty t0 t1 b len i (by omega) (by omega) hb) wm_X3_24 wn_X6_at wv_X6_at wi_X6 wc_X6_at rfl (by decide +kernel) ⟨(Nat.le_of_ble_eq_true rfl), (Nat.le_of_ble_eq_true rfl)⟩ ⟨rfl, rfl⟩ dX3_putLaws_30 ⟨Nat.zero_le _, Nat.zero_le _⟩ rfl rfl rfl [2, 3] [0, 1, 4, 5, 6, 7] rfl rfl rfl rfl (by decide) (Nat.le_of_ble_eq_true rfl) rfl (fun r W1 hp => ?_)
          obtain ⟨rfl, rfl⟩ := hp
          refine g_fix [.int (eA (tc b len i))] [(y0, .inr (1, [.ref y1, .int (nI (Y1.1)), .int (nI (Y1.2.1))])), (y1, .inl (ty 0, 3, .inl (tI Y1.2.2))), (t0, .inr (4, [.ref t1, .int (nI len)])), (t1, .inl (ty 0, 60, .inl (tI b))), (l0, .inr (2, [.ref l1, .ref l2, .int (nI (P.2.2.2))])), (l1, .inr (0, [.ref l3])), (l3, .inl (ty 1, 4, .inr (.inl (zM P.2.1)))), (l2, .inl (ty 0, 18, .inl (eR P.2.2.1)))] [0, 1, 6, 7, 2, 3, 4, 5] rfl rfl rfl ?_
          refine g_st [.int (eA (b i))] (by rw [show tc b len i = b i from if_pos (by omega)]) ?_
          refine g_bipush C (nI 59) bp_59 dX3_putLaws_33 ?_
          refine g_icmp_ne C 51 dX3_putLaws_35 rfl (fun c35 => ?_) (fun c35 => ?_)
          · skip
            have hno : ¬ (i = len ∨ b i = 59) := by
              intro z
              rcases z with z | z
              · exact c24 z
              · exact c35 ((eA_eq (b i) (by have := hb i (by omega); omega)).1.mpr z)
            have L51 : ∀ (P2 : PT) (hP2 : pst b Y.2.2 len (0, T, q, nr) (i + 1) = some P2), gW pg l en r_X3_putLaws s0 mi ag bl mth cd 5 D AA HH QQ 51 [(0, .ref y0), (1, .ref t0), (2, .ref l0), (3, .int (nI (P2.1))), (4, .int (nI i))] [] [(y0, .inr (1, [.ref y1, .int (nI (Y1.1)), .int (nI (Y1.2.1))])), (y1, .inl (ty 0, 3, .inl (tI Y1.2.2))), (t0, .inr (4, [.ref t1, .int (nI len)])), (t1, .inl (ty 0, 60, .inl (tI b))), (l0, .inr (2, [.ref l1, .ref l2, .int (nI (P2.2.2.2))])), (l1, .inr (0, [.ref l3])), (l3, .inl (ty 1, 4, .inr (.inl (zM P2.2.1)))), (l2, .inl (ty 0, 18, .inl (eR P2.2.2.1)))] 0 0 := by
              intro P2 hP2
              refine g_aload_n C 0 rfl dX3_putLaws_51 ?_
              refine g_aload_n C 1 rfl dX3_putLaws_52 ?_
              refine g_iload C 4 rfl dX3_putLaws_53 ?_
              refine g_callV C (nA := 1) (ci := 4) (q0 := 0) (As := [.int (nI i)]) (wr := [(y0, .inr (1, [.ref y1, .int (nI (Y1.1)), .int (nI (Y1.2.1))])), (y1, .inl (ty 0, 3, .inl (tI Y1.2.2))), (l0, .inr (2, [.ref l1, .ref l2, .int (nI (P2.2.2.2))])), (l1, .inr (0, [.ref l3])), (l3, .inl (ty 1, 4, .inr (.inl (zM P2.2.1)))), (l2, .inl (ty 0, 18, .inl (eR P2.2.2.1)))]) (k_X6_at l D ty t0 t1 b len i (by omega) (by omega) hb) wm_X3_24 wn_X6_at wv_X6_at wi_X6 wc_X6_at rfl (by decide +kernel) ⟨(Nat.le_of_ble_eq_true rfl), (Nat.le_of_ble_eq_true rfl)⟩ ⟨rfl, rfl⟩ dX3_putLaws_55 ⟨Nat.zero_le _, Nat.zero_le _⟩ rfl rfl rfl [2, 3] [0, 1, 4, 5, 6, 7] rfl rfl rfl rfl (by decide) (Nat.le_of_ble_eq_true rfl) rfl (fun r W1 hp => ?_)
              obtain ⟨rfl, rfl⟩ := hp
              refine g_fix [.int (eA (tc b len i)), .ref y0] [(y0, .inr (1, [.ref y1, .int (nI (Y1.1)), .int (nI (Y1.2.1))])), (y1, .inl (ty 0, 3, .inl (tI Y1.2.2))), (t0, .inr (4, [.ref t1, .int (nI len)])), (t1, .inl (ty 0, 60, .inl (tI b))), (l0, .inr (2, [.ref l1, .ref l2, .int (nI (P2.2.2.2))])), (l1, .inr (0, [.ref l3])), (l3, .inl (ty 1, 4, .inr (.inl (zM P2.2.1)))), (l2, .inl (ty 0, 18, .inl (eR P2.2.2.1)))] [0, 1, 6, 7, 2, 3, 4, 5] rfl rfl rfl ?_
              refine g_callV C (nA := 1) (ci := 1) (q0 := 0) (As := [.int (eA (tc b len i))]) (wr := [(t0, .inr (4, [.ref t1, .int (nI len)])), (t1, .inl (ty 0, 60, .inl (tI b))), (l0, .inr (2, [.ref l1, .ref l2, .int (nI (P2.2.2.2))])), (l1, .inr (0, [.ref l3])), (l3, .inl (ty 1, 4, .inr (.inl (zM P2.2.1)))), (l2, .inl (ty 0, 18, .inl (eR P2.2.2.1)))]) (k_X3_takes l D ty y0 y1 Y1 (tc b len i) hY1 (by unfold tc; split; have := hb i (by omega); omega; omega)) wm_X3_28 wn_X3_takes wv_X3_takes wi_X3 wc_X3_takes rfl (by decide +kernel) ⟨(Nat.le_of_ble_eq_true rfl), (Nat.le_of_ble_eq_true rfl)⟩ ⟨rfl, rfl⟩ dX3_putLaws_58 ⟨Nat.zero_le _, Nat.zero_le _⟩ rfl rfl rfl [0, 1] [2, 3, 4, 5, 6, 7] rfl rfl rfl rfl (by decide) (Nat.le_of_ble_eq_true rfl) rfl (fun r W1 hp => ?_)
              obtain ⟨rfl, rfl⟩ := hp
              refine g_fix [.int (bI ((tk (tc b len i) Y1).1))] [(y0, .inr (1, [.ref y1, .int (nI ((tk (tc b len i) Y1).2.1)), .int (nI ((tk (tc b len i) Y1).2.2.1))])), (y1, .inl (ty 0, 3, .inl (tI (tk (tc b len i) Y1).2.2.2))), (t0, .inr (4, [.ref t1, .int (nI len)])), (t1, .inl (ty 0, 60, .inl (tI b))), (l0, .inr (2, [.ref l1, .ref l2, .int (nI (P2.2.2.2))])), (l1, .inr (0, [.ref l3])), (l3, .inl (ty 1, 4, .inr (.inl (zM P2.2.1)))), (l2, .inl (ty 0, 18, .inl (eR P2.2.2.1)))] [6, 7, 0, 1, 2, 3, 4, 5] rfl rfl rfl ?_
              refine g_pop C rfl dX3_putLaws_61 ?_
              refine g_iinc C (nI (i + 1)) [(4, .int (nI (i + 1))), (0, .ref y0), (1, .ref t0), (2, .ref l0), (3, .int (nI (P2.1)))] 4 dX3_putLaws_62 rfl (ii_1 _) (by decide) rfl ?_
              refine g_goto C 9 dX3_putLaws_65 rfl ?_
              refine g_lo [1, 2, 3, 4, 0] [(0, .ref y0), (1, .ref t0), (2, .ref l0), (3, .int (nI (P2.1))), (4, .int (nI (i + 1)))] rfl ?_
              exact ih9 (i + 1) P2 ((tk (tc b len i) Y1).2) (by omega) hP2 (okY_tk hY1 _) (fun hh => by rw [hYi (by omega), show tc b len i = b i from if_pos (by omega)]; rfl) (by omega)
            exact L51 P (by rw [pst_s hP, if_neg hno])
          · skip
            have hyes : i = len ∨ b i = 59 := Or.inr ((eA_eq (b i) (by have := hb i (by omega); omega)).1.mp c35)
            refine g_iinc C (nI (P.1 + 1)) [(3, .int (nI (P.1 + 1))), (0, .ref y0), (1, .ref t0), (2, .ref l0), (4, .int (nI i))] 3 dX3_putLaws_38 rfl (ii_1 _) (by decide) rfl ?_
            refine g_aload_n C 1 rfl dX3_putLaws_41 ?_
            refine g_aload_n C 3 rfl dX3_putLaws_42 ?_
            refine g_callV C (nA := 1) (ci := 1) (q0 := 0) (As := [.ref l0]) (wr := [(t0, .inr (4, [.ref t1, .int (nI len)])), (t1, .inl (ty 0, 60, .inl (tI b)))]) (k_X3_putLaw l D ty y0 y1 Y1 l0 l1 l2 l3 P hY1 (pst_six (P := (0, T, q, nr)) h6 hP)) wm_X3_54 wn_X3_putLaw wv_X3_putLaw wi_X3 wc_X3_putLaw rfl (by decide +kernel) ⟨(Nat.le_of_ble_eq_true rfl), (Nat.le_of_ble_eq_true rfl)⟩ ⟨rfl, rfl⟩ dX3_putLaws_43 ⟨Nat.zero_le _, Nat.zero_le _⟩ rfl rfl rfl [0, 1, 4, 5, 6, 7] [2, 3] rfl rfl rfl rfl (by decide) (Nat.le_of_ble_eq_true rfl) rfl (fun r W1 hp => ?_)
            obtain ⟨rfl, rfl⟩ := hp
            refine g_fix [.int (bI ((plw Y1 P).isSome))] [(y0, .inr (1, [.ref y1, .int (nI (Y1.1)), .int (nI (Y1.2.1))])), (y1, .inl (ty 0, 3, .inl (tI Y1.2.2))), (t0, .inr (4, [.ref t1, .int (nI len)])), (t1, .inl (ty 0, 60, .inl (tI b))), (l0, .inr (2, [.ref l1, .ref l2, .int (nI ((oT (plw Y1 P) P).2.2.2))])), (l1, .inr (0, [.ref l3])), (l3, .inl (ty 1, 4, .inr (.inl (zM ((oT (plw Y1 P) P).2.1))))), (l2, .inl (ty 0, 18, .inl (eR ((oT (plw Y1 P) P).2.2.1))))] [2, 3, 0, 1, 4, 5, 6, 7] rfl rfl rfl ?_
            refine g_if_neB C ((plw Y1 P).isSome) 51 rfl dX3_putLaws_46 rfl (fun c46 => ?_) (fun c46 => ?_)
            · skip
              obtain ⟨P2, hp2⟩ := Option.isSome_iff_exists.mp c46
              have hP2 : pst b Y.2.2 len (0, T, q, nr) (i + 1) = some P2 := by rw [pst_s hP, if_pos hyes, ← hYi (by omega)]; exact hp2
              have h21 : P.1 + 1 = P2.1 := plw_many hp2
              refine g_ws [(y0, .inr (1, [.ref y1, .int (nI (Y1.1)), .int (nI (Y1.2.1))])), (y1, .inl (ty 0, 3, .inl (tI Y1.2.2))), (t0, .inr (4, [.ref t1, .int (nI len)])), (t1, .inl (ty 0, 60, .inl (tI b))), (l0, .inr (2, [.ref l1, .ref l2, .int (nI (P2.2.2.2))])), (l1, .inr (0, [.ref l3])), (l3, .inl (ty 1, 4, .inr (.inl (zM P2.2.1)))), (l2, .inl (ty 0, 18, .inl (eR P2.2.2.1)))] (by rw [hp2]; rfl) ?_
              refine g_lo2 [(3, .int (nI (P2.1))), (0, .ref y0), (1, .ref t0), (2, .ref l0), (4, .int (nI i))] (by rw [h21]) ?_
              refine g_lo [1, 2, 3, 0, 4] [(0, .ref y0), (1, .ref t0), (2, .ref l0), (3, .int (nI (P2.1))), (4, .int (nI i))] rfl ?_
              have L51 : ∀ (P2 : PT) (hP2 : pst b Y.2.2 len (0, T, q, nr) (i + 1) = some P2), gW pg l en r_X3_putLaws s0 mi ag bl mth cd 5 D AA HH QQ 51 [(0, .ref y0), (1, .ref t0), (2, .ref l0), (3, .int (nI (P2.1))), (4, .int (nI i))] [] [(y0, .inr (1, [.ref y1, .int (nI (Y1.1)), .int (nI (Y1.2.1))])), (y1, .inl (ty 0, 3, .inl (tI Y1.2.2))), (t0, .inr (4, [.ref t1, .int (nI len)])), (t1, .inl (ty 0, 60, .inl (tI b))), (l0, .inr (2, [.ref l1, .ref l2, .int (nI (P2.2.2.2))])), (l1, .inr (0, [.ref l3])), (l3, .inl (ty 1, 4, .inr (.inl (zM P2.2.1)))), (l2, .inl (ty 0, 18, .inl (eR P2.2.2.1)))] 0 0 := by
                intro P2 hP2
                refine g_aload_n C 0 rfl dX3_putLaws_51 ?_
                refine g_aload_n C 1 rfl dX3_putLaws_52 ?_
                refine g_iload C 4 rfl dX3_putLaws_53 ?_
                refine g_callV C (nA := 1) (ci := 4) (q0 := 0) (As := [.int (nI i)]) (wr := [(y0, .inr (1, [.ref y1, .int (nI (Y1.1)), .int (nI (Y1.2.1))])), (y1, .inl (ty 0, 3, .inl (tI Y1.2.2))), (l0, .inr (2, [.ref l1, .ref l2, .int (nI (P2.2.2.2))])), (l1, .inr (0, [.ref l3])), (l3, .inl (ty 1, 4, .inr (.inl (zM P2.2.1)))), (l2, .inl (ty 0, 18, .inl (eR P2.2.2.1)))]) (k_X6_at l D ty t0 t1 b len i (by omega) (by omega) hb) wm_X3_24 wn_X6_at wv_X6_at wi_X6 wc_X6_at rfl (by decide +kernel) ⟨(Nat.le_of_ble_eq_true rfl), (Nat.le_of_ble_eq_true rfl)⟩ ⟨rfl, rfl⟩ dX3_putLaws_55 ⟨Nat.zero_le _, Nat.zero_le _⟩ rfl rfl rfl [2, 3] [0, 1, 4, 5, 6, 7] rfl rfl rfl rfl (by decide) (Nat.le_of_ble_eq_true rfl) rfl (fun r W1 hp => ?_)
                obtain ⟨rfl, rfl⟩ := hp
                refine g_fix [.int (eA (tc b len i)), .ref y0] [(y0, .inr (1, [.ref y1, .int (nI (Y1.1)), .int (nI (Y1.2.1))])), (y1, .inl (ty 0, 3, .inl (tI Y1.2.2))), (t0, .inr (4, [.ref t1, .int (nI len)])), (t1, .inl (ty 0, 60, .inl (tI b))), (l0, .inr (2, [.ref l1, .ref l2, .int (nI (P2.2.2.2))])), (l1, .inr (0, [.ref l3])), (l3, .inl (ty 1, 4, .inr (.inl (zM P2.2.1)))), (l2, .inl (ty 0, 18, .inl (eR P2.2.2.1)))] [0, 1, 6, 7, 2, 3, 4, 5] rfl rfl rfl ?_
                refine g_callV C (nA := 1) (ci := 1) (q0 := 0) (As := [.int (eA (tc b len i))]) (wr := [(t0, .inr (4, [.ref t1, .int (nI len)])), (t1, .inl (ty 0, 60, .inl (tI b))), (l0, .inr (2, [.ref l1, .ref l2, .int (nI (P2.2.2.2))])), (l1, .inr (0, [.ref l3])), (l3, .inl (ty 1, 4, .inr (.inl (zM P2.2.1)))), (l2, .inl (ty 0, 18, .inl (eR P2.2.2.1)))]) (k_X3_takes l D ty y0 y1 Y1 (tc b len i) hY1 (by unfold tc; split; have := hb i (by omega); omega; omega)) wm_X3_28 wn_X3_takes wv_X3_takes wi_X3 wc_X3_takes rfl (by decide +kernel) ⟨(Nat.le_of_ble_eq_true rfl), (Nat.le_of_ble_eq_true rfl)⟩ ⟨rfl, rfl⟩ dX3_putLaws_58 ⟨Nat.zero_le _, Nat.zero_le _⟩ rfl rfl rfl [0, 1] [2, 3, 4, 5, 6, 7] rfl rfl rfl rfl (by decide) (Nat.le_of_ble_eq_true rfl) rfl (fun r W1 hp => ?_)
                obtain ⟨rfl, rfl⟩ := hp
                refine g_fix [.int (bI ((tk (tc b len i) Y1).1))] [(y0, .inr (1, [.ref y1, .int (nI ((tk (tc b len i) Y1).2.1)), .int (nI ((tk (tc b len i) Y1).2.2.1))])), (y1, .inl (ty 0, 3, .inl (tI (tk (tc b len i) Y1).2.2.2))), (t0, .inr (4, [.ref t1, .int (nI len)])), (t1, .inl (ty 0, 60, .inl (tI b))), (l0, .inr (2, [.ref l1, .ref l2, .int (nI (P2.2.2.2))])), (l1, .inr (0, [.ref l3])), (l3, .inl (ty 1, 4, .inr (.inl (zM P2.2.1)))), (l2, .inl (ty 0, 18, .inl (eR P2.2.2.1)))] [6, 7, 0, 1, 2, 3, 4, 5] rfl rfl rfl ?_
                refine g_pop C rfl dX3_putLaws_61 ?_
                refine g_iinc C (nI (i + 1)) [(4, .int (nI (i + 1))), (0, .ref y0), (1, .ref t0), (2, .ref l0), (3, .int (nI (P2.1)))] 4 dX3_putLaws_62 rfl (ii_1 _) (by decide) rfl ?_
                refine g_goto C 9 dX3_putLaws_65 rfl ?_
                refine g_lo [1, 2, 3, 4, 0] [(0, .ref y0), (1, .ref t0), (2, .ref l0), (3, .int (nI (P2.1))), (4, .int (nI (i + 1)))] rfl ?_
                exact ih9 (i + 1) P2 ((tk (tc b len i) Y1).2) (by omega) hP2 (okY_tk hY1 _) (fun hh => by rw [hYi (by omega), show tc b len i = b i from if_pos (by omega)]; rfl) (by omega)
              exact L51 P2 hP2
            · skip
              have hnn : plw Y1 P = none := Option.not_isSome_iff_eq_none.mp (by rw [c46]; decide)
              have hno2 : pst b Y.2.2 len (0, T, q, nr) (len + 1) = none := by
                rw [show len + 1 = (i + 1) + (len - i) by omega]
                exact pst_none (by rw [pst_s hP, if_pos hyes, ← hYi (by omega)]; exact hnn) _
              refine g_iconst C (-1) ic_m1 dX3_putLaws_49 ?_
              exact g_iret E dX3_putLaws_50 (by decide) (by decide) ⟨Y1, (oT (plw Y1 P) P), hY1, (by rw [hnn]; exact pst_six (P := (0, T, q, nr)) h6 hP), (fun P2 z => by rw [hno2] at z; cases z), (by rw [hno2]; rfl), rfl⟩
  exact L9 (len + 1 - 0 + 1) 0 ((0, T, q, nr)) ((0, 0, Y.2.2)) (by omega) rfl (hry 0) (fun _ => rfl) (Nat.lt_succ_self _)
