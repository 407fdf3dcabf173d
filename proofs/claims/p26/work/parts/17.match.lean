/-! the rounds: what a match does, a rule, a round, all of them -/
def isF (a : Nat) : Bool := decide ((a / 8 % 8 < 4 ∧ a % 8 ≤ 4) ∨ (a / 8 % 8 = 4 ∧ a % 8 ≤ 5))
def okF (S : Nat → Bool) : Prop := ∀ a, S a = true → isF a = true ∧ a < 256
theorem isF_5 {a : Nat} (h : isF a = true) : a / 8 % 8 ≤ 5 ∧ a % 8 ≤ 5 := by unfold isF at h; simp at h; omega
theorem isA_N {a : Nat} (h : a < 256) : isA (nI a) = true := by
  unfold isA
  simp only [decide_eq_true_eq]
  exact ⟨nI_pos (by omega), nI_ge h (by decide)⟩
theorem rs_lt {L : Nat → Nat} {h : Nat} (hh : h < 256) : rs L h < 256 := by unfold rs; grind
abbrev XT : Type := Nat × (Nat → Bool) × (Nat → Nat)
def upN (f : Nat → Nat) (a v : Nat) : Nat → Nat := fun j => if j = a then v else f j
/-- a match: its result, if it is new -/
def stp (G : Nat → Bool) (lk : Option (Nat → Nat)) (h k : Nat) (X : XT) : XT := match lk with
  | none => X
  | some L => if G (rs L h) = true then (X.1 + 1, X.2) else if X.2.1 (rs L h) = true then (X.1 + 1, X.2) else (X.1 + 1, zPut X.2.1 (rs L h), upN X.2.2 (rs L h) k)
/-- the second part's facts below n -/
def in2 (F G : Nat → Bool) (L : Nat → Nat) (o h k : Nat) : Nat → XT → XT
  | 0, X => X
  | n + 1, X => if F (64 * (o / 64) + n) = true then stp G (al L o n 6) h k (in2 F G L o h k n X) else in2 F G L o h k n X
def idL : Nat → Nat := fun t => t
/-- the first part's facts below n -/
def pl (F G : Nat → Bool) (one o h k : Nat) : Nat → XT → XT
  | 0, X => X
  | n + 1, X => if F (64 * (one / 64) + n) = true then (match al idL one n 4 with
      | none => pl F G one o h k n X
      | some L => if o = 256 then stp G (some L) h k (pl F G one o h k n X) else in2 F G L o h k 38 (pl F G one o h k n X))
    else pl F G one o h k n X
/-- the rules below n -/
def rus (F G : Nat → Bool) (q : Nat → Nat) : Nat → XT → XT
  | 0, X => X
  | n + 1, X => pl F G (q (3 * n + 1)) (q (3 * n + 2)) (q (3 * n)) n 38 (rus F G q n X)
def roA (U : Nat → Bool) (rd : Nat) (ro : Nat → Int32) : Nat → Int32 := fun a => if U a = true then nI (rd + 1) else ro a
def ruA (U : Nat → Bool) (b : Nat → Nat) (ru : Nat → Int32) : Nat → Int32 := fun a => if U a = true then nI (b a) else ru a
theorem roA_put (U : Nat → Bool) (rd : Nat) (ro : Nat → Int32) (a : Nat) : upd (roA U rd ro) a (nI (rd + 1)) = roA (zPut U a) rd ro := by
  funext j
  unfold upd roA zPut
  by_cases h : j = a <;> simp [h]
theorem ruA_put (U : Nat → Bool) (b : Nat → Nat) (ru : Nat → Int32) (a k : Nat) : upd (ruA U b ru) a (nI k) = ruA (zPut U a) (upN b a k) ru := by
  funext j
  unfold upd ruA zPut upN
  by_cases h : j = a <;> simp [h]
theorem roA_no (rd : Nat) (ro : Nat → Int32) : roA zNo rd ro = ro := by funext j; simp [roA, zNo]
theorem ruA_no (b : Nat → Nat) (ru : Nat → Int32) : ruA zNo b ru = ru := by funext j; simp [ruA, zNo]
theorem vl_id : vl idL := fun t _ => ⟨Nat.le_refl _, rfl⟩
theorem zpk_id : (205163983024656 : Int64) = lN (zpk idL 12) := by decide +kernel

def r_X5_takeMatch : Room := { frames := 2, cells := 0, slots := 0, locals := 48 }
set_option maxRecDepth 100000 in
set_option maxHeartbeats 4000000 in
theorem k_X5_takeMatch (l : Launch) (D : va_G) (ty : Nat → ClassId) (r0 : Nat) (a0 : Nat) (b0 : Nat) (b1 : Nat) (c0 : Nat) (c1 : Nat) (d0 : Nat) (e0 : Nat) (f0 : Nat) (rd : Nat) (dr : Nat) (G : Nat → Bool) (ro : Nat → Int32) (ru : Nat → Int32) (lk : Option (Nat → Nat)) (h : Nat) (k : Nat) (X : XT) (hl : ∀ L, lk = some L → vl L) (hh : h < 256) : gM l D ty yX5_takeMatch cX5_takeMatch 6 none r_X5_takeMatch 0 0 [.ref r0, .long (eL lk), .int (nI h), .int (nI k)] [(r0, .inr (3, [.ref a0, .ref b0, .int (nI rd), .int (nI (X.1)), .int (nI dr), .ref c0, .ref d0, .ref e0, .ref f0])), (b0, .inr (0, [.ref b1])), (b1, .inl (ty 1, 4, .inr (.inl (zM G)))), (c0, .inr (0, [.ref c1])), (c1, .inl (ty 1, 4, .inr (.inl (zM X.2.1)))), (d0, .inl (ty 0, 256, .inl (roA X.2.1 rd ro))), (e0, .inl (ty 0, 256, .inl (ruA X.2.1 X.2.2 ru)))] (fun (zr : Option Value) (zW : va_W) => zr = none ∧ zW = [(r0, .inr (3, [.ref a0, .ref b0, .int (nI rd), .int (nI ((stp G lk h k X).1)), .int (nI dr), .ref c0, .ref d0, .ref e0, .ref f0])), (b0, .inr (0, [.ref b1])), (b1, .inl (ty 1, 4, .inr (.inl (zM G)))), (c0, .inr (0, [.ref c1])), (c1, .inl (ty 1, 4, .inr (.inl (zM ((stp G lk h k X).2.1))))), (d0, .inl (ty 0, 256, .inl (roA (stp G lk h k X).2.1 rd ro))), (e0, .inl (ty 0, 256, .inl (ruA (stp G lk h k X).2.1 (stp G lk h k X).2.2 ru)))]) := by
  refine gM_of RX5 rfl (by decide +kernel) (Nat.le_of_ble_eq_true rfl) ?_
  intro pg en s0 mi ag bl mth cd AA HH QQ C E hnm
  show gW pg l en r_X5_takeMatch s0 mi ag bl mth cd 6 D AA HH QQ 0 [(0, .ref r0), (1, .long (eL lk)), (3, .int (nI h)), (4, .int (nI k))] [] [(r0, .inr (3, [.ref a0, .ref b0, .int (nI rd), .int (nI (X.1)), .int (nI dr), .ref c0, .ref d0, .ref e0, .ref f0])), (b0, .inr (0, [.ref b1])), (b1, .inl (ty 1, 4, .inr (.inl (zM G)))), (c0, .inr (0, [.ref c1])), (c1, .inl (ty 1, 4, .inr (.inl (zM X.2.1)))), (d0, .inl (ty 0, 256, .inl (roA X.2.1 rd ro))), (e0, .inl (ty 0, 256, .inl (ruA X.2.1 X.2.2 ru)))] 0 0
  refine g_lload_n C 1 rfl dX5_takeMatch_0 ?_
  refine g_ldc2 C wd_X5_109 dX5_takeMatch_1 ?_
  refine g_lcmp C (bI (lk.isSome)) (eL_cmp lk hl) dX5_takeMatch_4 ?_
  refine g_if_neB C lk.isSome 9 rfl dX5_takeMatch_5 rfl (fun c5 => ?_) (fun c5 => ?_)
  · skip
    obtain ⟨L, rfl⟩ := Option.isSome_iff_exists.mp c5
    have hL := hl L rfl
    have hrs := rs_lt (L := L) hh
    refine g_lo2 [(0, .ref r0), (1, .long (lN (zpk L 12))), (3, .int (nI h)), (4, .int (nI k))] rfl ?_
    refine g_aload_n C 0 rfl dX5_takeMatch_9 ?_
    refine g_dup C rfl dX5_takeMatch_10 ?_
    refine g_getf C wu_X5 0 rfl rfl 3 (by decide) wf_X5_56 rfl rfl dX5_takeMatch_11 ?_
    refine g_iconst C (nI 1) ic_1 dX5_takeMatch_14 ?_
    refine g_iadd C (nI (X.1 + 1)) dX5_takeMatch_15 (nI_add _ _) ?_
    refine g_putf C wu_X5 tyX5 tyX5_ok nmX5 0 rfl rfl 3 (by decide) wf_X5_56 rfl rfl rfl rfl (Nat.le_of_ble_eq_true rfl) dX5_takeMatch_16 [(r0, .inr (3, [.ref a0, .ref b0, .int (nI rd), .int (nI (X.1 + 1)), .int (nI dr), .ref c0, .ref d0, .ref e0, .ref f0])), (b0, .inr (0, [.ref b1])), (b1, .inl (ty 1, 4, .inr (.inl (zM G)))), (c0, .inr (0, [.ref c1])), (c1, .inl (ty 1, 4, .inr (.inl (zM X.2.1)))), (d0, .inl (ty 0, 256, .inl (roA X.2.1 rd ro))), (e0, .inl (ty 0, 256, .inl (ruA X.2.1 X.2.2 ru)))] rfl ?_
    refine g_lload_n C 1 rfl dX5_takeMatch_19 ?_
    refine g_iload_n C 2 rfl dX5_takeMatch_20 ?_
    refine g_callS0 C (nA := 2) (k_X0_result l D ty L h hL (by omega)) wm_X5_115 ws_X0_result wi_X0 wc_X0_result rfl (by decide +kernel) ⟨(Nat.le_of_ble_eq_true rfl), (Nat.le_of_ble_eq_true rfl)⟩ ⟨rfl, rfl⟩ dX5_takeMatch_21 (fun _ _ h => h.2) (Nat.le_of_ble_eq_true rfl) rfl ⟨Nat.zero_le _, Nat.zero_le _⟩ (fun r hp => ?_)
    obtain ⟨rfl, -⟩ := hp
    refine g_st [.int (nI (rs L h))] rfl ?_
    refine g_istore C [(5, .int (nI (rs L h))), (0, .ref r0), (1, .long (lN (zpk L 12))), (3, .int (nI h)), (4, .int (nI k))] dX5_takeMatch_24 (by decide) rfl ?_
    refine g_aload_n C 1 rfl dX5_takeMatch_26 ?_
    refine g_getf C wu_X5 0 rfl rfl 1 (by decide) wf_X5_18 rfl rfl dX5_takeMatch_27 ?_
    refine g_iload C 0 rfl dX5_takeMatch_30 ?_
    refine g_callV C (nA := 1) (ci := 0) (q0 := 0) (As := [.int (nI (rs L h))]) (wr := [(r0, .inr (3, [.ref a0, .ref b0, .int (nI rd), .int (nI (X.1 + 1)), .int (nI dr), .ref c0, .ref d0, .ref e0, .ref f0])), (c0, .inr (0, [.ref c1])), (c1, .inl (ty 1, 4, .inr (.inl (zM X.2.1)))), (d0, .inl (ty 0, 256, .inl (roA X.2.1 rd ro))), (e0, .inl (ty 0, 256, .inl (ruA X.2.1 X.2.2 ru)))]) (k_X2_has l D ty b0 b1 G (rs L h) (by omega)) wm_X5_119 wn_X2_has wv_X2_has wi_X2 wc_X2_has rfl (by decide +kernel) ⟨(Nat.le_of_ble_eq_true rfl), (Nat.le_of_ble_eq_true rfl)⟩ ⟨rfl, rfl⟩ dX5_takeMatch_32 ⟨Nat.zero_le _, Nat.zero_le _⟩ rfl rfl rfl [1, 2] [0, 3, 4, 5, 6] rfl rfl rfl rfl (by decide) (Nat.le_of_ble_eq_true rfl) rfl (fun r W1 hp => ?_)
    obtain ⟨rfl, rfl⟩ := hp
    refine g_fix [.int (bI (G (rs L h)))] [(r0, .inr (3, [.ref a0, .ref b0, .int (nI rd), .int (nI (X.1 + 1)), .int (nI dr), .ref c0, .ref d0, .ref e0, .ref f0])), (b0, .inr (0, [.ref b1])), (b1, .inl (ty 1, 4, .inr (.inl (zM G)))), (c0, .inr (0, [.ref c1])), (c1, .inl (ty 1, 4, .inr (.inl (zM X.2.1)))), (d0, .inl (ty 0, 256, .inl (roA X.2.1 rd ro))), (e0, .inl (ty 0, 256, .inl (ruA X.2.1 X.2.2 ru)))] [0, 5, 6, 1, 2, 3, 4] rfl rfl rfl ?_
    refine g_if_neB C (G (rs L h)) 50 rfl dX5_takeMatch_35 rfl (fun c35 => ?_) (fun c35 => ?_)
    · skip
      have hst : stp G (some L) h k X = (X.1 + 1, X.2) := by unfold stp; simp only [c35, if_true]
      exact g_vret E dX5_takeMatch_50 (by decide) (by decide) ⟨rfl, (by rw [hst])⟩
    · skip
      refine g_aload_n C 1 rfl dX5_takeMatch_38 ?_
      refine g_getf C wu_X5 0 rfl rfl 5 (by decide) wf_X5_21 rfl rfl dX5_takeMatch_39 ?_
      refine g_iload C 0 rfl dX5_takeMatch_42 ?_
      refine g_callV C (nA := 1) (ci := 0) (q0 := 0) (As := [.int (nI (rs L h))]) (wr := [(r0, .inr (3, [.ref a0, .ref b0, .int (nI rd), .int (nI (X.1 + 1)), .int (nI dr), .ref c0, .ref d0, .ref e0, .ref f0])), (b0, .inr (0, [.ref b1])), (b1, .inl (ty 1, 4, .inr (.inl (zM G)))), (d0, .inl (ty 0, 256, .inl (roA X.2.1 rd ro))), (e0, .inl (ty 0, 256, .inl (ruA X.2.1 X.2.2 ru)))]) (k_X2_has l D ty c0 c1 X.2.1 (rs L h) (by omega)) wm_X5_119 wn_X2_has wv_X2_has wi_X2 wc_X2_has rfl (by decide +kernel) ⟨(Nat.le_of_ble_eq_true rfl), (Nat.le_of_ble_eq_true rfl)⟩ ⟨rfl, rfl⟩ dX5_takeMatch_44 ⟨Nat.zero_le _, Nat.zero_le _⟩ rfl rfl rfl [3, 4] [0, 1, 2, 5, 6] rfl rfl rfl rfl (by decide) (Nat.le_of_ble_eq_true rfl) rfl (fun r W1 hp => ?_)
      obtain ⟨rfl, rfl⟩ := hp
      refine g_fix [.int (bI (X.2.1 (rs L h)))] [(r0, .inr (3, [.ref a0, .ref b0, .int (nI rd), .int (nI (X.1 + 1)), .int (nI dr), .ref c0, .ref d0, .ref e0, .ref f0])), (b0, .inr (0, [.ref b1])), (b1, .inl (ty 1, 4, .inr (.inl (zM G)))), (c0, .inr (0, [.ref c1])), (c1, .inl (ty 1, 4, .inr (.inl (zM X.2.1)))), (d0, .inl (ty 0, 256, .inl (roA X.2.1 rd ro))), (e0, .inl (ty 0, 256, .inl (ruA X.2.1 X.2.2 ru)))] [0, 1, 2, 5, 6, 3, 4] rfl rfl rfl ?_
      refine g_if_eqB C (X.2.1 (rs L h)) 51 rfl dX5_takeMatch_47 rfl (fun c47 => ?_) (fun c47 => ?_)
      · skip
        have hst : stp G (some L) h k X = (X.1 + 1, zPut X.2.1 (rs L h), upN X.2.2 (rs L h) k) := by unfold stp; simp only [c35, c47, if_false, Bool.false_eq_true]
        refine g_aload_n C 1 rfl dX5_takeMatch_51 ?_
        refine g_getf C wu_X5 0 rfl rfl 5 (by decide) wf_X5_21 rfl rfl dX5_takeMatch_52 ?_
        refine g_iload C 0 rfl dX5_takeMatch_55 ?_
        refine g_callV C (nA := 1) (ci := 0) (q0 := 0) (As := [.int (nI (rs L h))]) (wr := [(r0, .inr (3, [.ref a0, .ref b0, .int (nI rd), .int (nI (X.1 + 1)), .int (nI dr), .ref c0, .ref d0, .ref e0, .ref f0])), (b0, .inr (0, [.ref b1])), (b1, .inl (ty 1, 4, .inr (.inl (zM G)))), (d0, .inl (ty 0, 256, .inl (roA X.2.1 rd ro))), (e0, .inl (ty 0, 256, .inl (ruA X.2.1 X.2.2 ru)))]) (k_X2_put l D ty c0 c1 X.2.1 (rs L h) (by omega)) wm_X5_122 wn_X2_put wv_X2_put wi_X2 wc_X2_put rfl (by decide +kernel) ⟨(Nat.le_of_ble_eq_true rfl), (Nat.le_of_ble_eq_true rfl)⟩ ⟨rfl, rfl⟩ dX5_takeMatch_57 ⟨Nat.zero_le _, Nat.zero_le _⟩ rfl rfl rfl [3, 4] [0, 1, 2, 5, 6] rfl rfl rfl rfl (by decide) (Nat.le_of_ble_eq_true rfl) rfl (fun r W1 hp => ?_)
        obtain ⟨rfl, rfl⟩ := hp
        refine g_fix [] [(r0, .inr (3, [.ref a0, .ref b0, .int (nI rd), .int (nI (X.1 + 1)), .int (nI dr), .ref c0, .ref d0, .ref e0, .ref f0])), (b0, .inr (0, [.ref b1])), (b1, .inl (ty 1, 4, .inr (.inl (zM G)))), (c0, .inr (0, [.ref c1])), (c1, .inl (ty 1, 4, .inr (.inl (zM (zPut X.2.1 (rs L h)))))), (d0, .inl (ty 0, 256, .inl (roA X.2.1 rd ro))), (e0, .inl (ty 0, 256, .inl (ruA X.2.1 X.2.2 ru)))] [0, 1, 2, 5, 6, 3, 4] rfl rfl rfl ?_
        refine g_iload C 0 rfl dX5_takeMatch_60 ?_
        refine g_callS0 C (nA := 1) (k_X1_isAtom l D ty ((nI (rs L h))) ) wm_X5_36 ws_X1_isAtom wi_X1 wc_X1_isAtom rfl (by decide +kernel) ⟨(Nat.le_of_ble_eq_true rfl), (Nat.le_of_ble_eq_true rfl)⟩ ⟨rfl, rfl⟩ dX5_takeMatch_62 (fun _ _ h => h.2) (Nat.le_of_ble_eq_true rfl) rfl ⟨Nat.zero_le _, Nat.zero_le _⟩ (fun r hp => ?_)
        obtain ⟨rfl, -⟩ := hp
        refine g_st [.int (bI (isA ((nI (rs L h)))))] rfl ?_
        refine g_if_eqB C (isA ((nI (rs L h)))) 90 rfl dX5_takeMatch_65 rfl (fun c65 => ?_) (fun c65 => ?_)
        · skip
          exact absurd c65 (by rw [isA_N hrs]; decide)
        · skip
          refine g_aload_n C 1 rfl dX5_takeMatch_68 ?_
          refine g_getf C wu_X5 0 rfl rfl 6 (by decide) wf_X5_26 rfl rfl dX5_takeMatch_69 ?_
          refine g_iload C 0 rfl dX5_takeMatch_72 ?_
          refine g_aload_n C 1 rfl dX5_takeMatch_74 ?_
          refine g_getf C wu_X5 0 rfl rfl 2 (by decide) wf_X5_40 rfl rfl dX5_takeMatch_75 ?_
          refine g_iconst C (nI 1) ic_1 dX5_takeMatch_78 ?_
          refine g_iadd C (nI (rd + 1)) dX5_takeMatch_79 (nI_add _ _) ?_
          refine g_iast C 5 rfl (rs L h) rfl (by omega) (by decide) dX5_takeMatch_80 (roA (zPut X.2.1 (rs L h)) rd ro) (roA_put _ _ _ _) [(r0, .inr (3, [.ref a0, .ref b0, .int (nI rd), .int (nI (X.1 + 1)), .int (nI dr), .ref c0, .ref d0, .ref e0, .ref f0])), (b0, .inr (0, [.ref b1])), (b1, .inl (ty 1, 4, .inr (.inl (zM G)))), (c0, .inr (0, [.ref c1])), (c1, .inl (ty 1, 4, .inr (.inl (zM (zPut X.2.1 (rs L h)))))), (d0, .inl (ty 0, 256, .inl (roA (zPut X.2.1 (rs L h)) rd ro))), (e0, .inl (ty 0, 256, .inl (ruA X.2.1 X.2.2 ru)))] rfl ?_
          refine g_aload_n C 1 rfl dX5_takeMatch_81 ?_
          refine g_getf C wu_X5 0 rfl rfl 7 (by decide) wf_X5_30 rfl rfl dX5_takeMatch_82 ?_
          refine g_iload C 0 rfl dX5_takeMatch_85 ?_
          refine g_iload C 4 rfl dX5_takeMatch_87 ?_
          refine g_iast C 6 rfl (rs L h) rfl (by omega) (by decide) dX5_takeMatch_89 (ruA (zPut X.2.1 (rs L h)) (upN X.2.2 (rs L h) k) ru) (ruA_put _ _ _ _ _) [(r0, .inr (3, [.ref a0, .ref b0, .int (nI rd), .int (nI (X.1 + 1)), .int (nI dr), .ref c0, .ref d0, .ref e0, .ref f0])), (b0, .inr (0, [.ref b1])), (b1, .inl (ty 1, 4, .inr (.inl (zM G)))), (c0, .inr (0, [.ref c1])), (c1, .inl (ty 1, 4, .inr (.inl (zM (zPut X.2.1 (rs L h)))))), (d0, .inl (ty 0, 256, .inl (roA (zPut X.2.1 (rs L h)) rd ro))), (e0, .inl (ty 0, 256, .inl (ruA (zPut X.2.1 (rs L h)) (upN X.2.2 (rs L h) k) ru)))] rfl ?_
          exact g_vret E dX5_takeMatch_90 (by decide) (by decide) ⟨rfl, (by rw [hst])⟩
      · skip
        have hst : stp G (some L) h k X = (X.1 + 1, X.2) := by unfold stp; simp only [c35, c47, if_true, if_false, Bool.false_eq_true]
        exact g_vret E dX5_takeMatch_50 (by decide) (by decide) ⟨rfl, (by rw [hst])⟩
  · skip
    obtain rfl : lk = none := Option.not_isSome_iff_eq_none.mp (by rw [c5]; decide)
    exact g_vret E dX5_takeMatch_8 (by decide) (by decide) ⟨rfl, rfl⟩
def r_X5_playRule : Room := { frames := 3, cells := 0, slots := 0, locals := 78 }
set_option maxRecDepth 100000 in
set_option maxHeartbeats 4000000 in
theorem k_X5_playRule (l : Launch) (D : va_G) (ty : Nat → ClassId) (r0 : Nat) (a0 : Nat) (a1 : Nat) (b0 : Nat) (b1 : Nat) (c0 : Nat) (c1 : Nat) (d0 : Nat) (e0 : Nat) (f0 : Nat) (rd : Nat) (dr : Nat) (F : Nat → Bool) (G : Nat → Bool) (ro : Nat → Int32) (ru : Nat → Int32) (l0 : Nat) (l1 : Nat) (l2 : Nat) (q : Nat → Nat) (nr : Nat) (k : Nat) (X : XT) (hF : okF F) (hk : k < 6) (q0 : q (3 * k) < 256) (q1 : q (3 * k + 1) < 256) (q2 : q (3 * k + 2) ≤ 256) : gM l D ty yX5_playRule cX5_playRule 12 none r_X5_playRule 0 0 [.ref r0, .ref l0, .int (nI k)] [(r0, .inr (3, [.ref a0, .ref b0, .int (nI rd), .int (nI (X.1)), .int (nI dr), .ref c0, .ref d0, .ref e0, .ref f0])), (a0, .inr (0, [.ref a1])), (a1, .inl (ty 1, 4, .inr (.inl (zM F)))), (b0, .inr (0, [.ref b1])), (b1, .inl (ty 1, 4, .inr (.inl (zM G)))), (c0, .inr (0, [.ref c1])), (c1, .inl (ty 1, 4, .inr (.inl (zM X.2.1)))), (d0, .inl (ty 0, 256, .inl (roA X.2.1 rd ro))), (e0, .inl (ty 0, 256, .inl (ruA X.2.1 X.2.2 ru))), (l0, .inr (2, [.ref l1, .ref l2, .int (nI nr)])), (l2, .inl (ty 0, 18, .inl (eR q)))] (fun (zr : Option Value) (zW : va_W) => zr = none ∧ zW = [(r0, .inr (3, [.ref a0, .ref b0, .int (nI rd), .int (nI ((pl F G (q (3 * k + 1)) (q (3 * k + 2)) (q (3 * k)) k 38 X).1)), .int (nI dr), .ref c0, .ref d0, .ref e0, .ref f0])), (a0, .inr (0, [.ref a1])), (a1, .inl (ty 1, 4, .inr (.inl (zM F)))), (b0, .inr (0, [.ref b1])), (b1, .inl (ty 1, 4, .inr (.inl (zM G)))), (c0, .inr (0, [.ref c1])), (c1, .inl (ty 1, 4, .inr (.inl (zM ((pl F G (q (3 * k + 1)) (q (3 * k + 2)) (q (3 * k)) k 38 X).2.1))))), (d0, .inl (ty 0, 256, .inl (roA (pl F G (q (3 * k + 1)) (q (3 * k + 2)) (q (3 * k)) k 38 X).2.1 rd ro))), (e0, .inl (ty 0, 256, .inl (ruA (pl F G (q (3 * k + 1)) (q (3 * k + 2)) (q (3 * k)) k 38 X).2.1 (pl F G (q (3 * k + 1)) (q (3 * k + 2)) (q (3 * k)) k 38 X).2.2 ru))), (l0, .inr (2, [.ref l1, .ref l2, .int (nI nr)])), (l2, .inl (ty 0, 18, .inl (eR q)))]) := by
  refine gM_of RX5 rfl (by decide +kernel) (Nat.le_of_ble_eq_true rfl) ?_
  intro pg en s0 mi ag bl mth cd AA HH QQ C E hnm
  show gW pg l en r_X5_playRule s0 mi ag bl mth cd 12 D AA HH QQ 0 [(0, .ref r0), (1, .ref l0), (2, .int (nI k))] [] [(r0, .inr (3, [.ref a0, .ref b0, .int (nI rd), .int (nI (X.1)), .int (nI dr), .ref c0, .ref d0, .ref e0, .ref f0])), (a0, .inr (0, [.ref a1])), (a1, .inl (ty 1, 4, .inr (.inl (zM F)))), (b0, .inr (0, [.ref b1])), (b1, .inl (ty 1, 4, .inr (.inl (zM G)))), (c0, .inr (0, [.ref c1])), (c1, .inl (ty 1, 4, .inr (.inl (zM X.2.1)))), (d0, .inl (ty 0, 256, .inl (roA X.2.1 rd ro))), (e0, .inl (ty 0, 256, .inl (ruA X.2.1 X.2.2 ru))), (l0, .inr (2, [.ref l1, .ref l2, .int (nI nr)])), (l2, .inl (ty 0, 18, .inl (eR q)))] 0 0
  refine g_aload_n C 1 rfl dX5_playRule_0 ?_
  refine g_iload_n C 2 rfl dX5_playRule_1 ?_
  refine g_iconst C (nI 0) ic_0 dX5_playRule_2 ?_
  refine g_callV C (nA := 2) (ci := 2) (q0 := 0) (As := [.int (nI k), .int (nI 0)]) (wr := [(r0, .inr (3, [.ref a0, .ref b0, .int (nI rd), .int (nI (X.1)), .int (nI dr), .ref c0, .ref d0, .ref e0, .ref f0])), (a0, .inr (0, [.ref a1])), (a1, .inl (ty 1, 4, .inr (.inl (zM F)))), (b0, .inr (0, [.ref b1])), (b1, .inl (ty 1, 4, .inr (.inl (zM G)))), (c0, .inr (0, [.ref c1])), (c1, .inl (ty 1, 4, .inr (.inl (zM X.2.1)))), (d0, .inl (ty 0, 256, .inl (roA X.2.1 rd ro))), (e0, .inl (ty 0, 256, .inl (ruA X.2.1 X.2.2 ru)))]) (k_X4_atomAt l D ty l0 l1 l2 q nr k 0 (by omega) (by omega)) wm_X5_94 wn_X4_atomAt wv_X4_atomAt wi_X4 wc_X4_atomAt rfl (by decide +kernel) ⟨(Nat.le_of_ble_eq_true rfl), (Nat.le_of_ble_eq_true rfl)⟩ ⟨rfl, rfl⟩ dX5_playRule_3 ⟨Nat.zero_le _, Nat.zero_le _⟩ rfl rfl rfl [9, 10] [0, 1, 2, 3, 4, 5, 6, 7, 8] rfl rfl rfl rfl (by decide) (Nat.le_of_ble_eq_true rfl) rfl (fun r W1 hp => ?_)
  obtain ⟨rfl, rfl⟩ := hp
  refine g_fix [.int (eA (q (3 * k + 0)))] [(r0, .inr (3, [.ref a0, .ref b0, .int (nI rd), .int (nI (X.1)), .int (nI dr), .ref c0, .ref d0, .ref e0, .ref f0])), (a0, .inr (0, [.ref a1])), (a1, .inl (ty 1, 4, .inr (.inl (zM F)))), (b0, .inr (0, [.ref b1])), (b1, .inl (ty 1, 4, .inr (.inl (zM G)))), (c0, .inr (0, [.ref c1])), (c1, .inl (ty 1, 4, .inr (.inl (zM X.2.1)))), (d0, .inl (ty 0, 256, .inl (roA X.2.1 rd ro))), (e0, .inl (ty 0, 256, .inl (ruA X.2.1 X.2.2 ru))), (l0, .inr (2, [.ref l1, .ref l2, .int (nI nr)])), (l2, .inl (ty 0, 18, .inl (eR q)))] [0, 1, 2, 3, 4, 5, 6, 7, 8, 9, 10] rfl rfl rfl ?_
  refine g_topi (nI (q (3 * k))) (eA_n (v := q (3 * k)) (by omega)) ?_
  refine g_istore_n C [(3, .int (nI (q (3 * k)))), (0, .ref r0), (1, .ref l0), (2, .int (nI k))] dX5_playRule_6 rfl (by decide) rfl ?_
  refine g_aload_n C 2 rfl dX5_playRule_7 ?_
  refine g_iload_n C 3 rfl dX5_playRule_8 ?_
  refine g_iconst C (nI 1) ic_1 dX5_playRule_9 ?_
  refine g_callV C (nA := 2) (ci := 2) (q0 := 0) (As := [.int (nI k), .int (nI 1)]) (wr := [(r0, .inr (3, [.ref a0, .ref b0, .int (nI rd), .int (nI (X.1)), .int (nI dr), .ref c0, .ref d0, .ref e0, .ref f0])), (a0, .inr (0, [.ref a1])), (a1, .inl (ty 1, 4, .inr (.inl (zM F)))), (b0, .inr (0, [.ref b1])), (b1, .inl (ty 1, 4, .inr (.inl (zM G)))), (c0, .inr (0, [.ref c1])), (c1, .inl (ty 1, 4, .inr (.inl (zM X.2.1)))), (d0, .inl (ty 0, 256, .inl (roA X.2.1 rd ro))), (e0, .inl (ty 0, 256, .inl (ruA X.2.1 X.2.2 ru)))]) (k_X4_atomAt l D ty l0 l1 l2 q nr k 1 (by omega) (by omega)) wm_X5_94 wn_X4_atomAt wv_X4_atomAt wi_X4 wc_X4_atomAt rfl (by decide +kernel) ⟨(Nat.le_of_ble_eq_true rfl), (Nat.le_of_ble_eq_true rfl)⟩ ⟨rfl, rfl⟩ dX5_playRule_10 ⟨Nat.zero_le _, Nat.zero_le _⟩ rfl rfl rfl [9, 10] [0, 1, 2, 3, 4, 5, 6, 7, 8] rfl rfl rfl rfl (by decide) (Nat.le_of_ble_eq_true rfl) rfl (fun r W1 hp => ?_)
  obtain ⟨rfl, rfl⟩ := hp
  refine g_fix [.int (eA (q (3 * k + 1)))] [(r0, .inr (3, [.ref a0, .ref b0, .int (nI rd), .int (nI (X.1)), .int (nI dr), .ref c0, .ref d0, .ref e0, .ref f0])), (a0, .inr (0, [.ref a1])), (a1, .inl (ty 1, 4, .inr (.inl (zM F)))), (b0, .inr (0, [.ref b1])), (b1, .inl (ty 1, 4, .inr (.inl (zM G)))), (c0, .inr (0, [.ref c1])), (c1, .inl (ty 1, 4, .inr (.inl (zM X.2.1)))), (d0, .inl (ty 0, 256, .inl (roA X.2.1 rd ro))), (e0, .inl (ty 0, 256, .inl (ruA X.2.1 X.2.2 ru))), (l0, .inr (2, [.ref l1, .ref l2, .int (nI nr)])), (l2, .inl (ty 0, 18, .inl (eR q)))] [0, 1, 2, 3, 4, 5, 6, 7, 8, 9, 10] rfl rfl rfl ?_
  refine g_topi (nI (q (3 * k + 1))) (eA_n (by omega)) ?_
  refine g_istore C [(4, .int (nI (q (3 * k + 1)))), (3, .int (nI (q (3 * k)))), (0, .ref r0), (1, .ref l0), (2, .int (nI k))] dX5_playRule_13 (by decide) rfl ?_
  refine g_aload_n C 3 rfl dX5_playRule_15 ?_
  refine g_iload_n C 4 rfl dX5_playRule_16 ?_
  refine g_iconst C (nI 2) ic_2 dX5_playRule_17 ?_
  refine g_callV C (nA := 2) (ci := 2) (q0 := 0) (As := [.int (nI k), .int (nI 2)]) (wr := [(r0, .inr (3, [.ref a0, .ref b0, .int (nI rd), .int (nI (X.1)), .int (nI dr), .ref c0, .ref d0, .ref e0, .ref f0])), (a0, .inr (0, [.ref a1])), (a1, .inl (ty 1, 4, .inr (.inl (zM F)))), (b0, .inr (0, [.ref b1])), (b1, .inl (ty 1, 4, .inr (.inl (zM G)))), (c0, .inr (0, [.ref c1])), (c1, .inl (ty 1, 4, .inr (.inl (zM X.2.1)))), (d0, .inl (ty 0, 256, .inl (roA X.2.1 rd ro))), (e0, .inl (ty 0, 256, .inl (ruA X.2.1 X.2.2 ru)))]) (k_X4_atomAt l D ty l0 l1 l2 q nr k 2 (by omega) (by omega)) wm_X5_94 wn_X4_atomAt wv_X4_atomAt wi_X4 wc_X4_atomAt rfl (by decide +kernel) ⟨(Nat.le_of_ble_eq_true rfl), (Nat.le_of_ble_eq_true rfl)⟩ ⟨rfl, rfl⟩ dX5_playRule_18 ⟨Nat.zero_le _, Nat.zero_le _⟩ rfl rfl rfl [9, 10] [0, 1, 2, 3, 4, 5, 6, 7, 8] rfl rfl rfl rfl (by decide) (Nat.le_of_ble_eq_true rfl) rfl (fun r W1 hp => ?_)
  obtain ⟨rfl, rfl⟩ := hp
  refine g_fix [.int (eA (q (3 * k + 2)))] [(r0, .inr (3, [.ref a0, .ref b0, .int (nI rd), .int (nI (X.1)), .int (nI dr), .ref c0, .ref d0, .ref e0, .ref f0])), (a0, .inr (0, [.ref a1])), (a1, .inl (ty 1, 4, .inr (.inl (zM F)))), (b0, .inr (0, [.ref b1])), (b1, .inl (ty 1, 4, .inr (.inl (zM G)))), (c0, .inr (0, [.ref c1])), (c1, .inl (ty 1, 4, .inr (.inl (zM X.2.1)))), (d0, .inl (ty 0, 256, .inl (roA X.2.1 rd ro))), (e0, .inl (ty 0, 256, .inl (ruA X.2.1 X.2.2 ru))), (l0, .inr (2, [.ref l1, .ref l2, .int (nI nr)])), (l2, .inl (ty 0, 18, .inl (eR q)))] [0, 1, 2, 3, 4, 5, 6, 7, 8, 9, 10] rfl rfl rfl ?_
  refine g_istore C [(5, .int (eA (q (3 * k + 2)))), (4, .int (nI (q (3 * k + 1)))), (3, .int (nI (q (3 * k)))), (0, .ref r0), (1, .ref l0), (2, .int (nI k))] dX5_playRule_21 (by decide) rfl ?_
  refine g_iconst C (nI 0) ic_0 dX5_playRule_23 ?_
  refine g_istore C [(6, .int (nI 0)), (5, .int (eA (q (3 * k + 2)))), (4, .int (nI (q (3 * k + 1)))), (3, .int (nI (q (3 * k)))), (0, .ref r0), (1, .ref l0), (2, .int (nI k))] dX5_playRule_24 (by decide) rfl ?_
  refine g_lo [4, 5, 6, 3, 2, 1, 0] [(0, .ref r0), (1, .ref l0), (2, .int (nI k)), (3, .int (nI (q (3 * k)))), (4, .int (nI (q (3 * k + 1)))), (5, .int (eA (q (3 * k + 2)))), (6, .int (nI 0))] rfl ?_
  have L26 : ∀ (fu26 : Nat) (i : Nat) (hi : i ≤ 38), (38 - i) < fu26 → gW pg l en r_X5_playRule s0 mi ag bl mth cd 12 D AA HH QQ 26 [(0, .ref r0), (1, .ref l0), (2, .int (nI k)), (3, .int (nI (q (3 * k)))), (4, .int (nI (q (3 * k + 1)))), (5, .int (eA (q (3 * k + 2)))), (6, .int (nI i))] [] [(r0, .inr (3, [.ref a0, .ref b0, .int (nI rd), .int (nI ((pl F G (q (3 * k + 1)) (q (3 * k + 2)) (q (3 * k)) k i X).1)), .int (nI dr), .ref c0, .ref d0, .ref e0, .ref f0])), (a0, .inr (0, [.ref a1])), (a1, .inl (ty 1, 4, .inr (.inl (zM F)))), (b0, .inr (0, [.ref b1])), (b1, .inl (ty 1, 4, .inr (.inl (zM G)))), (c0, .inr (0, [.ref c1])), (c1, .inl (ty 1, 4, .inr (.inl (zM ((pl F G (q (3 * k + 1)) (q (3 * k + 2)) (q (3 * k)) k i X).2.1))))), (d0, .inl (ty 0, 256, .inl (roA (pl F G (q (3 * k + 1)) (q (3 * k + 2)) (q (3 * k)) k i X).2.1 rd ro))), (e0, .inl (ty 0, 256, .inl (ruA (pl F G (q (3 * k + 1)) (q (3 * k + 2)) (q (3 * k)) k i X).2.1 (pl F G (q (3 * k + 1)) (q (3 * k + 2)) (q (3 * k)) k i X).2.2 ru))), (l0, .inr (2, [.ref l1, .ref l2, .int (nI nr)])), (l2, .inl (ty 0, 18, .inl (eR q)))] 0 0 := by
    intro fu26
    induction fu26 with
    | zero => intro i hi hfu; exact absurd hfu (Nat.not_lt_zero _)
    | succ fu26 ih26 =>
      intro i hi hfu26
      refine g_iload C 6 rfl dX5_playRule_26 ?_
      refine g_bipush C (nI 38) bp_38 dX5_playRule_28 ?_
      refine g_icmp_geN C i 38 149 rfl rfl (by omega) (by omega) dX5_playRule_30 rfl (fun c30 => ?_) (fun c30 => ?_)
      · skip
        obtain rfl : i = 38 := by omega
        exact g_vret E dX5_playRule_149 (by decide) (by decide) ⟨rfl, rfl⟩
      · skip
        refine g_aload_n C 0 rfl dX5_playRule_33 ?_
        refine g_getf C wu_X5 0 rfl rfl 0 (by decide) wf_X5_12 rfl rfl dX5_playRule_34 ?_
        refine g_iload C 4 rfl dX5_playRule_37 ?_
        refine g_iload C 6 rfl dX5_playRule_39 ?_
        refine g_callV C (nA := 2) (ci := 0) (q0 := 0) (As := [.int (nI (q (3 * k + 1))), .int (nI i)]) (wr := [(r0, .inr (3, [.ref a0, .ref b0, .int (nI rd), .int (nI ((pl F G (q (3 * k + 1)) (q (3 * k + 2)) (q (3 * k)) k i X).1)), .int (nI dr), .ref c0, .ref d0, .ref e0, .ref f0])), (b0, .inr (0, [.ref b1])), (b1, .inl (ty 1, 4, .inr (.inl (zM G)))), (c0, .inr (0, [.ref c1])), (c1, .inl (ty 1, 4, .inr (.inl (zM ((pl F G (q (3 * k + 1)) (q (3 * k + 2)) (q (3 * k)) k i X).2.1))))), (d0, .inl (ty 0, 256, .inl (roA (pl F G (q (3 * k + 1)) (q (3 * k + 2)) (q (3 * k)) k i X).2.1 rd ro))), (e0, .inl (ty 0, 256, .inl (ruA (pl F G (q (3 * k + 1)) (q (3 * k + 2)) (q (3 * k)) k i X).2.1 (pl F G (q (3 * k + 1)) (q (3 * k + 2)) (q (3 * k)) k i X).2.2 ru))), (l0, .inr (2, [.ref l1, .ref l2, .int (nI nr)])), (l2, .inl (ty 0, 18, .inl (eR q)))]) (k_X2_hasPair l D ty a0 a1 F (q (3 * k + 1)) i (by omega) (by omega)) wm_X5_97 wn_X2_hasPair wv_X2_hasPair wi_X2 wc_X2_hasPair rfl (by decide +kernel) ⟨(Nat.le_of_ble_eq_true rfl), (Nat.le_of_ble_eq_true rfl)⟩ ⟨rfl, rfl⟩ dX5_playRule_41 ⟨Nat.zero_le _, Nat.zero_le _⟩ rfl rfl rfl [1, 2] [0, 3, 4, 5, 6, 7, 8, 9, 10] rfl rfl rfl rfl (by decide) (Nat.le_of_ble_eq_true rfl) rfl (fun r W1 hp => ?_)
        obtain ⟨rfl, rfl⟩ := hp
        refine g_fix [.int (bI (F (64 * ((q (3 * k + 1)) / 64) + i)))] [(r0, .inr (3, [.ref a0, .ref b0, .int (nI rd), .int (nI ((pl F G (q (3 * k + 1)) (q (3 * k + 2)) (q (3 * k)) k i X).1)), .int (nI dr), .ref c0, .ref d0, .ref e0, .ref f0])), (a0, .inr (0, [.ref a1])), (a1, .inl (ty 1, 4, .inr (.inl (zM F)))), (b0, .inr (0, [.ref b1])), (b1, .inl (ty 1, 4, .inr (.inl (zM G)))), (c0, .inr (0, [.ref c1])), (c1, .inl (ty 1, 4, .inr (.inl (zM ((pl F G (q (3 * k + 1)) (q (3 * k + 2)) (q (3 * k)) k i X).2.1))))), (d0, .inl (ty 0, 256, .inl (roA (pl F G (q (3 * k + 1)) (q (3 * k + 2)) (q (3 * k)) k i X).2.1 rd ro))), (e0, .inl (ty 0, 256, .inl (ruA (pl F G (q (3 * k + 1)) (q (3 * k + 2)) (q (3 * k)) k i X).2.1 (pl F G (q (3 * k + 1)) (q (3 * k + 2)) (q (3 * k)) k i X).2.2 ru))), (l0, .inr (2, [.ref l1, .ref l2, .int (nI nr)])), (l2, .inl (ty 0, 18, .inl (eR q)))] [0, 9, 10, 1, 2, 3, 4, 5, 6, 7, 8] rfl rfl rfl ?_
        refine g_if_neB C (F (64 * ((q (3 * k + 1)) / 64) + i)) 50 rfl dX5_playRule_44 rfl (fun c44 => ?_) (fun c44 => ?_)
        · skip
          have hfi := isF_5 (hF _ c44).1
          have e8 : (64 * (q (3 * k + 1) / 64) + i) / 8 % 8 = i / 8 % 8 ∧ (64 * (q (3 * k + 1) / 64) + i) % 8 = i % 8 := by omega
          rw [e8.1, e8.2] at hfi
          refine g_ldc2 C wd_X5_103 dX5_playRule_50 ?_
          refine g_st [.long (lN (zpk idL 12))] (by rw [zpk_id]) ?_
          refine g_iload C 4 rfl dX5_playRule_53 ?_
          refine g_iload C 6 rfl dX5_playRule_55 ?_
          refine g_iconst C (nI 4) ic_4 dX5_playRule_57 ?_
          refine g_callS0 C (nA := 4) (k_X0_withFact l D ty idL (q (3 * k + 1)) i 4 vl_id (by omega) (by omega) hfi.1 hfi.2 (by omega)) wm_X5_105 ws_X0_withFact wi_X0 wc_X0_withFact rfl (by decide +kernel) ⟨(Nat.le_of_ble_eq_true rfl), (Nat.le_of_ble_eq_true rfl)⟩ ⟨rfl, rfl⟩ dX5_playRule_58 (fun _ _ h => h.2) (Nat.le_of_ble_eq_true rfl) rfl ⟨Nat.zero_le _, Nat.zero_le _⟩ (fun r hp => ?_)
          obtain ⟨rfl, -⟩ := hp
          refine g_st [.long (eL (al idL (q (3 * k + 1)) i 4))] rfl ?_
          refine g_lstore C [(7, .long (eL (al idL (q (3 * k + 1)) i 4))), (0, .ref r0), (1, .ref l0), (2, .int (nI k)), (3, .int (nI (q (3 * k)))), (4, .int (nI (q (3 * k + 1)))), (5, .int (eA (q (3 * k + 2)))), (6, .int (nI i))] dX5_playRule_61 (by decide) rfl ?_
          refine g_lload C 0 rfl dX5_playRule_63 ?_
          refine g_ldc2 C wd_X5_109 dX5_playRule_65 ?_
          refine g_lcmp C (bI ((al idL (q (3 * k + 1)) i 4).isSome)) (eL_cmp _ (fun M e => vl_al vl_id (own_lt hfi.1 (by decide)) (own_lt hfi.2 (by decide)) e)) dX5_playRule_68 ?_
          refine g_if_neB C ((al idL (q (3 * k + 1)) i 4).isSome) 75 rfl dX5_playRule_69 rfl (fun c69 => ?_) (fun c69 => ?_)
          · skip
            obtain ⟨L, hal⟩ := Option.isSome_iff_exists.mp c69
            have hL := vl_al vl_id (own_lt hfi.1 (by decide)) (own_lt hfi.2 (by decide)) hal
            refine g_lo2 [(7, .long (lN (zpk L 12))), (0, .ref r0), (1, .ref l0), (2, .int (nI k)), (3, .int (nI (q (3 * k)))), (4, .int (nI (q (3 * k + 1)))), (5, .int (eA (q (3 * k + 2)))), (6, .int (nI i))] (by rw [hal]; rfl) ?_
            refine g_iload C 6 rfl dX5_playRule_75 ?_
            refine g_iconst C (-1) ic_m1 dX5_playRule_77 ?_
            refine g_icmp_ne C 92 dX5_playRule_78 rfl (fun c78 => ?_) (fun c78 => ?_)
            · skip
              have ho : q (3 * k + 2) ≠ 256 := fun z => c78 ((eA_m1 q2).mpr z)
              have hpl : pl F G (q (3 * k + 1)) (q (3 * k + 2)) (q (3 * k)) k (i + 1) X = in2 F G L (q (3 * k + 2)) (q (3 * k)) k 38 (pl F G (q (3 * k + 1)) (q (3 * k + 2)) (q (3 * k)) k i X) := by rw [pl, if_pos c44, hal]; simp only [ho, if_false]
              refine g_lo2 [(7, .long (lN (zpk L 12))), (0, .ref r0), (1, .ref l0), (2, .int (nI k)), (3, .int (nI (q (3 * k)))), (4, .int (nI (q (3 * k + 1)))), (5, .int (nI (q (3 * k + 2)))), (6, .int (nI i))] (by rw [eA_n ho]) ?_
              refine g_iconst C (nI 0) ic_0 dX5_playRule_92 ?_
              refine g_istore C [(9, .int (nI 0)), (7, .long (lN (zpk L 12))), (0, .ref r0), (1, .ref l0), (2, .int (nI k)), (3, .int (nI (q (3 * k)))), (4, .int (nI (q (3 * k + 1)))), (5, .int (nI (q (3 * k + 2)))), (6, .int (nI i))] dX5_playRule_93 (by decide) rfl ?_
              refine g_lo [2, 3, 4, 5, 6, 7, 8, 1, 0] [(0, .ref r0), (1, .ref l0), (2, .int (nI k)), (3, .int (nI (q (3 * k)))), (4, .int (nI (q (3 * k + 1)))), (5, .int (nI (q (3 * k + 2)))), (6, .int (nI i)), (7, .long (lN (zpk L 12))), (9, .int (nI 0))] rfl ?_
              have L95 : ∀ (fu95 : Nat) (j : Nat) (hj : j ≤ 38), (38 - j) < fu95 → gW pg l en r_X5_playRule s0 mi ag bl mth cd 12 D AA HH QQ 95 [(0, .ref r0), (1, .ref l0), (2, .int (nI k)), (3, .int (nI (q (3 * k)))), (4, .int (nI (q (3 * k + 1)))), (5, .int (nI (q (3 * k + 2)))), (6, .int (nI i)), (7, .long (lN (zpk L 12))), (9, .int (nI j))] [] [(r0, .inr (3, [.ref a0, .ref b0, .int (nI rd), .int (nI ((in2 F G L (q (3 * k + 2)) (q (3 * k)) k j (pl F G (q (3 * k + 1)) (q (3 * k + 2)) (q (3 * k)) k i X)).1)), .int (nI dr), .ref c0, .ref d0, .ref e0, .ref f0])), (a0, .inr (0, [.ref a1])), (a1, .inl (ty 1, 4, .inr (.inl (zM F)))), (b0, .inr (0, [.ref b1])), (b1, .inl (ty 1, 4, .inr (.inl (zM G)))), (c0, .inr (0, [.ref c1])), (c1, .inl (ty 1, 4, .inr (.inl (zM ((in2 F G L (q (3 * k + 2)) (q (3 * k)) k j (pl F G (q (3 * k + 1)) (q (3 * k + 2)) (q (3 * k)) k i X)).2.1))))), (d0, .inl (ty 0, 256, .inl (roA (in2 F G L (q (3 * k + 2)) (q (3 * k)) k j (pl F G (q (3 * k + 1)) (q (3 * k + 2)) (q (3 * k)) k i X)).2.1 rd ro))), (e0, .inl (ty 0, 256, .inl (ruA (in2 F G L (q (3 * k + 2)) (q (3 * k)) k j (pl F G (q (3 * k + 1)) (q (3 * k + 2)) (q (3 * k)) k i X)).2.1 (in2 F G L (q (3 * k + 2)) (q (3 * k)) k j (pl F G (q (3 * k + 1)) (q (3 * k + 2)) (q (3 * k)) k i X)).2.2 ru))), (l0, .inr (2, [.ref l1, .ref l2, .int (nI nr)])), (l2, .inl (ty 0, 18, .inl (eR q)))] 0 0 := by
                intro fu95
                induction fu95 with
                | zero => intro j hj hfu; exact absurd hfu (Nat.not_lt_zero _)
                | succ fu95 ih95 =>
                  intro j hj hfu95
                  refine g_iload C 8 rfl dX5_playRule_95 ?_
                  refine g_bipush C (nI 38) bp_38 dX5_playRule_97 ?_
                  refine g_icmp_geN C j 38 143 rfl rfl (by omega) (by omega) dX5_playRule_99 rfl (fun c99 => ?_) (fun c99 => ?_)
                  · skip
                    have hj38 : j = 38 := by omega
                    rw [← hj38] at hpl
                    refine g_lo2 [(0, .ref r0), (1, .ref l0), (2, .int (nI k)), (3, .int (nI (q (3 * k)))), (4, .int (nI (q (3 * k + 1)))), (5, .int (eA (q (3 * k + 2)))), (6, .int (nI i)), (7, .long (lN (zpk L 12))), (9, .int (nI j))] (by rw [eA_n ho]) ?_
                    refine g_ws [(r0, .inr (3, [.ref a0, .ref b0, .int (nI rd), .int (nI ((pl F G (q (3 * k + 1)) (q (3 * k + 2)) (q (3 * k)) k (i + 1) X).1)), .int (nI dr), .ref c0, .ref d0, .ref e0, .ref f0])), (a0, .inr (0, [.ref a1])), (a1, .inl (ty 1, 4, .inr (.inl (zM F)))), (b0, .inr (0, [.ref b1])), (b1, .inl (ty 1, 4, .inr (.inl (zM G)))), (c0, .inr (0, [.ref c1])), (c1, .inl (ty 1, 4, .inr (.inl (zM (pl F G (q (3 * k + 1)) (q (3 * k + 2)) (q (3 * k)) k (i + 1) X).2.1)))), (d0, .inl (ty 0, 256, .inl (roA (pl F G (q (3 * k + 1)) (q (3 * k + 2)) (q (3 * k)) k (i + 1) X).2.1 rd ro))), (e0, .inl (ty 0, 256, .inl (ruA (pl F G (q (3 * k + 1)) (q (3 * k + 2)) (q (3 * k)) k (i + 1) X).2.1 (pl F G (q (3 * k + 1)) (q (3 * k + 2)) (q (3 * k)) k (i + 1) X).2.2 ru))), (l0, .inr (2, [.ref l1, .ref l2, .int (nI nr)])), (l2, .inl (ty 0, 18, .inl (eR q)))] (by rw [hpl]) ?_
                    refine g_iinc C (nI (i + 1)) [(6, .int (nI (i + 1))), (0, .ref r0), (1, .ref l0), (2, .int (nI k)), (3, .int (nI (q (3 * k)))), (4, .int (nI (q (3 * k + 1)))), (5, .int (eA (q (3 * k + 2)))), (7, .long (lN (zpk L 12))), (9, .int (nI j))] 6 dX5_playRule_143 rfl (ii_1 _) (by decide) rfl ?_
                    refine g_goto C 26 dX5_playRule_146 rfl ?_
                    refine g_lo [1, 2, 3, 4, 5, 6, 0] [(0, .ref r0), (1, .ref l0), (2, .int (nI k)), (3, .int (nI (q (3 * k)))), (4, .int (nI (q (3 * k + 1)))), (5, .int (eA (q (3 * k + 2)))), (6, .int (nI (i + 1)))] rfl ?_
                    exact ih26 (i + 1) (by omega) (by omega)
                  · skip
                    refine g_aload_n C 0 rfl dX5_playRule_102 ?_
                    refine g_getf C wu_X5 0 rfl rfl 0 (by decide) wf_X5_12 rfl rfl dX5_playRule_103 ?_
                    refine g_iload C 5 rfl dX5_playRule_106 ?_
                    refine g_iload C 8 rfl dX5_playRule_108 ?_
                    refine g_callV C (nA := 2) (ci := 0) (q0 := 0) (As := [.int (nI (q (3 * k + 2))), .int (nI j)]) (wr := [(r0, .inr (3, [.ref a0, .ref b0, .int (nI rd), .int (nI ((in2 F G L (q (3 * k + 2)) (q (3 * k)) k j (pl F G (q (3 * k + 1)) (q (3 * k + 2)) (q (3 * k)) k i X)).1)), .int (nI dr), .ref c0, .ref d0, .ref e0, .ref f0])), (b0, .inr (0, [.ref b1])), (b1, .inl (ty 1, 4, .inr (.inl (zM G)))), (c0, .inr (0, [.ref c1])), (c1, .inl (ty 1, 4, .inr (.inl (zM ((in2 F G L (q (3 * k + 2)) (q (3 * k)) k j (pl F G (q (3 * k + 1)) (q (3 * k + 2)) (q (3 * k)) k i X)).2.1))))), (d0, .inl (ty 0, 256, .inl (roA (in2 F G L (q (3 * k + 2)) (q (3 * k)) k j (pl F G (q (3 * k + 1)) (q (3 * k + 2)) (q (3 * k)) k i X)).2.1 rd ro))), (e0, .inl (ty 0, 256, .inl (ruA (in2 F G L (q (3 * k + 2)) (q (3 * k)) k j (pl F G (q (3 * k + 1)) (q (3 * k + 2)) (q (3 * k)) k i X)).2.1 (in2 F G L (q (3 * k + 2)) (q (3 * k)) k j (pl F G (q (3 * k + 1)) (q (3 * k + 2)) (q (3 * k)) k i X)).2.2 ru))), (l0, .inr (2, [.ref l1, .ref l2, .int (nI nr)])), (l2, .inl (ty 0, 18, .inl (eR q)))]) (k_X2_hasPair l D ty a0 a1 F (q (3 * k + 2)) j (by omega) (by omega)) wm_X5_97 wn_X2_hasPair wv_X2_hasPair wi_X2 wc_X2_hasPair rfl (by decide +kernel) ⟨(Nat.le_of_ble_eq_true rfl), (Nat.le_of_ble_eq_true rfl)⟩ ⟨rfl, rfl⟩ dX5_playRule_110 ⟨Nat.zero_le _, Nat.zero_le _⟩ rfl rfl rfl [1, 2] [0, 3, 4, 5, 6, 7, 8, 9, 10] rfl rfl rfl rfl (by decide) (Nat.le_of_ble_eq_true rfl) rfl (fun r W1 hp => ?_)
                    obtain ⟨rfl, rfl⟩ := hp
                    refine g_fix [.int (bI (F (64 * ((q (3 * k + 2)) / 64) + j)))] [(r0, .inr (3, [.ref a0, .ref b0, .int (nI rd), .int (nI ((in2 F G L (q (3 * k + 2)) (q (3 * k)) k j (pl F G (q (3 * k + 1)) (q (3 * k + 2)) (q (3 * k)) k i X)).1)), .int (nI dr), .ref c0, .ref d0, .ref e0, .ref f0])), (a0, .inr (0, [.ref a1])), (a1, .inl (ty 1, 4, .inr (.inl (zM F)))), (b0, .inr (0, [.ref b1])), (b1, .inl (ty 1, 4, .inr (.inl (zM G)))), (c0, .inr (0, [.ref c1])), (c1, .inl (ty 1, 4, .inr (.inl (zM ((in2 F G L (q (3 * k + 2)) (q (3 * k)) k j (pl F G (q (3 * k + 1)) (q (3 * k + 2)) (q (3 * k)) k i X)).2.1))))), (d0, .inl (ty 0, 256, .inl (roA (in2 F G L (q (3 * k + 2)) (q (3 * k)) k j (pl F G (q (3 * k + 1)) (q (3 * k + 2)) (q (3 * k)) k i X)).2.1 rd ro))), (e0, .inl (ty 0, 256, .inl (ruA (in2 F G L (q (3 * k + 2)) (q (3 * k)) k j (pl F G (q (3 * k + 1)) (q (3 * k + 2)) (q (3 * k)) k i X)).2.1 (in2 F G L (q (3 * k + 2)) (q (3 * k)) k j (pl F G (q (3 * k + 1)) (q (3 * k + 2)) (q (3 * k)) k i X)).2.2 ru))), (l0, .inr (2, [.ref l1, .ref l2, .int (nI nr)])), (l2, .inl (ty 0, 18, .inl (eR q)))] [0, 9, 10, 1, 2, 3, 4, 5, 6, 7, 8] rfl rfl rfl ?_
                    refine g_if_eqB C (F (64 * ((q (3 * k + 2)) / 64) + j)) 137 rfl dX5_playRule_113 rfl (fun c113 => ?_) (fun c113 => ?_)
                    · skip
                      have hin : in2 F G L (q (3 * k + 2)) (q (3 * k)) k (j + 1) (pl F G (q (3 * k + 1)) (q (3 * k + 2)) (q (3 * k)) k i X) = in2 F G L (q (3 * k + 2)) (q (3 * k)) k j (pl F G (q (3 * k + 1)) (q (3 * k + 2)) (q (3 * k)) k i X) := by rw [in2, if_neg (by rw [c113]; decide)]
                      refine g_ws [(r0, .inr (3, [.ref a0, .ref b0, .int (nI rd), .int (nI ((in2 F G L (q (3 * k + 2)) (q (3 * k)) k (j + 1) (pl F G (q (3 * k + 1)) (q (3 * k + 2)) (q (3 * k)) k i X)).1)), .int (nI dr), .ref c0, .ref d0, .ref e0, .ref f0])), (a0, .inr (0, [.ref a1])), (a1, .inl (ty 1, 4, .inr (.inl (zM F)))), (b0, .inr (0, [.ref b1])), (b1, .inl (ty 1, 4, .inr (.inl (zM G)))), (c0, .inr (0, [.ref c1])), (c1, .inl (ty 1, 4, .inr (.inl (zM (in2 F G L (q (3 * k + 2)) (q (3 * k)) k (j + 1) (pl F G (q (3 * k + 1)) (q (3 * k + 2)) (q (3 * k)) k i X)).2.1)))), (d0, .inl (ty 0, 256, .inl (roA (in2 F G L (q (3 * k + 2)) (q (3 * k)) k (j + 1) (pl F G (q (3 * k + 1)) (q (3 * k + 2)) (q (3 * k)) k i X)).2.1 rd ro))), (e0, .inl (ty 0, 256, .inl (ruA (in2 F G L (q (3 * k + 2)) (q (3 * k)) k (j + 1) (pl F G (q (3 * k + 1)) (q (3 * k + 2)) (q (3 * k)) k i X)).2.1 (in2 F G L (q (3 * k + 2)) (q (3 * k)) k (j + 1) (pl F G (q (3 * k + 1)) (q (3 * k + 2)) (q (3 * k)) k i X)).2.2 ru))), (l0, .inr (2, [.ref l1, .ref l2, .int (nI nr)])), (l2, .inl (ty 0, 18, .inl (eR q)))] (by rw [hin]) ?_
                      refine g_iinc C (nI (j + 1)) [(9, .int (nI (j + 1))), (0, .ref r0), (1, .ref l0), (2, .int (nI k)), (3, .int (nI (q (3 * k)))), (4, .int (nI (q (3 * k + 1)))), (5, .int (nI (q (3 * k + 2)))), (6, .int (nI i)), (7, .long (lN (zpk L 12)))] 8 dX5_playRule_137 rfl (ii_1 _) (by decide) rfl ?_
                      refine g_goto C 95 dX5_playRule_140 rfl ?_
                      refine g_lo [1, 2, 3, 4, 5, 6, 7, 8, 0] [(0, .ref r0), (1, .ref l0), (2, .int (nI k)), (3, .int (nI (q (3 * k)))), (4, .int (nI (q (3 * k + 1)))), (5, .int (nI (q (3 * k + 2)))), (6, .int (nI i)), (7, .long (lN (zpk L 12))), (9, .int (nI (j + 1)))] rfl ?_
                      exact ih95 (j + 1) (by omega) (by omega)
                    · skip
                      have hfj := isF_5 (hF _ c113).1
                      have e9 : (64 * (q (3 * k + 2) / 64) + j) / 8 % 8 = j / 8 % 8 ∧ (64 * (q (3 * k + 2) / 64) + j) % 8 = j % 8 := by omega
                      rw [e9.1, e9.2] at hfj
                      have hin : in2 F G L (q (3 * k + 2)) (q (3 * k)) k (j + 1) (pl F G (q (3 * k + 1)) (q (3 * k + 2)) (q (3 * k)) k i X) = stp G (al L (q (3 * k + 2)) j 6) (q (3 * k)) k (in2 F G L (q (3 * k + 2)) (q (3 * k)) k j (pl F G (q (3 * k + 1)) (q (3 * k + 2)) (q (3 * k)) k i X)) := by rw [in2, if_pos c113]
                      refine g_lload C 7 rfl dX5_playRule_116 ?_
                      refine g_iload C 5 rfl dX5_playRule_118 ?_
                      refine g_iload C 8 rfl dX5_playRule_120 ?_
                      refine g_bipush C (nI 6) bp_6 dX5_playRule_122 ?_
                      refine g_callS0 C (nA := 4) (k_X0_withFact l D ty L (q (3 * k + 2)) j 6 hL (by omega) (by omega) hfj.1 hfj.2 (by omega)) wm_X5_105 ws_X0_withFact wi_X0 wc_X0_withFact rfl (by decide +kernel) ⟨(Nat.le_of_ble_eq_true rfl), (Nat.le_of_ble_eq_true rfl)⟩ ⟨rfl, rfl⟩ dX5_playRule_124 (fun _ _ h => h.2) (Nat.le_of_ble_eq_true rfl) rfl ⟨Nat.zero_le _, Nat.zero_le _⟩ (fun r hp => ?_)
                      obtain ⟨rfl, -⟩ := hp
                      refine g_st [.long (eL (al L (q (3 * k + 2)) j 6))] rfl ?_
                      refine g_lstore C [(10, .long (eL (al L (q (3 * k + 2)) j 6))), (0, .ref r0), (1, .ref l0), (2, .int (nI k)), (3, .int (nI (q (3 * k)))), (4, .int (nI (q (3 * k + 1)))), (5, .int (nI (q (3 * k + 2)))), (6, .int (nI i)), (7, .long (lN (zpk L 12))), (9, .int (nI j))] dX5_playRule_127 (by decide) rfl ?_
                      refine g_aload_n C 1 rfl dX5_playRule_129 ?_
                      refine g_lload C 0 rfl dX5_playRule_130 ?_
                      refine g_iload_n C 4 rfl dX5_playRule_132 ?_
                      refine g_iload_n C 3 rfl dX5_playRule_133 ?_
                      refine g_callV C (nA := 3) (ci := 3) (q0 := 0) (As := [.long (eL (al L (q (3 * k + 2)) j 6)), .int (nI (q (3 * k))), .int (nI k)]) (wr := [(a0, .inr (0, [.ref a1])), (a1, .inl (ty 1, 4, .inr (.inl (zM F)))), (l0, .inr (2, [.ref l1, .ref l2, .int (nI nr)])), (l2, .inl (ty 0, 18, .inl (eR q)))]) (k_X5_takeMatch l D ty r0 a0 b0 b1 c0 c1 d0 e0 f0 rd dr G ro ru (al L (q (3 * k + 2)) j 6) (q (3 * k)) k (in2 F G L (q (3 * k + 2)) (q (3 * k)) k j (pl F G (q (3 * k + 1)) (q (3 * k + 2)) (q (3 * k)) k i X)) (fun M e => vl_al hL (own_lt hfj.1 (by decide)) (own_lt hfj.2 (by decide)) e) (by omega)) wm_X5_111 wn_X5_takeMatch wv_X5_takeMatch wi_X5 wc_X5_takeMatch rfl (by decide +kernel) ⟨(Nat.le_of_ble_eq_true rfl), (Nat.le_of_ble_eq_true rfl)⟩ ⟨rfl, rfl⟩ dX5_playRule_134 ⟨Nat.zero_le _, Nat.zero_le _⟩ rfl rfl rfl [0, 3, 4, 5, 6, 7, 8] [1, 2, 9, 10] rfl rfl rfl rfl (by decide) (Nat.le_of_ble_eq_true rfl) rfl (fun r W1 hp => ?_)
                      obtain ⟨rfl, rfl⟩ := hp
                      refine g_fix [] [(r0, .inr (3, [.ref a0, .ref b0, .int (nI rd), .int (nI ((stp G (al L (q (3 * k + 2)) j 6) (q (3 * k)) k (in2 F G L (q (3 * k + 2)) (q (3 * k)) k j (pl F G (q (3 * k + 1)) (q (3 * k + 2)) (q (3 * k)) k i X))).1)), .int (nI dr), .ref c0, .ref d0, .ref e0, .ref f0])), (a0, .inr (0, [.ref a1])), (a1, .inl (ty 1, 4, .inr (.inl (zM F)))), (b0, .inr (0, [.ref b1])), (b1, .inl (ty 1, 4, .inr (.inl (zM G)))), (c0, .inr (0, [.ref c1])), (c1, .inl (ty 1, 4, .inr (.inl (zM ((stp G (al L (q (3 * k + 2)) j 6) (q (3 * k)) k (in2 F G L (q (3 * k + 2)) (q (3 * k)) k j (pl F G (q (3 * k + 1)) (q (3 * k + 2)) (q (3 * k)) k i X))).2.1))))), (d0, .inl (ty 0, 256, .inl (roA (stp G (al L (q (3 * k + 2)) j 6) (q (3 * k)) k (in2 F G L (q (3 * k + 2)) (q (3 * k)) k j (pl F G (q (3 * k + 1)) (q (3 * k + 2)) (q (3 * k)) k i X))).2.1 rd ro))), (e0, .inl (ty 0, 256, .inl (ruA (stp G (al L (q (3 * k + 2)) j 6) (q (3 * k)) k (in2 F G L (q (3 * k + 2)) (q (3 * k)) k j (pl F G (q (3 * k + 1)) (q (3 * k + 2)) (q (3 * k)) k i X))).2.1 (stp G (al L (q (3 * k + 2)) j 6) (q (3 * k)) k (in2 F G L (q (3 * k + 2)) (q (3 * k)) k j (pl F G (q (3 * k + 1)) (q (3 * k + 2)) (q (3 * k)) k i X))).2.2 ru))), (l0, .inr (2, [.ref l1, .ref l2, .int (nI nr)])), (l2, .inl (ty 0, 18, .inl (eR q)))] [4, 0, 1, 5, 6, 7, 8, 9, 10, 2, 3] rfl rfl rfl ?_
                      refine g_ws [(r0, .inr (3, [.ref a0, .ref b0, .int (nI rd), .int (nI ((in2 F G L (q (3 * k + 2)) (q (3 * k)) k (j + 1) (pl F G (q (3 * k + 1)) (q (3 * k + 2)) (q (3 * k)) k i X)).1)), .int (nI dr), .ref c0, .ref d0, .ref e0, .ref f0])), (a0, .inr (0, [.ref a1])), (a1, .inl (ty 1, 4, .inr (.inl (zM F)))), (b0, .inr (0, [.ref b1])), (b1, .inl (ty 1, 4, .inr (.inl (zM G)))), (c0, .inr (0, [.ref c1])), (c1, .inl (ty 1, 4, .inr (.inl (zM (in2 F G L (q (3 * k + 2)) (q (3 * k)) k (j + 1) (pl F G (q (3 * k + 1)) (q (3 * k + 2)) (q (3 * k)) k i X)).2.1)))), (d0, .inl (ty 0, 256, .inl (roA (in2 F G L (q (3 * k + 2)) (q (3 * k)) k (j + 1) (pl F G (q (3 * k + 1)) (q (3 * k + 2)) (q (3 * k)) k i X)).2.1 rd ro))), (e0, .inl (ty 0, 256, .inl (ruA (in2 F G L (q (3 * k + 2)) (q (3 * k)) k (j + 1) (pl F G (q (3 * k + 1)) (q (3 * k + 2)) (q (3 * k)) k i X)).2.1 (in2 F G L (q (3 * k + 2)) (q (3 * k)) k (j + 1) (pl F G (q (3 * k + 1)) (q (3 * k + 2)) (q (3 * k)) k i X)).2.2 ru))), (l0, .inr (2, [.ref l1, .ref l2, .int (nI nr)])), (l2, .inl (ty 0, 18, .inl (eR q)))] (by rw [hin]) ?_
                      refine g_iinc C (nI (j + 1)) [(9, .int (nI (j + 1))), (10, .long (eL (al L (q (3 * k + 2)) j 6))), (0, .ref r0), (1, .ref l0), (2, .int (nI k)), (3, .int (nI (q (3 * k)))), (4, .int (nI (q (3 * k + 1)))), (5, .int (nI (q (3 * k + 2)))), (6, .int (nI i)), (7, .long (lN (zpk L 12)))] 9 dX5_playRule_137 rfl (ii_1 _) (by decide) rfl ?_
                      refine g_goto C 95 dX5_playRule_140 rfl ?_
                      refine g_lo [2, 3, 4, 5, 6, 7, 8, 9, 0] [(0, .ref r0), (1, .ref l0), (2, .int (nI k)), (3, .int (nI (q (3 * k)))), (4, .int (nI (q (3 * k + 1)))), (5, .int (nI (q (3 * k + 2)))), (6, .int (nI i)), (7, .long (lN (zpk L 12))), (9, .int (nI (j + 1)))] rfl ?_
                      exact ih95 (j + 1) (by omega) (by omega)
              exact L95 (38 - 0 + 1) 0 (by omega) (Nat.lt_succ_self _)
            · skip
              have ho := (eA_m1 q2).mp c78
              have hpl : pl F G (q (3 * k + 1)) (q (3 * k + 2)) (q (3 * k)) k (i + 1) X = stp G (some L) (q (3 * k)) k (pl F G (q (3 * k + 1)) (q (3 * k + 2)) (q (3 * k)) k i X) := by rw [pl, if_pos c44, hal]; simp only [ho, if_true]
              refine g_aload_n C 1 rfl dX5_playRule_81 ?_
              refine g_lload C 0 rfl dX5_playRule_82 ?_
              refine g_iload_n C 4 rfl dX5_playRule_84 ?_
              refine g_iload_n C 3 rfl dX5_playRule_85 ?_
              refine g_callV C (nA := 3) (ci := 3) (q0 := 0) (As := [.long (lN (zpk L 12)), .int (nI (q (3 * k))), .int (nI k)]) (wr := [(a0, .inr (0, [.ref a1])), (a1, .inl (ty 1, 4, .inr (.inl (zM F)))), (l0, .inr (2, [.ref l1, .ref l2, .int (nI nr)])), (l2, .inl (ty 0, 18, .inl (eR q)))]) (k_X5_takeMatch l D ty r0 a0 b0 b1 c0 c1 d0 e0 f0 rd dr G ro ru (some L) (q (3 * k)) k (pl F G (q (3 * k + 1)) (q (3 * k + 2)) (q (3 * k)) k i X) (fun M e => by cases e; exact hL) (by omega)) wm_X5_111 wn_X5_takeMatch wv_X5_takeMatch wi_X5 wc_X5_takeMatch rfl (by decide +kernel) ⟨(Nat.le_of_ble_eq_true rfl), (Nat.le_of_ble_eq_true rfl)⟩ ⟨rfl, rfl⟩ dX5_playRule_86 ⟨Nat.zero_le _, Nat.zero_le _⟩ rfl rfl rfl [0, 3, 4, 5, 6, 7, 8] [1, 2, 9, 10] rfl rfl rfl rfl (by decide) (Nat.le_of_ble_eq_true rfl) rfl (fun r W1 hp => ?_)
              obtain ⟨rfl, rfl⟩ := hp
              refine g_fix [] [(r0, .inr (3, [.ref a0, .ref b0, .int (nI rd), .int (nI ((stp G (some L) (q (3 * k)) k (pl F G (q (3 * k + 1)) (q (3 * k + 2)) (q (3 * k)) k i X)).1)), .int (nI dr), .ref c0, .ref d0, .ref e0, .ref f0])), (a0, .inr (0, [.ref a1])), (a1, .inl (ty 1, 4, .inr (.inl (zM F)))), (b0, .inr (0, [.ref b1])), (b1, .inl (ty 1, 4, .inr (.inl (zM G)))), (c0, .inr (0, [.ref c1])), (c1, .inl (ty 1, 4, .inr (.inl (zM ((stp G (some L) (q (3 * k)) k (pl F G (q (3 * k + 1)) (q (3 * k + 2)) (q (3 * k)) k i X)).2.1))))), (d0, .inl (ty 0, 256, .inl (roA (stp G (some L) (q (3 * k)) k (pl F G (q (3 * k + 1)) (q (3 * k + 2)) (q (3 * k)) k i X)).2.1 rd ro))), (e0, .inl (ty 0, 256, .inl (ruA (stp G (some L) (q (3 * k)) k (pl F G (q (3 * k + 1)) (q (3 * k + 2)) (q (3 * k)) k i X)).2.1 (stp G (some L) (q (3 * k)) k (pl F G (q (3 * k + 1)) (q (3 * k + 2)) (q (3 * k)) k i X)).2.2 ru))), (l0, .inr (2, [.ref l1, .ref l2, .int (nI nr)])), (l2, .inl (ty 0, 18, .inl (eR q)))] [4, 0, 1, 5, 6, 7, 8, 9, 10, 2, 3] rfl rfl rfl ?_
              refine g_goto C 143 dX5_playRule_89 rfl ?_
              refine g_ws [(r0, .inr (3, [.ref a0, .ref b0, .int (nI rd), .int (nI ((pl F G (q (3 * k + 1)) (q (3 * k + 2)) (q (3 * k)) k (i + 1) X).1)), .int (nI dr), .ref c0, .ref d0, .ref e0, .ref f0])), (a0, .inr (0, [.ref a1])), (a1, .inl (ty 1, 4, .inr (.inl (zM F)))), (b0, .inr (0, [.ref b1])), (b1, .inl (ty 1, 4, .inr (.inl (zM G)))), (c0, .inr (0, [.ref c1])), (c1, .inl (ty 1, 4, .inr (.inl (zM (pl F G (q (3 * k + 1)) (q (3 * k + 2)) (q (3 * k)) k (i + 1) X).2.1)))), (d0, .inl (ty 0, 256, .inl (roA (pl F G (q (3 * k + 1)) (q (3 * k + 2)) (q (3 * k)) k (i + 1) X).2.1 rd ro))), (e0, .inl (ty 0, 256, .inl (ruA (pl F G (q (3 * k + 1)) (q (3 * k + 2)) (q (3 * k)) k (i + 1) X).2.1 (pl F G (q (3 * k + 1)) (q (3 * k + 2)) (q (3 * k)) k (i + 1) X).2.2 ru))), (l0, .inr (2, [.ref l1, .ref l2, .int (nI nr)])), (l2, .inl (ty 0, 18, .inl (eR q)))] (by rw [hpl]) ?_
              refine g_iinc C (nI (i + 1)) [(6, .int (nI (i + 1))), (7, .long (lN (zpk L 12))), (0, .ref r0), (1, .ref l0), (2, .int (nI k)), (3, .int (nI (q (3 * k)))), (4, .int (nI (q (3 * k + 1)))), (5, .int (eA (q (3 * k + 2))))] 7 dX5_playRule_143 rfl (ii_1 _) (by decide) rfl ?_
              refine g_goto C 26 dX5_playRule_146 rfl ?_
              refine g_lo [2, 3, 4, 5, 6, 7, 0] [(0, .ref r0), (1, .ref l0), (2, .int (nI k)), (3, .int (nI (q (3 * k)))), (4, .int (nI (q (3 * k + 1)))), (5, .int (eA (q (3 * k + 2)))), (6, .int (nI (i + 1)))] rfl ?_
              exact ih26 (i + 1) (by omega) (by omega)
          · skip
            have hal : al idL (q (3 * k + 1)) i 4 = none := Option.not_isSome_iff_eq_none.mp (by rw [c69]; decide)
            have hpl : pl F G (q (3 * k + 1)) (q (3 * k + 2)) (q (3 * k)) k (i + 1) X = pl F G (q (3 * k + 1)) (q (3 * k + 2)) (q (3 * k)) k i X := by rw [pl, if_pos c44, hal]
            refine g_goto C 143 dX5_playRule_72 rfl ?_
            refine g_ws [(r0, .inr (3, [.ref a0, .ref b0, .int (nI rd), .int (nI ((pl F G (q (3 * k + 1)) (q (3 * k + 2)) (q (3 * k)) k (i + 1) X).1)), .int (nI dr), .ref c0, .ref d0, .ref e0, .ref f0])), (a0, .inr (0, [.ref a1])), (a1, .inl (ty 1, 4, .inr (.inl (zM F)))), (b0, .inr (0, [.ref b1])), (b1, .inl (ty 1, 4, .inr (.inl (zM G)))), (c0, .inr (0, [.ref c1])), (c1, .inl (ty 1, 4, .inr (.inl (zM (pl F G (q (3 * k + 1)) (q (3 * k + 2)) (q (3 * k)) k (i + 1) X).2.1)))), (d0, .inl (ty 0, 256, .inl (roA (pl F G (q (3 * k + 1)) (q (3 * k + 2)) (q (3 * k)) k (i + 1) X).2.1 rd ro))), (e0, .inl (ty 0, 256, .inl (ruA (pl F G (q (3 * k + 1)) (q (3 * k + 2)) (q (3 * k)) k (i + 1) X).2.1 (pl F G (q (3 * k + 1)) (q (3 * k + 2)) (q (3 * k)) k (i + 1) X).2.2 ru))), (l0, .inr (2, [.ref l1, .ref l2, .int (nI nr)])), (l2, .inl (ty 0, 18, .inl (eR q)))] (by rw [hpl]) ?_
            refine g_iinc C (nI (i + 1)) [(6, .int (nI (i + 1))), (7, .long (eL (al idL (q (3 * k + 1)) i 4))), (0, .ref r0), (1, .ref l0), (2, .int (nI k)), (3, .int (nI (q (3 * k)))), (4, .int (nI (q (3 * k + 1)))), (5, .int (eA (q (3 * k + 2))))] 7 dX5_playRule_143 rfl (ii_1 _) (by decide) rfl ?_
            refine g_goto C 26 dX5_playRule_146 rfl ?_
            refine g_lo [2, 3, 4, 5, 6, 7, 0] [(0, .ref r0), (1, .ref l0), (2, .int (nI k)), (3, .int (nI (q (3 * k)))), (4, .int (nI (q (3 * k + 1)))), (5, .int (eA (q (3 * k + 2)))), (6, .int (nI (i + 1)))] rfl ?_
            exact ih26 (i + 1) (by omega) (by omega)
        · skip
          have hpl : pl F G (q (3 * k + 1)) (q (3 * k + 2)) (q (3 * k)) k (i + 1) X = pl F G (q (3 * k + 1)) (q (3 * k + 2)) (q (3 * k)) k i X := by rw [pl, if_neg (by rw [c44]; decide)]
          refine g_goto C 143 dX5_playRule_47 rfl ?_
          refine g_ws [(r0, .inr (3, [.ref a0, .ref b0, .int (nI rd), .int (nI ((pl F G (q (3 * k + 1)) (q (3 * k + 2)) (q (3 * k)) k (i + 1) X).1)), .int (nI dr), .ref c0, .ref d0, .ref e0, .ref f0])), (a0, .inr (0, [.ref a1])), (a1, .inl (ty 1, 4, .inr (.inl (zM F)))), (b0, .inr (0, [.ref b1])), (b1, .inl (ty 1, 4, .inr (.inl (zM G)))), (c0, .inr (0, [.ref c1])), (c1, .inl (ty 1, 4, .inr (.inl (zM (pl F G (q (3 * k + 1)) (q (3 * k + 2)) (q (3 * k)) k (i + 1) X).2.1)))), (d0, .inl (ty 0, 256, .inl (roA (pl F G (q (3 * k + 1)) (q (3 * k + 2)) (q (3 * k)) k (i + 1) X).2.1 rd ro))), (e0, .inl (ty 0, 256, .inl (ruA (pl F G (q (3 * k + 1)) (q (3 * k + 2)) (q (3 * k)) k (i + 1) X).2.1 (pl F G (q (3 * k + 1)) (q (3 * k + 2)) (q (3 * k)) k (i + 1) X).2.2 ru))), (l0, .inr (2, [.ref l1, .ref l2, .int (nI nr)])), (l2, .inl (ty 0, 18, .inl (eR q)))] (by rw [hpl]) ?_
          refine g_iinc C (nI (i + 1)) [(6, .int (nI (i + 1))), (0, .ref r0), (1, .ref l0), (2, .int (nI k)), (3, .int (nI (q (3 * k)))), (4, .int (nI (q (3 * k + 1)))), (5, .int (eA (q (3 * k + 2))))] 6 dX5_playRule_143 rfl (ii_1 _) (by decide) rfl ?_
          refine g_goto C 26 dX5_playRule_146 rfl ?_
          refine g_lo [1, 2, 3, 4, 5, 6, 0] [(0, .ref r0), (1, .ref l0), (2, .int (nI k)), (3, .int (nI (q (3 * k)))), (4, .int (nI (q (3 * k + 1)))), (5, .int (eA (q (3 * k + 2)))), (6, .int (nI (i + 1)))] rfl ?_
          exact ih26 (i + 1) (by omega) (by omega)
  exact L26 (38 - 0 + 1) 0 (by omega) (Nat.lt_succ_self _)
