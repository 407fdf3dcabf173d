/-! the reference's reader walked -/
theorem nx_ge {w : Bool} {u m : Nat} (h : m ≤ u) : m ≤ (if w = true then u + 1 else u) := by split <;> omega
theorem nx_le {w : Bool} {u m : Nat} (h : u ≤ m) : (if w = true then u + 1 else u) ≤ m + 1 := by split <;> omega
theorem ptr_u {b : Nat → Nat} {len u : Nat} {w w9 : Bool} {u9 : Nat} {v9 : Int32} (h : PTR b len u w w9 u9 v9) : u ≤ u9 ∧ u9 ≤ u + 3 := by
  rw [h.2.1]
  unfold p3U p2U p1U
  exact ⟨nx_ge (nx_ge (nx_ge (Nat.le_refl _))), nx_le (nx_le (nx_le (Nat.le_refl _)))⟩
theorem tk_nn {b : Nat → Nat} {len u c : Nat} {w : Bool} (h : tkM b len u w c = false) (hw : w = true) : sgM b len u ≠ c := fun z => by
  have := tkM_t.mpr ⟨hw, z⟩
  rw [h] at this
  cases this
def msr (w : Bool) (u : Nat) : Nat := if w = true then 100 - u else 0
theorem msr_t {w : Bool} {u u2 : Nat} (h : u < 60) (h2 : u + 1 ≤ u2) : msr w u2 < msr true u := by
  unfold msr
  rw [if_pos rfl]
  split <;> omega
theorem msr_f {u u2 : Nat} (h : u < 60) : msr false u2 < msr true u := by
  unfold msr
  rw [if_pos rfl, if_neg (by decide)]
  omega
def RDA (b as : Nat → Nat) (len u n : Nat) (Lw : Nat → Nat) (w : Bool) : Prop := (w = true → u = len ∧ LE b as len len n Lw) ∧ (w = false → BD b as len u)
def rcn (Lw : Nat → Nat) : Nat → Nat
  | 0 => 0
  | k + 1 => rcn Lw k + (if Lw (3 * k + 1) = 256 then 0 else 1)
def Tf (T : Nat → Bool) (Lw : Nat → Nat) : Nat → (Nat → Bool)
  | 0 => T
  | k + 1 => if Lw (3 * k + 1) = 256 then zPut (Tf T Lw k) (Lw (3 * k)) else Tf T Lw k
theorem rcn_r {Lw : Nat → Nat} {k : Nat} (h : Lw (3 * k + 1) ≠ 256) : rcn Lw (k + 1) = rcn Lw k + 1 := by rw [rcn, if_neg h]
theorem rcn_f {Lw : Nat → Nat} {k : Nat} (h : Lw (3 * k + 1) = 256) : rcn Lw (k + 1) = rcn Lw k := by rw [rcn, if_pos h, Nat.add_zero]
theorem Tf_r {T : Nat → Bool} {Lw : Nat → Nat} {k : Nat} (h : Lw (3 * k + 1) ≠ 256) : Tf T Lw (k + 1) = Tf T Lw k := by rw [Tf, if_neg h]
theorem Tf_f {T : Nat → Bool} {Lw : Nat → Nat} {k : Nat} (h : Lw (3 * k + 1) = 256) : Tf T Lw (k + 1) = zPut (Tf T Lw k) (Lw (3 * k)) := by rw [Tf, if_pos h]
theorem rcn_le (Lw : Nat → Nat) (k : Nat) : rcn Lw k ≤ k := by
  induction k with
  | zero => exact Nat.le_refl _
  | succ k ih => rw [rcn]; split <;> omega
theorem rcn_mono (Lw : Nat → Nat) {k n : Nat} (h : k ≤ n) : rcn Lw k ≤ rcn Lw n := by
  induction n with
  | zero => rw [show k = 0 by omega]; exact Nat.le_refl _
  | succ n ih =>
    by_cases e : k = n + 1
    · rw [e]; exact Nat.le_refl _
    · have := ih (by omega)
      rw [rcn]; omega
theorem zcnt_put {S : Nat → Bool} {a : Nat} (ha : a < 256) : zcnt (zPut S a) 256 = zcnt S 256 + (if S a = true then 0 else 1) := by
  have key : ∀ n, zcnt (zPut S a) n = zcnt S n + (if a < n then (if S a = true then 0 else 1) else 0) := by
    intro n
    induction n with
    | zero => rw [if_neg (by omega)]; rfl
    | succ n ih =>
      rw [zcnt_1, zcnt_1, ih]
      by_cases e : n = a
      · subst e
        rw [if_neg (Nat.lt_irrefl _), if_pos (Nat.lt_succ_self _), show zPut S n n = true from if_pos rfl]
        cases S n <;> simp
      · rw [show zPut S a n = S n from if_neg e]
        by_cases l : a < n
        · have l2 : a < n + 1 := by omega
          rw [if_pos l, if_pos l2]; omega
        · have l2 : ¬ a < n + 1 := by omega
          rw [if_neg l, if_neg l2]; omega
  rw [key 256, if_pos ha]
def la (Lw : Nat → Nat) (P : LT) : Nat → LT
  | 0 => P
  | k + 1 => if Lw (3 * k + 1) = 256 then (zPut (la Lw P k).1 (Lw (3 * k)), (la Lw P k).2.1, (la Lw P k).2.2) else ((la Lw P k).1, aR (la Lw P k).2.1 (la Lw P k).2.2 (Lw (3 * k)) (Lw (3 * k + 1)) (Lw (3 * k + 2)), (la Lw P k).2.2 + 1)
theorem la_r {Lw : Nat → Nat} {P : LT} {k : Nat} (h : Lw (3 * k + 1) ≠ 256) : la Lw P (k + 1) = ((la Lw P k).1, aR (la Lw P k).2.1 (la Lw P k).2.2 (Lw (3 * k)) (Lw (3 * k + 1)) (Lw (3 * k + 2)), (la Lw P k).2.2 + 1) := by rw [la, if_neg h]
theorem la_f {Lw : Nat → Nat} {P : LT} {k : Nat} (h : Lw (3 * k + 1) = 256) : la Lw P (k + 1) = (zPut (la Lw P k).1 (Lw (3 * k)), (la Lw P k).2.1, (la Lw P k).2.2) := by rw [la, if_pos h]
theorem la_n (Lw : Nat → Nat) (P : LT) (k : Nat) : (la Lw P k).2.2 = P.2.2 + rcn Lw k ∧ (la Lw P k).1 = Tf P.1 Lw k := by
  induction k with
  | zero => exact ⟨rfl, rfl⟩
  | succ k ih =>
    by_cases h : Lw (3 * k + 1) = 256
    · rw [la_f h, rcn_f h, Tf_f h]
      exact ⟨ih.1, by rw [ih.2]⟩
    · rw [la_r h, rcn_r h, Tf_r h]
      exact ⟨by show (la Lw P k).2.2 + 1 = _; rw [ih.1]; rfl, ih.2⟩
theorem apl_la (Lw : Nat → Nat) (T : Nat → Bool) (q : Nat → Nat) (nr n : Nat) (h6 : nr ≤ 6) : apl Lw (0, T, q, nr) n = if nr + rcn Lw n ≤ 6 then some (n, la Lw (T, q, nr) n) else none := by
  induction n with
  | zero => rw [if_pos (by show nr + 0 ≤ 6; omega)]; rfl
  | succ n ih =>
    rw [apl, ih]
    have e := (la_n Lw (T, q, nr) n).1
    have e2 : (la Lw (T, q, nr) n).2.2 = nr + rcn Lw n := e
    by_cases h : Lw (3 * n + 1) = 256
    · rw [rcn_f h, la_f h]
      by_cases l : nr + rcn Lw n ≤ 6
      · rw [if_pos l, if_pos l]
        show (if Lw (3 * n + 1) = 256 then _ else _) = _
        rw [if_pos h]
      · rw [if_neg l, if_neg l]; rfl
    · rw [rcn_r h, la_r h]
      by_cases l : nr + rcn Lw n ≤ 6
      · rw [if_pos l]
        show (if Lw (3 * n + 1) = 256 then _ else if (la Lw (T, q, nr) n).2.2 < 6 then _ else _) = _
        rw [if_neg h, e2]
        by_cases l2 : nr + rcn Lw n < 6
        · rw [if_pos l2, if_pos (by omega)]
        · rw [if_neg l2, if_neg (by omega)]
      · rw [if_neg l, if_neg (by omega)]; rfl

def r_X8_wantsPart_p : Room := { frames := 2, cells := 0, slots := 0, locals := 44 }
set_option maxRecDepth 100000 in
set_option maxHeartbeats 4000000 in
theorem k_X8_wantsPart_p (l : Launch) (D : va_G) (ty : Nat → ClassId) (x0 : Nat) (th : Nat) (i1 : Nat) (i2 : Nat) (sd : Nat) (i3 : Nat) (ln : Nat) (j1 : Nat) (j2 : Nat) (j3 : Nat) (j4 : Nat) (j5 : Nat) (j6 : Nat) (fm : Nat) (rd : Nat) (mt : Nat) (dr : Nat) (j7 : Nat) (j8 : Nat) (tt : Nat) (wl : Bool) (j9 : Nat) (lm : Nat) (hs : Int64) (b : Nat → Nat) (hl : ln ≤ 60) (ht : tt < 2 ^ 30) (hb : ∀ j, j < ln → b j < 128) : gM l D ty yX8_wantsPart cX8_wantsPart 4 (some (FieldType.int : FieldType)) r_X8_wantsPart_p 0 0 [.ref x0] [(x0, .inr (6, [.int (nI th), .ref i1, .ref i2, .int (nI sd), .ref i3, .int (nI ln), .ref j1, .ref j2, .ref j3, .ref j4, .ref j5, .ref j6, .int (nI fm), .int (nI rd), .int (nI mt), .int (nI dr), .ref j7, .ref j8, .int (nI tt), .int (bI (wl)), .ref j9, .int (nI lm), .long (hs)])), (i3, .inl (ty 0, 60, .inl (tI b)))] (fun (zr : Option Value) (zW : va_W) => ∃ (w9 : Bool) (u9 : Nat) (v9 : Int32), PTR b ln tt wl w9 u9 v9 ∧ zr = some (.int (v9)) ∧ zW = [(x0, .inr (6, [.int (nI th), .ref i1, .ref i2, .int (nI sd), .ref i3, .int (nI ln), .ref j1, .ref j2, .ref j3, .ref j4, .ref j5, .ref j6, .int (nI fm), .int (nI rd), .int (nI mt), .int (nI dr), .ref j7, .ref j8, .int (nI u9), .int (bI (w9)), .ref j9, .int (nI lm), .long (hs)])), (i3, .inl (ty 0, 60, .inl (tI b)))]) := by
  have hsg := sgM_lt hb tt
  have hi97 := inI_97 _ hsg
  have hu1 := nx_lt (w := wpW b ln tt wl) ht
  have hu2 := nx_lt (w := wtW b ln (if wpW b ln tt wl = true then tt + 1 else tt) (wpW b ln tt wl)) hu1
  refine gM_of RX8 rfl (by decide +kernel) (Nat.le_of_ble_eq_true rfl) ?_
  intro pg en s0 mi ag bl mth cd AA HH QQ C E hnm
  show gW pg l en r_X8_wantsPart_p s0 mi ag bl mth cd 4 D AA HH QQ 0 [(0, .ref x0)] [] [(x0, .inr (6, [.int (nI th), .ref i1, .ref i2, .int (nI sd), .ref i3, .int (nI ln), .ref j1, .ref j2, .ref j3, .ref j4, .ref j5, .ref j6, .int (nI fm), .int (nI rd), .int (nI mt), .int (nI dr), .ref j7, .ref j8, .int (nI tt), .int (bI (wl)), .ref j9, .int (nI lm), .long (hs)])), (i3, .inl (ty 0, 60, .inl (tI b)))] 0 0
  refine g_aload_n C 0 rfl dX8_wantsPart_0 ?_
  refine g_callV C (nA := 0) (ci := 6) (q0 := 0) (As := []) (wr := []) (k_X8_sign l D ty x0 th i1 i2 sd i3 ln j1 j2 j3 j4 j5 j6 fm rd mt dr j7 j8 tt wl j9 lm hs b (by omega) (by omega)) wm_X8_161 wn_X8_sign wv_X8_sign wi_X8 wc_X8_sign rfl (by decide +kernel) ⟨(Nat.le_of_ble_eq_true rfl), (Nat.le_of_ble_eq_true rfl)⟩ ⟨rfl, rfl⟩ dX8_wantsPart_1 ⟨Nat.zero_le _, Nat.zero_le _⟩ rfl rfl rfl [0, 1] [] rfl rfl rfl rfl (by decide) (Nat.le_of_ble_eq_true rfl) rfl (fun r W1 hp => ?_)
  obtain ⟨rfl, rfl⟩ := hp
  refine g_fix [.int (nI (sgM b ln tt))] [(x0, .inr (6, [.int (nI th), .ref i1, .ref i2, .int (nI sd), .ref i3, .int (nI ln), .ref j1, .ref j2, .ref j3, .ref j4, .ref j5, .ref j6, .int (nI fm), .int (nI rd), .int (nI mt), .int (nI dr), .ref j7, .ref j8, .int (nI tt), .int (bI (wl)), .ref j9, .int (nI lm), .long (hs)])), (i3, .inl (ty 0, 60, .inl (tI b)))] [0, 1] rfl rfl rfl ?_
  refine g_bipush C (nI 97) bp_97 dX8_wantsPart_4 ?_
  refine g_isub C (nI (sgM b ln tt) - nI 97) dX8_wantsPart_6 rfl ?_
  refine g_istore_n C [(1, .int (nI (sgM b ln tt) - nI 97)), (0, .ref x0)] dX8_wantsPart_7 rfl (by decide) rfl ?_
  refine g_aload_n C 1 rfl dX8_wantsPart_8 ?_
  refine g_aload_n C 1 rfl dX8_wantsPart_9 ?_
  refine g_getf C wu_X8 0 rfl rfl 19 (by decide) wf_X8_157 rfl rfl dX8_wantsPart_10 ?_
  refine g_if_eqB C wl 29 rfl dX8_wantsPart_13 rfl (fun c13 => ?_) (fun c13 => ?_)
  · skip
    refine g_iconst C (nI 0) ic_0 dX8_wantsPart_29 ?_
    refine g_st [.int (bI (wpW b ln tt wl)), .ref x0] (by rw [show wpW b ln tt wl = (wl && decide (97 ≤ sgM b ln tt ∧ sgM b ln tt ≤ 100)) from rfl, ← hi97]; first | (rw [c13]; rfl) | (rw [c13, c22]; rfl)) ?_
    refine g_putf C wu_X8 tyX8 tyX8_ok nmX8 0 rfl rfl 19 (by decide) wf_X8_157 rfl rfl (bI_nar _) (bI_fits _) (Nat.le_of_ble_eq_true rfl) dX8_wantsPart_30 [(x0, .inr (6, [.int (nI th), .ref i1, .ref i2, .int (nI sd), .ref i3, .int (nI ln), .ref j1, .ref j2, .ref j3, .ref j4, .ref j5, .ref j6, .int (nI fm), .int (nI rd), .int (nI mt), .int (nI dr), .ref j7, .ref j8, .int (nI tt), .int (bI (wpW b ln tt wl)), .ref j9, .int (nI lm), .long (hs)])), (i3, .inl (ty 0, 60, .inl (tI b)))] rfl ?_
    refine g_aload_n C 1 rfl dX8_wantsPart_33 ?_
    refine g_dup C rfl dX8_wantsPart_34 ?_
    refine g_getf C wu_X8 0 rfl rfl 18 (by decide) wf_X8_154 rfl rfl dX8_wantsPart_35 ?_
    refine g_aload_n C 1 rfl dX8_wantsPart_38 ?_
    refine g_getf C wu_X8 0 rfl rfl 19 (by decide) wf_X8_157 rfl rfl dX8_wantsPart_39 ?_
    refine g_if_eqB C (wpW b ln tt wl) 49 rfl dX8_wantsPart_42 rfl (fun c42 => ?_) (fun c42 => ?_)
    · skip
      refine g_iconst C (nI 0) ic_0 dX8_wantsPart_49 ?_
      refine g_iadd C (nI (tt + 0)) dX8_wantsPart_50 (nI_add _ _) ?_
      refine g_putf C wu_X8 tyX8 tyX8_ok nmX8 0 rfl rfl 18 (by decide) wf_X8_154 rfl rfl rfl rfl (Nat.le_of_ble_eq_true rfl) dX8_wantsPart_51 [(x0, .inr (6, [.int (nI th), .ref i1, .ref i2, .int (nI sd), .ref i3, .int (nI ln), .ref j1, .ref j2, .ref j3, .ref j4, .ref j5, .ref j6, .int (nI fm), .int (nI rd), .int (nI mt), .int (nI dr), .ref j7, .ref j8, .int (nI (tt + 0)), .int (bI (wpW b ln tt wl)), .ref j9, .int (nI lm), .long (hs)])), (i3, .inl (ty 0, 60, .inl (tI b)))] rfl ?_
      refine g_ws [(x0, .inr (6, [.int (nI th), .ref i1, .ref i2, .int (nI sd), .ref i3, .int (nI ln), .ref j1, .ref j2, .ref j3, .ref j4, .ref j5, .ref j6, .int (nI fm), .int (nI rd), .int (nI mt), .int (nI dr), .ref j7, .ref j8, .int (nI ((if wpW b ln tt wl = true then tt + 1 else tt))), .int (bI (wpW b ln tt wl)), .ref j9, .int (nI lm), .long (hs)])), (i3, .inl (ty 0, 60, .inl (tI b)))] (by first | (rw [if_pos c42]; done) | (rw [if_neg (show ¬ wpW b ln tt wl = true by rw [c42]; decide)]; done) | (rw [if_pos c42]; rfl) | (rw [if_neg (show ¬ wpW b ln tt wl = true by rw [c42]; decide)]; rfl)) ?_
      refine g_aload_n C 1 rfl dX8_wantsPart_54 ?_
      refine g_callV C (nA := 0) (ci := 6) (q0 := 0) (As := []) (wr := []) (k_X8_wantsTerm l D ty x0 th i1 i2 sd i3 ln j1 j2 j3 j4 j5 j6 fm rd mt dr j7 j8 (if wpW b ln tt wl = true then tt + 1 else tt) (wpW b ln tt wl) j9 lm hs b (by omega) (by omega) hb) wm_X8_164 wn_X8_wantsTerm wv_X8_wantsTerm wi_X8 wc_X8_wantsTerm rfl (by decide +kernel) ⟨(Nat.le_of_ble_eq_true rfl), (Nat.le_of_ble_eq_true rfl)⟩ ⟨rfl, rfl⟩ dX8_wantsPart_55 ⟨Nat.zero_le _, Nat.zero_le _⟩ rfl rfl rfl [0, 1] [] rfl rfl rfl rfl (by decide) (Nat.le_of_ble_eq_true rfl) rfl (fun r W1 hp => ?_)
      obtain ⟨rfl, rfl⟩ := hp
      refine g_fix [.int (eA (tmc (sgM b ln (if wpW b ln tt wl = true then tt + 1 else tt))))] [(x0, .inr (6, [.int (nI th), .ref i1, .ref i2, .int (nI sd), .ref i3, .int (nI ln), .ref j1, .ref j2, .ref j3, .ref j4, .ref j5, .ref j6, .int (nI fm), .int (nI rd), .int (nI mt), .int (nI dr), .ref j7, .ref j8, .int (nI (if wtW b ln (if wpW b ln tt wl = true then tt + 1 else tt) (wpW b ln tt wl) = true then (if wpW b ln tt wl = true then tt + 1 else tt) + 1 else (if wpW b ln tt wl = true then tt + 1 else tt))), .int (bI (wtW b ln (if wpW b ln tt wl = true then tt + 1 else tt) (wpW b ln tt wl))), .ref j9, .int (nI lm), .long (hs)])), (i3, .inl (ty 0, 60, .inl (tI b)))] [0, 1] rfl rfl rfl ?_
      refine g_istore_n C [(2, .int (eA (tmc (sgM b ln (if wpW b ln tt wl = true then tt + 1 else tt))))), (1, .int (nI (sgM b ln tt) - nI 97)), (0, .ref x0)] dX8_wantsPart_58 rfl (by decide) rfl ?_
      refine g_aload_n C 2 rfl dX8_wantsPart_59 ?_
      refine g_callV C (nA := 0) (ci := 6) (q0 := 0) (As := []) (wr := []) (k_X8_wantsTerm l D ty x0 th i1 i2 sd i3 ln j1 j2 j3 j4 j5 j6 fm rd mt dr j7 j8 (if wtW b ln (if wpW b ln tt wl = true then tt + 1 else tt) (wpW b ln tt wl) = true then (if wpW b ln tt wl = true then tt + 1 else tt) + 1 else (if wpW b ln tt wl = true then tt + 1 else tt)) (wtW b ln (if wpW b ln tt wl = true then tt + 1 else tt) (wpW b ln tt wl)) j9 lm hs b (by omega) (by omega) hb) wm_X8_164 wn_X8_wantsTerm wv_X8_wantsTerm wi_X8 wc_X8_wantsTerm rfl (by decide +kernel) ⟨(Nat.le_of_ble_eq_true rfl), (Nat.le_of_ble_eq_true rfl)⟩ ⟨rfl, rfl⟩ dX8_wantsPart_60 ⟨Nat.zero_le _, Nat.zero_le _⟩ rfl rfl rfl [0, 1] [] rfl rfl rfl rfl (by decide) (Nat.le_of_ble_eq_true rfl) rfl (fun r W1 hp => ?_)
      obtain ⟨rfl, rfl⟩ := hp
      refine g_fix [.int (eA (tmc (sgM b ln (if wtW b ln (if wpW b ln tt wl = true then tt + 1 else tt) (wpW b ln tt wl) = true then (if wpW b ln tt wl = true then tt + 1 else tt) + 1 else (if wpW b ln tt wl = true then tt + 1 else tt)))))] [(x0, .inr (6, [.int (nI th), .ref i1, .ref i2, .int (nI sd), .ref i3, .int (nI ln), .ref j1, .ref j2, .ref j3, .ref j4, .ref j5, .ref j6, .int (nI fm), .int (nI rd), .int (nI mt), .int (nI dr), .ref j7, .ref j8, .int (nI (if wtW b ln (if wtW b ln (if wpW b ln tt wl = true then tt + 1 else tt) (wpW b ln tt wl) = true then (if wpW b ln tt wl = true then tt + 1 else tt) + 1 else (if wpW b ln tt wl = true then tt + 1 else tt)) (wtW b ln (if wpW b ln tt wl = true then tt + 1 else tt) (wpW b ln tt wl)) = true then (if wtW b ln (if wpW b ln tt wl = true then tt + 1 else tt) (wpW b ln tt wl) = true then (if wpW b ln tt wl = true then tt + 1 else tt) + 1 else (if wpW b ln tt wl = true then tt + 1 else tt)) + 1 else (if wtW b ln (if wpW b ln tt wl = true then tt + 1 else tt) (wpW b ln tt wl) = true then (if wpW b ln tt wl = true then tt + 1 else tt) + 1 else (if wpW b ln tt wl = true then tt + 1 else tt)))), .int (bI (wtW b ln (if wtW b ln (if wpW b ln tt wl = true then tt + 1 else tt) (wpW b ln tt wl) = true then (if wpW b ln tt wl = true then tt + 1 else tt) + 1 else (if wpW b ln tt wl = true then tt + 1 else tt)) (wtW b ln (if wpW b ln tt wl = true then tt + 1 else tt) (wpW b ln tt wl)))), .ref j9, .int (nI lm), .long (hs)])), (i3, .inl (ty 0, 60, .inl (tI b)))] [0, 1] rfl rfl rfl ?_
      refine g_istore_n C [(3, .int (eA (tmc (sgM b ln (if wtW b ln (if wpW b ln tt wl = true then tt + 1 else tt) (wpW b ln tt wl) = true then (if wpW b ln tt wl = true then tt + 1 else tt) + 1 else (if wpW b ln tt wl = true then tt + 1 else tt)))))), (2, .int (eA (tmc (sgM b ln (if wpW b ln tt wl = true then tt + 1 else tt))))), (1, .int (nI (sgM b ln tt) - nI 97)), (0, .ref x0)] dX8_wantsPart_63 rfl (by decide) rfl ?_
      refine g_bipush C (nI 64) bp_64 dX8_wantsPart_64 ?_
      refine g_iload_n C 2 rfl dX8_wantsPart_66 ?_
      refine g_imul C ((nI 64) * (nI (sgM b ln tt) - nI 97)) dX8_wantsPart_67 rfl ?_
      refine g_bipush C (nI 8) bp_8 dX8_wantsPart_68 ?_
      refine g_iload_n C 1 rfl dX8_wantsPart_70 ?_
      refine g_imul C ((nI 8) * (eA (tmc (sgM b ln (if wpW b ln tt wl = true then tt + 1 else tt))))) dX8_wantsPart_71 rfl ?_
      refine g_iadd C (((nI 64) * (nI (sgM b ln tt) - nI 97)) + ((nI 8) * (eA (tmc (sgM b ln (if wpW b ln tt wl = true then tt + 1 else tt)))))) dX8_wantsPart_72 rfl ?_
      refine g_iload_n C 0 rfl dX8_wantsPart_73 ?_
      refine g_iadd C ((((nI 64) * (nI (sgM b ln tt) - nI 97)) + ((nI 8) * (eA (tmc (sgM b ln (if wpW b ln tt wl = true then tt + 1 else tt)))))) + (eA (tmc (sgM b ln (if wtW b ln (if wpW b ln tt wl = true then tt + 1 else tt) (wpW b ln tt wl) = true then (if wpW b ln tt wl = true then tt + 1 else tt) + 1 else (if wpW b ln tt wl = true then tt + 1 else tt)))))) dX8_wantsPart_74 rfl ?_
      exact g_iret E dX8_wantsPart_75 (by decide) (by decide) ⟨wtW b ln (if wtW b ln (if wpW b ln tt wl = true then tt + 1 else tt) (wpW b ln tt wl) = true then (if wpW b ln tt wl = true then tt + 1 else tt) + 1 else (if wpW b ln tt wl = true then tt + 1 else tt)) (wtW b ln (if wpW b ln tt wl = true then tt + 1 else tt) (wpW b ln tt wl)), if wtW b ln (if wtW b ln (if wpW b ln tt wl = true then tt + 1 else tt) (wpW b ln tt wl) = true then (if wpW b ln tt wl = true then tt + 1 else tt) + 1 else (if wpW b ln tt wl = true then tt + 1 else tt)) (wtW b ln (if wpW b ln tt wl = true then tt + 1 else tt) (wpW b ln tt wl)) = true then (if wtW b ln (if wpW b ln tt wl = true then tt + 1 else tt) (wpW b ln tt wl) = true then (if wpW b ln tt wl = true then tt + 1 else tt) + 1 else (if wpW b ln tt wl = true then tt + 1 else tt)) + 1 else (if wtW b ln (if wpW b ln tt wl = true then tt + 1 else tt) (wpW b ln tt wl) = true then (if wpW b ln tt wl = true then tt + 1 else tt) + 1 else (if wpW b ln tt wl = true then tt + 1 else tt)), (((nI 64) * (nI (sgM b ln tt) - nI 97)) + ((nI 8) * (eA (tmc (sgM b ln (if wpW b ln tt wl = true then tt + 1 else tt)))))) + (eA (tmc (sgM b ln (if wtW b ln (if wpW b ln tt wl = true then tt + 1 else tt) (wpW b ln tt wl) = true then (if wpW b ln tt wl = true then tt + 1 else tt) + 1 else (if wpW b ln tt wl = true then tt + 1 else tt))))), ⟨rfl, rfl, rfl⟩, rfl, rfl⟩
    · skip
      refine g_iconst C (nI 1) ic_1 dX8_wantsPart_45 ?_
      refine g_goto C 50 dX8_wantsPart_46 rfl ?_
      refine g_iadd C (nI (tt + 1)) dX8_wantsPart_50 (nI_add _ _) ?_
      refine g_putf C wu_X8 tyX8 tyX8_ok nmX8 0 rfl rfl 18 (by decide) wf_X8_154 rfl rfl rfl rfl (Nat.le_of_ble_eq_true rfl) dX8_wantsPart_51 [(x0, .inr (6, [.int (nI th), .ref i1, .ref i2, .int (nI sd), .ref i3, .int (nI ln), .ref j1, .ref j2, .ref j3, .ref j4, .ref j5, .ref j6, .int (nI fm), .int (nI rd), .int (nI mt), .int (nI dr), .ref j7, .ref j8, .int (nI (tt + 1)), .int (bI (wpW b ln tt wl)), .ref j9, .int (nI lm), .long (hs)])), (i3, .inl (ty 0, 60, .inl (tI b)))] rfl ?_
      refine g_ws [(x0, .inr (6, [.int (nI th), .ref i1, .ref i2, .int (nI sd), .ref i3, .int (nI ln), .ref j1, .ref j2, .ref j3, .ref j4, .ref j5, .ref j6, .int (nI fm), .int (nI rd), .int (nI mt), .int (nI dr), .ref j7, .ref j8, .int (nI ((if wpW b ln tt wl = true then tt + 1 else tt))), .int (bI (wpW b ln tt wl)), .ref j9, .int (nI lm), .long (hs)])), (i3, .inl (ty 0, 60, .inl (tI b)))] (by first | (rw [if_pos c42]; done) | (rw [if_neg (show ¬ wpW b ln tt wl = true by rw [c42]; decide)]; done) | (rw [if_pos c42]; rfl) | (rw [if_neg (show ¬ wpW b ln tt wl = true by rw [c42]; decide)]; rfl)) ?_
      refine g_aload_n C 1 rfl dX8_wantsPart_54 ?_
      refine g_callV C (nA := 0) (ci := 6) (q0 := 0) (As := []) (wr := []) (k_X8_wantsTerm l D ty x0 th i1 i2 sd i3 ln j1 j2 j3 j4 j5 j6 fm rd mt dr j7 j8 (if wpW b ln tt wl = true then tt + 1 else tt) (wpW b ln tt wl) j9 lm hs b (by omega) (by omega) hb) wm_X8_164 wn_X8_wantsTerm wv_X8_wantsTerm wi_X8 wc_X8_wantsTerm rfl (by decide +kernel) ⟨(Nat.le_of_ble_eq_true rfl), (Nat.le_of_ble_eq_true rfl)⟩ ⟨rfl, rfl⟩ dX8_wantsPart_55 ⟨Nat.zero_le _, Nat.zero_le _⟩ rfl rfl rfl [0, 1] [] rfl rfl rfl rfl (by decide) (Nat.le_of_ble_eq_true rfl) rfl (fun r W1 hp => ?_)
      obtain ⟨rfl, rfl⟩ := hp
      refine g_fix [.int (eA (tmc (sgM b ln (if wpW b ln tt wl = true then tt + 1 else tt))))] [(x0, .inr (6, [.int (nI th), .ref i1, .ref i2, .int (nI sd), .ref i3, .int (nI ln), .ref j1, .ref j2, .ref j3, .ref j4, .ref j5, .ref j6, .int (nI fm), .int (nI rd), .int (nI mt), .int (nI dr), .ref j7, .ref j8, .int (nI (if wtW b ln (if wpW b ln tt wl = true then tt + 1 else tt) (wpW b ln tt wl) = true then (if wpW b ln tt wl = true then tt + 1 else tt) + 1 else (if wpW b ln tt wl = true then tt + 1 else tt))), .int (bI (wtW b ln (if wpW b ln tt wl = true then tt + 1 else tt) (wpW b ln tt wl))), .ref j9, .int (nI lm), .long (hs)])), (i3, .inl (ty 0, 60, .inl (tI b)))] [0, 1] rfl rfl rfl ?_
      refine g_istore_n C [(2, .int (eA (tmc (sgM b ln (if wpW b ln tt wl = true then tt + 1 else tt))))), (1, .int (nI (sgM b ln tt) - nI 97)), (0, .ref x0)] dX8_wantsPart_58 rfl (by decide) rfl ?_
      refine g_aload_n C 2 rfl dX8_wantsPart_59 ?_
      refine g_callV C (nA := 0) (ci := 6) (q0 := 0) (As := []) (wr := []) (k_X8_wantsTerm l D ty x0 th i1 i2 sd i3 ln j1 j2 j3 j4 j5 j6 fm rd mt dr j7 j8 (if wtW b ln (if wpW b ln tt wl = true then tt + 1 else tt) (wpW b ln tt wl) = true then (if wpW b ln tt wl = true then tt + 1 else tt) + 1 else (if wpW b ln tt wl = true then tt + 1 else tt)) (wtW b ln (if wpW b ln tt wl = true then tt + 1 else tt) (wpW b ln tt wl)) j9 lm hs b (by omega) (by omega) hb) wm_X8_164 wn_X8_wantsTerm wv_X8_wantsTerm wi_X8 wc_X8_wantsTerm rfl (by decide +kernel) ⟨(Nat.le_of_ble_eq_true rfl), (Nat.le_of_ble_eq_true rfl)⟩ ⟨rfl, rfl⟩ dX8_wantsPart_60 ⟨Nat.zero_le _, Nat.zero_le _⟩ rfl rfl rfl [0, 1] [] rfl rfl rfl rfl (by decide) (Nat.le_of_ble_eq_true rfl) rfl (fun r W1 hp => ?_)
      obtain ⟨rfl, rfl⟩ := hp
      refine g_fix [.int (eA (tmc (sgM b ln (if wtW b ln (if wpW b ln tt wl = true then tt + 1 else tt) (wpW b ln tt wl) = true then (if wpW b ln tt wl = true then tt + 1 else tt) + 1 else (if wpW b ln tt wl = true then tt + 1 else tt)))))] [(x0, .inr (6, [.int (nI th), .ref i1, .ref i2, .int (nI sd), .ref i3, .int (nI ln), .ref j1, .ref j2, .ref j3, .ref j4, .ref j5, .ref j6, .int (nI fm), .int (nI rd), .int (nI mt), .int (nI dr), .ref j7, .ref j8, .int (nI (if wtW b ln (if wtW b ln (if wpW b ln tt wl = true then tt + 1 else tt) (wpW b ln tt wl) = true then (if wpW b ln tt wl = true then tt + 1 else tt) + 1 else (if wpW b ln tt wl = true then tt + 1 else tt)) (wtW b ln (if wpW b ln tt wl = true then tt + 1 else tt) (wpW b ln tt wl)) = true then (if wtW b ln (if wpW b ln tt wl = true then tt + 1 else tt) (wpW b ln tt wl) = true then (if wpW b ln tt wl = true then tt + 1 else tt) + 1 else (if wpW b ln tt wl = true then tt + 1 else tt)) + 1 else (if wtW b ln (if wpW b ln tt wl = true then tt + 1 else tt) (wpW b ln tt wl) = true then (if wpW b ln tt wl = true then tt + 1 else tt) + 1 else (if wpW b ln tt wl = true then tt + 1 else tt)))), .int (bI (wtW b ln (if wtW b ln (if wpW b ln tt wl = true then tt + 1 else tt) (wpW b ln tt wl) = true then (if wpW b ln tt wl = true then tt + 1 else tt) + 1 else (if wpW b ln tt wl = true then tt + 1 else tt)) (wtW b ln (if wpW b ln tt wl = true then tt + 1 else tt) (wpW b ln tt wl)))), .ref j9, .int (nI lm), .long (hs)])), (i3, .inl (ty 0, 60, .inl (tI b)))] [0, 1] rfl rfl rfl ?_
      refine g_istore_n C [(3, .int (eA (tmc (sgM b ln (if wtW b ln (if wpW b ln tt wl = true then tt + 1 else tt) (wpW b ln tt wl) = true then (if wpW b ln tt wl = true then tt + 1 else tt) + 1 else (if wpW b ln tt wl = true then tt + 1 else tt)))))), (2, .int (eA (tmc (sgM b ln (if wpW b ln tt wl = true then tt + 1 else tt))))), (1, .int (nI (sgM b ln tt) - nI 97)), (0, .ref x0)] dX8_wantsPart_63 rfl (by decide) rfl ?_
      refine g_bipush C (nI 64) bp_64 dX8_wantsPart_64 ?_
      refine g_iload_n C 2 rfl dX8_wantsPart_66 ?_
      refine g_imul C ((nI 64) * (nI (sgM b ln tt) - nI 97)) dX8_wantsPart_67 rfl ?_
      refine g_bipush C (nI 8) bp_8 dX8_wantsPart_68 ?_
      refine g_iload_n C 1 rfl dX8_wantsPart_70 ?_
      refine g_imul C ((nI 8) * (eA (tmc (sgM b ln (if wpW b ln tt wl = true then tt + 1 else tt))))) dX8_wantsPart_71 rfl ?_
      refine g_iadd C (((nI 64) * (nI (sgM b ln tt) - nI 97)) + ((nI 8) * (eA (tmc (sgM b ln (if wpW b ln tt wl = true then tt + 1 else tt)))))) dX8_wantsPart_72 rfl ?_
      refine g_iload_n C 0 rfl dX8_wantsPart_73 ?_
      refine g_iadd C ((((nI 64) * (nI (sgM b ln tt) - nI 97)) + ((nI 8) * (eA (tmc (sgM b ln (if wpW b ln tt wl = true then tt + 1 else tt)))))) + (eA (tmc (sgM b ln (if wtW b ln (if wpW b ln tt wl = true then tt + 1 else tt) (wpW b ln tt wl) = true then (if wpW b ln tt wl = true then tt + 1 else tt) + 1 else (if wpW b ln tt wl = true then tt + 1 else tt)))))) dX8_wantsPart_74 rfl ?_
      exact g_iret E dX8_wantsPart_75 (by decide) (by decide) ⟨wtW b ln (if wtW b ln (if wpW b ln tt wl = true then tt + 1 else tt) (wpW b ln tt wl) = true then (if wpW b ln tt wl = true then tt + 1 else tt) + 1 else (if wpW b ln tt wl = true then tt + 1 else tt)) (wtW b ln (if wpW b ln tt wl = true then tt + 1 else tt) (wpW b ln tt wl)), if wtW b ln (if wtW b ln (if wpW b ln tt wl = true then tt + 1 else tt) (wpW b ln tt wl) = true then (if wpW b ln tt wl = true then tt + 1 else tt) + 1 else (if wpW b ln tt wl = true then tt + 1 else tt)) (wtW b ln (if wpW b ln tt wl = true then tt + 1 else tt) (wpW b ln tt wl)) = true then (if wtW b ln (if wpW b ln tt wl = true then tt + 1 else tt) (wpW b ln tt wl) = true then (if wpW b ln tt wl = true then tt + 1 else tt) + 1 else (if wpW b ln tt wl = true then tt + 1 else tt)) + 1 else (if wtW b ln (if wpW b ln tt wl = true then tt + 1 else tt) (wpW b ln tt wl) = true then (if wpW b ln tt wl = true then tt + 1 else tt) + 1 else (if wpW b ln tt wl = true then tt + 1 else tt)), (((nI 64) * (nI (sgM b ln tt) - nI 97)) + ((nI 8) * (eA (tmc (sgM b ln (if wpW b ln tt wl = true then tt + 1 else tt)))))) + (eA (tmc (sgM b ln (if wtW b ln (if wpW b ln tt wl = true then tt + 1 else tt) (wpW b ln tt wl) = true then (if wpW b ln tt wl = true then tt + 1 else tt) + 1 else (if wpW b ln tt wl = true then tt + 1 else tt))))), ⟨rfl, rfl, rfl⟩, rfl, rfl⟩
  · skip
    refine g_iload_n C 0 rfl dX8_wantsPart_16 ?_
    refine g_iconst C (nI 0) ic_0 dX8_wantsPart_17 ?_
    refine g_iconst C (nI 3) ic_3 dX8_wantsPart_18 ?_
    refine g_callS0 C (nA := 3) (k_X8_in l D ty (nI (sgM b ln tt) - nI 97) ((nI 0)) ((nI 3)) ) wm_X8_54 ws_X8_in wi_X8 wc_X8_in rfl (by decide +kernel) ⟨(Nat.le_of_ble_eq_true rfl), (Nat.le_of_ble_eq_true rfl)⟩ ⟨rfl, rfl⟩ dX8_wantsPart_19 (fun _ _ h => h.2) (Nat.le_of_ble_eq_true rfl) rfl ⟨Nat.zero_le _, Nat.zero_le _⟩ (fun r hp => ?_)
    obtain ⟨rfl, -⟩ := hp
    refine g_st [.int (bI (inI (nI (sgM b ln tt) - nI 97) ((nI 0)) ((nI 3)))), .ref x0] rfl ?_
    refine g_if_eqB C (inI (nI (sgM b ln tt) - nI 97) ((nI 0)) ((nI 3))) 29 rfl dX8_wantsPart_22 rfl (fun c22 => ?_) (fun c22 => ?_)
    · skip
      refine g_iconst C (nI 0) ic_0 dX8_wantsPart_29 ?_
      refine g_st [.int (bI (wpW b ln tt wl)), .ref x0] (by rw [show wpW b ln tt wl = (wl && decide (97 ≤ sgM b ln tt ∧ sgM b ln tt ≤ 100)) from rfl, ← hi97]; first | (rw [c13]; rfl) | (rw [c13, c22]; rfl)) ?_
      refine g_putf C wu_X8 tyX8 tyX8_ok nmX8 0 rfl rfl 19 (by decide) wf_X8_157 rfl rfl (bI_nar _) (bI_fits _) (Nat.le_of_ble_eq_true rfl) dX8_wantsPart_30 [(x0, .inr (6, [.int (nI th), .ref i1, .ref i2, .int (nI sd), .ref i3, .int (nI ln), .ref j1, .ref j2, .ref j3, .ref j4, .ref j5, .ref j6, .int (nI fm), .int (nI rd), .int (nI mt), .int (nI dr), .ref j7, .ref j8, .int (nI tt), .int (bI (wpW b ln tt wl)), .ref j9, .int (nI lm), .long (hs)])), (i3, .inl (ty 0, 60, .inl (tI b)))] rfl ?_
      refine g_aload_n C 1 rfl dX8_wantsPart_33 ?_
      refine g_dup C rfl dX8_wantsPart_34 ?_
      refine g_getf C wu_X8 0 rfl rfl 18 (by decide) wf_X8_154 rfl rfl dX8_wantsPart_35 ?_
      refine g_aload_n C 1 rfl dX8_wantsPart_38 ?_
      refine g_getf C wu_X8 0 rfl rfl 19 (by decide) wf_X8_157 rfl rfl dX8_wantsPart_39 ?_
      refine g_if_eqB C (wpW b ln tt wl) 49 rfl dX8_wantsPart_42 rfl (fun c42 => ?_) (fun c42 => ?_)
      · skip
        refine g_iconst C (nI 0) ic_0 dX8_wantsPart_49 ?_
        refine g_iadd C (nI (tt + 0)) dX8_wantsPart_50 (nI_add _ _) ?_
        refine g_putf C wu_X8 tyX8 tyX8_ok nmX8 0 rfl rfl 18 (by decide) wf_X8_154 rfl rfl rfl rfl (Nat.le_of_ble_eq_true rfl) dX8_wantsPart_51 [(x0, .inr (6, [.int (nI th), .ref i1, .ref i2, .int (nI sd), .ref i3, .int (nI ln), .ref j1, .ref j2, .ref j3, .ref j4, .ref j5, .ref j6, .int (nI fm), .int (nI rd), .int (nI mt), .int (nI dr), .ref j7, .ref j8, .int (nI (tt + 0)), .int (bI (wpW b ln tt wl)), .ref j9, .int (nI lm), .long (hs)])), (i3, .inl (ty 0, 60, .inl (tI b)))] rfl ?_
        refine g_ws [(x0, .inr (6, [.int (nI th), .ref i1, .ref i2, .int (nI sd), .ref i3, .int (nI ln), .ref j1, .ref j2, .ref j3, .ref j4, .ref j5, .ref j6, .int (nI fm), .int (nI rd), .int (nI mt), .int (nI dr), .ref j7, .ref j8, .int (nI ((if wpW b ln tt wl = true then tt + 1 else tt))), .int (bI (wpW b ln tt wl)), .ref j9, .int (nI lm), .long (hs)])), (i3, .inl (ty 0, 60, .inl (tI b)))] (by first | (rw [if_pos c42]; done) | (rw [if_neg (show ¬ wpW b ln tt wl = true by rw [c42]; decide)]; done) | (rw [if_pos c42]; rfl) | (rw [if_neg (show ¬ wpW b ln tt wl = true by rw [c42]; decide)]; rfl)) ?_
        refine g_aload_n C 1 rfl dX8_wantsPart_54 ?_
        refine g_callV C (nA := 0) (ci := 6) (q0 := 0) (As := []) (wr := []) (k_X8_wantsTerm l D ty x0 th i1 i2 sd i3 ln j1 j2 j3 j4 j5 j6 fm rd mt dr j7 j8 (if wpW b ln tt wl = true then tt + 1 else tt) (wpW b ln tt wl) j9 lm hs b (by omega) (by omega) hb) wm_X8_164 wn_X8_wantsTerm wv_X8_wantsTerm wi_X8 wc_X8_wantsTerm rfl (by decide +kernel) ⟨(Nat.le_of_ble_eq_true rfl), (Nat.le_of_ble_eq_true rfl)⟩ ⟨rfl, rfl⟩ dX8_wantsPart_55 ⟨Nat.zero_le _, Nat.zero_le _⟩ rfl rfl rfl [0, 1] [] rfl rfl rfl rfl (by decide) (Nat.le_of_ble_eq_true rfl) rfl (fun r W1 hp => ?_)
        obtain ⟨rfl, rfl⟩ := hp
        refine g_fix [.int (eA (tmc (sgM b ln (if wpW b ln tt wl = true then tt + 1 else tt))))] [(x0, .inr (6, [.int (nI th), .ref i1, .ref i2, .int (nI sd), .ref i3, .int (nI ln), .ref j1, .ref j2, .ref j3, .ref j4, .ref j5, .ref j6, .int (nI fm), .int (nI rd), .int (nI mt), .int (nI dr), .ref j7, .ref j8, .int (nI (if wtW b ln (if wpW b ln tt wl = true then tt + 1 else tt) (wpW b ln tt wl) = true then (if wpW b ln tt wl = true then tt + 1 else tt) + 1 else (if wpW b ln tt wl = true then tt + 1 else tt))), .int (bI (wtW b ln (if wpW b ln tt wl = true then tt + 1 else tt) (wpW b ln tt wl))), .ref j9, .int (nI lm), .long (hs)])), (i3, .inl (ty 0, 60, .inl (tI b)))] [0, 1] rfl rfl rfl ?_
        refine g_istore_n C [(2, .int (eA (tmc (sgM b ln (if wpW b ln tt wl = true then tt + 1 else tt))))), (1, .int (nI (sgM b ln tt) - nI 97)), (0, .ref x0)] dX8_wantsPart_58 rfl (by decide) rfl ?_
        refine g_aload_n C 2 rfl dX8_wantsPart_59 ?_
        refine g_callV C (nA := 0) (ci := 6) (q0 := 0) (As := []) (wr := []) (k_X8_wantsTerm l D ty x0 th i1 i2 sd i3 ln j1 j2 j3 j4 j5 j6 fm rd mt dr j7 j8 (if wtW b ln (if wpW b ln tt wl = true then tt + 1 else tt) (wpW b ln tt wl) = true then (if wpW b ln tt wl = true then tt + 1 else tt) + 1 else (if wpW b ln tt wl = true then tt + 1 else tt)) (wtW b ln (if wpW b ln tt wl = true then tt + 1 else tt) (wpW b ln tt wl)) j9 lm hs b (by omega) (by omega) hb) wm_X8_164 wn_X8_wantsTerm wv_X8_wantsTerm wi_X8 wc_X8_wantsTerm rfl (by decide +kernel) ⟨(Nat.le_of_ble_eq_true rfl), (Nat.le_of_ble_eq_true rfl)⟩ ⟨rfl, rfl⟩ dX8_wantsPart_60 ⟨Nat.zero_le _, Nat.zero_le _⟩ rfl rfl rfl [0, 1] [] rfl rfl rfl rfl (by decide) (Nat.le_of_ble_eq_true rfl) rfl (fun r W1 hp => ?_)
        obtain ⟨rfl, rfl⟩ := hp
        refine g_fix [.int (eA (tmc (sgM b ln (if wtW b ln (if wpW b ln tt wl = true then tt + 1 else tt) (wpW b ln tt wl) = true then (if wpW b ln tt wl = true then tt + 1 else tt) + 1 else (if wpW b ln tt wl = true then tt + 1 else tt)))))] [(x0, .inr (6, [.int (nI th), .ref i1, .ref i2, .int (nI sd), .ref i3, .int (nI ln), .ref j1, .ref j2, .ref j3, .ref j4, .ref j5, .ref j6, .int (nI fm), .int (nI rd), .int (nI mt), .int (nI dr), .ref j7, .ref j8, .int (nI (if wtW b ln (if wtW b ln (if wpW b ln tt wl = true then tt + 1 else tt) (wpW b ln tt wl) = true then (if wpW b ln tt wl = true then tt + 1 else tt) + 1 else (if wpW b ln tt wl = true then tt + 1 else tt)) (wtW b ln (if wpW b ln tt wl = true then tt + 1 else tt) (wpW b ln tt wl)) = true then (if wtW b ln (if wpW b ln tt wl = true then tt + 1 else tt) (wpW b ln tt wl) = true then (if wpW b ln tt wl = true then tt + 1 else tt) + 1 else (if wpW b ln tt wl = true then tt + 1 else tt)) + 1 else (if wtW b ln (if wpW b ln tt wl = true then tt + 1 else tt) (wpW b ln tt wl) = true then (if wpW b ln tt wl = true then tt + 1 else tt) + 1 else (if wpW b ln tt wl = true then tt + 1 else tt)))), .int (bI (wtW b ln (if wtW b ln (if wpW b ln tt wl = true then tt + 1 else tt) (wpW b ln tt wl) = true then (if wpW b ln tt wl = true then tt + 1 else tt) + 1 else (if wpW b ln tt wl = true then tt + 1 else tt)) (wtW b ln (if wpW b ln tt wl = true then tt + 1 else tt) (wpW b ln tt wl)))), .ref j9, .int (nI lm), .long (hs)])), (i3, .inl (ty 0, 60, .inl (tI b)))] [0, 1] rfl rfl rfl ?_
        refine g_istore_n C [(3, .int (eA (tmc (sgM b ln (if wtW b ln (if wpW b ln tt wl = true then tt + 1 else tt) (wpW b ln tt wl) = true then (if wpW b ln tt wl = true then tt + 1 else tt) + 1 else (if wpW b ln tt wl = true then tt + 1 else tt)))))), (2, .int (eA (tmc (sgM b ln (if wpW b ln tt wl = true then tt + 1 else tt))))), (1, .int (nI (sgM b ln tt) - nI 97)), (0, .ref x0)] dX8_wantsPart_63 rfl (by decide) rfl ?_
        refine g_bipush C (nI 64) bp_64 dX8_wantsPart_64 ?_
        refine g_iload_n C 2 rfl dX8_wantsPart_66 ?_
        refine g_imul C ((nI 64) * (nI (sgM b ln tt) - nI 97)) dX8_wantsPart_67 rfl ?_
        refine g_bipush C (nI 8) bp_8 dX8_wantsPart_68 ?_
        refine g_iload_n C 1 rfl dX8_wantsPart_70 ?_
        refine g_imul C ((nI 8) * (eA (tmc (sgM b ln (if wpW b ln tt wl = true then tt + 1 else tt))))) dX8_wantsPart_71 rfl ?_
        refine g_iadd C (((nI 64) * (nI (sgM b ln tt) - nI 97)) + ((nI 8) * (eA (tmc (sgM b ln (if wpW b ln tt wl = true then tt + 1 else tt)))))) dX8_wantsPart_72 rfl ?_
        refine g_iload_n C 0 rfl dX8_wantsPart_73 ?_
        refine g_iadd C ((((nI 64) * (nI (sgM b ln tt) - nI 97)) + ((nI 8) * (eA (tmc (sgM b ln (if wpW b ln tt wl = true then tt + 1 else tt)))))) + (eA (tmc (sgM b ln (if wtW b ln (if wpW b ln tt wl = true then tt + 1 else tt) (wpW b ln tt wl) = true then (if wpW b ln tt wl = true then tt + 1 else tt) + 1 else (if wpW b ln tt wl = true then tt + 1 else tt)))))) dX8_wantsPart_74 rfl ?_
        exact g_iret E dX8_wantsPart_75 (by decide) (by decide) ⟨wtW b ln (if wtW b ln (if wpW b ln tt wl = true then tt + 1 else tt) (wpW b ln tt wl) = true then (if wpW b ln tt wl = true then tt + 1 else tt) + 1 else (if wpW b ln tt wl = true then tt + 1 else tt)) (wtW b ln (if wpW b ln tt wl = true then tt + 1 else tt) (wpW b ln tt wl)), if wtW b ln (if wtW b ln (if wpW b ln tt wl = true then tt + 1 else tt) (wpW b ln tt wl) = true then (if wpW b ln tt wl = true then tt + 1 else tt) + 1 else (if wpW b ln tt wl = true then tt + 1 else tt)) (wtW b ln (if wpW b ln tt wl = true then tt + 1 else tt) (wpW b ln tt wl)) = true then (if wtW b ln (if wpW b ln tt wl = true then tt + 1 else tt) (wpW b ln tt wl) = true then (if wpW b ln tt wl = true then tt + 1 else tt) + 1 else (if wpW b ln tt wl = true then tt + 1 else tt)) + 1 else (if wtW b ln (if wpW b ln tt wl = true then tt + 1 else tt) (wpW b ln tt wl) = true then (if wpW b ln tt wl = true then tt + 1 else tt) + 1 else (if wpW b ln tt wl = true then tt + 1 else tt)), (((nI 64) * (nI (sgM b ln tt) - nI 97)) + ((nI 8) * (eA (tmc (sgM b ln (if wpW b ln tt wl = true then tt + 1 else tt)))))) + (eA (tmc (sgM b ln (if wtW b ln (if wpW b ln tt wl = true then tt + 1 else tt) (wpW b ln tt wl) = true then (if wpW b ln tt wl = true then tt + 1 else tt) + 1 else (if wpW b ln tt wl = true then tt + 1 else tt))))), ⟨rfl, rfl, rfl⟩, rfl, rfl⟩
      · skip
        refine g_iconst C (nI 1) ic_1 dX8_wantsPart_45 ?_
        refine g_goto C 50 dX8_wantsPart_46 rfl ?_
        refine g_iadd C (nI (tt + 1)) dX8_wantsPart_50 (nI_add _ _) ?_
        refine g_putf C wu_X8 tyX8 tyX8_ok nmX8 0 rfl rfl 18 (by decide) wf_X8_154 rfl rfl rfl rfl (Nat.le_of_ble_eq_true rfl) dX8_wantsPart_51 [(x0, .inr (6, [.int (nI th), .ref i1, .ref i2, .int (nI sd), .ref i3, .int (nI ln), .ref j1, .ref j2, .ref j3, .ref j4, .ref j5, .ref j6, .int (nI fm), .int (nI rd), .int (nI mt), .int (nI dr), .ref j7, .ref j8, .int (nI (tt + 1)), .int (bI (wpW b ln tt wl)), .ref j9, .int (nI lm), .long (hs)])), (i3, .inl (ty 0, 60, .inl (tI b)))] rfl ?_
        refine g_ws [(x0, .inr (6, [.int (nI th), .ref i1, .ref i2, .int (nI sd), .ref i3, .int (nI ln), .ref j1, .ref j2, .ref j3, .ref j4, .ref j5, .ref j6, .int (nI fm), .int (nI rd), .int (nI mt), .int (nI dr), .ref j7, .ref j8, .int (nI ((if wpW b ln tt wl = true then tt + 1 else tt))), .int (bI (wpW b ln tt wl)), .ref j9, .int (nI lm), .long (hs)])), (i3, .inl (ty 0, 60, .inl (tI b)))] (by first | (rw [if_pos c42]; done) | (rw [if_neg (show ¬ wpW b ln tt wl = true by rw [c42]; decide)]; done) | (rw [if_pos c42]; rfl) | (rw [if_neg (show ¬ wpW b ln tt wl = true by rw [c42]; decide)]; rfl)) ?_
        refine g_aload_n C 1 rfl dX8_wantsPart_54 ?_
        refine g_callV C (nA := 0) (ci := 6) (q0 := 0) (As := []) (wr := []) (k_X8_wantsTerm l D ty x0 th i1 i2 sd i3 ln j1 j2 j3 j4 j5 j6 fm rd mt dr j7 j8 (if wpW b ln tt wl = true then tt + 1 else tt) (wpW b ln tt wl) j9 lm hs b (by omega) (by omega) hb) wm_X8_164 wn_X8_wantsTerm wv_X8_wantsTerm wi_X8 wc_X8_wantsTerm rfl (by decide +kernel) ⟨(Nat.le_of_ble_eq_true rfl), (Nat.le_of_ble_eq_true rfl)⟩ ⟨rfl, rfl⟩ dX8_wantsPart_55 ⟨Nat.zero_le _, Nat.zero_le _⟩ rfl rfl rfl [0, 1] [] rfl rfl rfl rfl (by decide) (Nat.le_of_ble_eq_true rfl) rfl (fun r W1 hp => ?_)
        obtain ⟨rfl, rfl⟩ := hp
        refine g_fix [.int (eA (tmc (sgM b ln (if wpW b ln tt wl = true then tt + 1 else tt))))] [(x0, .inr (6, [.int (nI th), .ref i1, .ref i2, .int (nI sd), .ref i3, .int (nI ln), .ref j1, .ref j2, .ref j3, .ref j4, .ref j5, .ref j6, .int (nI fm), .int (nI rd), .int (nI mt), .int (nI dr), .ref j7, .ref j8, .int (nI (if wtW b ln (if wpW b ln tt wl = true then tt + 1 else tt) (wpW b ln tt wl) = true then (if wpW b ln tt wl = true then tt + 1 else tt) + 1 else (if wpW b ln tt wl = true then tt + 1 else tt))), .int (bI (wtW b ln (if wpW b ln tt wl = true then tt + 1 else tt) (wpW b ln tt wl))), .ref j9, .int (nI lm), .long (hs)])), (i3, .inl (ty 0, 60, .inl (tI b)))] [0, 1] rfl rfl rfl ?_
        refine g_istore_n C [(2, .int (eA (tmc (sgM b ln (if wpW b ln tt wl = true then tt + 1 else tt))))), (1, .int (nI (sgM b ln tt) - nI 97)), (0, .ref x0)] dX8_wantsPart_58 rfl (by decide) rfl ?_
        refine g_aload_n C 2 rfl dX8_wantsPart_59 ?_
        refine g_callV C (nA := 0) (ci := 6) (q0 := 0) (As := []) (wr := []) (k_X8_wantsTerm l D ty x0 th i1 i2 sd i3 ln j1 j2 j3 j4 j5 j6 fm rd mt dr j7 j8 (if wtW b ln (if wpW b ln tt wl = true then tt + 1 else tt) (wpW b ln tt wl) = true then (if wpW b ln tt wl = true then tt + 1 else tt) + 1 else (if wpW b ln tt wl = true then tt + 1 else tt)) (wtW b ln (if wpW b ln tt wl = true then tt + 1 else tt) (wpW b ln tt wl)) j9 lm hs b (by omega) (by omega) hb) wm_X8_164 wn_X8_wantsTerm wv_X8_wantsTerm wi_X8 wc_X8_wantsTerm rfl (by decide +kernel) ⟨(Nat.le_of_ble_eq_true rfl), (Nat.le_of_ble_eq_true rfl)⟩ ⟨rfl, rfl⟩ dX8_wantsPart_60 ⟨Nat.zero_le _, Nat.zero_le _⟩ rfl rfl rfl [0, 1] [] rfl rfl rfl rfl (by decide) (Nat.le_of_ble_eq_true rfl) rfl (fun r W1 hp => ?_)
        obtain ⟨rfl, rfl⟩ := hp
        refine g_fix [.int (eA (tmc (sgM b ln (if wtW b ln (if wpW b ln tt wl = true then tt + 1 else tt) (wpW b ln tt wl) = true then (if wpW b ln tt wl = true then tt + 1 else tt) + 1 else (if wpW b ln tt wl = true then tt + 1 else tt)))))] [(x0, .inr (6, [.int (nI th), .ref i1, .ref i2, .int (nI sd), .ref i3, .int (nI ln), .ref j1, .ref j2, .ref j3, .ref j4, .ref j5, .ref j6, .int (nI fm), .int (nI rd), .int (nI mt), .int (nI dr), .ref j7, .ref j8, .int (nI (if wtW b ln (if wtW b ln (if wpW b ln tt wl = true then tt + 1 else tt) (wpW b ln tt wl) = true then (if wpW b ln tt wl = true then tt + 1 else tt) + 1 else (if wpW b ln tt wl = true then tt + 1 else tt)) (wtW b ln (if wpW b ln tt wl = true then tt + 1 else tt) (wpW b ln tt wl)) = true then (if wtW b ln (if wpW b ln tt wl = true then tt + 1 else tt) (wpW b ln tt wl) = true then (if wpW b ln tt wl = true then tt + 1 else tt) + 1 else (if wpW b ln tt wl = true then tt + 1 else tt)) + 1 else (if wtW b ln (if wpW b ln tt wl = true then tt + 1 else tt) (wpW b ln tt wl) = true then (if wpW b ln tt wl = true then tt + 1 else tt) + 1 else (if wpW b ln tt wl = true then tt + 1 else tt)))), .int (bI (wtW b ln (if wtW b ln (if wpW b ln tt wl = true then tt + 1 else tt) (wpW b ln tt wl) = true then (if wpW b ln tt wl = true then tt + 1 else tt) + 1 else (if wpW b ln tt wl = true then tt + 1 else tt)) (wtW b ln (if wpW b ln tt wl = true then tt + 1 else tt) (wpW b ln tt wl)))), .ref j9, .int (nI lm), .long (hs)])), (i3, .inl (ty 0, 60, .inl (tI b)))] [0, 1] rfl rfl rfl ?_
        refine g_istore_n C [(3, .int (eA (tmc (sgM b ln (if wtW b ln (if wpW b ln tt wl = true then tt + 1 else tt) (wpW b ln tt wl) = true then (if wpW b ln tt wl = true then tt + 1 else tt) + 1 else (if wpW b ln tt wl = true then tt + 1 else tt)))))), (2, .int (eA (tmc (sgM b ln (if wpW b ln tt wl = true then tt + 1 else tt))))), (1, .int (nI (sgM b ln tt) - nI 97)), (0, .ref x0)] dX8_wantsPart_63 rfl (by decide) rfl ?_
        refine g_bipush C (nI 64) bp_64 dX8_wantsPart_64 ?_
        refine g_iload_n C 2 rfl dX8_wantsPart_66 ?_
        refine g_imul C ((nI 64) * (nI (sgM b ln tt) - nI 97)) dX8_wantsPart_67 rfl ?_
        refine g_bipush C (nI 8) bp_8 dX8_wantsPart_68 ?_
        refine g_iload_n C 1 rfl dX8_wantsPart_70 ?_
        refine g_imul C ((nI 8) * (eA (tmc (sgM b ln (if wpW b ln tt wl = true then tt + 1 else tt))))) dX8_wantsPart_71 rfl ?_
        refine g_iadd C (((nI 64) * (nI (sgM b ln tt) - nI 97)) + ((nI 8) * (eA (tmc (sgM b ln (if wpW b ln tt wl = true then tt + 1 else tt)))))) dX8_wantsPart_72 rfl ?_
        refine g_iload_n C 0 rfl dX8_wantsPart_73 ?_
        refine g_iadd C ((((nI 64) * (nI (sgM b ln tt) - nI 97)) + ((nI 8) * (eA (tmc (sgM b ln (if wpW b ln tt wl = true then tt + 1 else tt)))))) + (eA (tmc (sgM b ln (if wtW b ln (if wpW b ln tt wl = true then tt + 1 else tt) (wpW b ln tt wl) = true then (if wpW b ln tt wl = true then tt + 1 else tt) + 1 else (if wpW b ln tt wl = true then tt + 1 else tt)))))) dX8_wantsPart_74 rfl ?_
        exact g_iret E dX8_wantsPart_75 (by decide) (by decide) ⟨wtW b ln (if wtW b ln (if wpW b ln tt wl = true then tt + 1 else tt) (wpW b ln tt wl) = true then (if wpW b ln tt wl = true then tt + 1 else tt) + 1 else (if wpW b ln tt wl = true then tt + 1 else tt)) (wtW b ln (if wpW b ln tt wl = true then tt + 1 else tt) (wpW b ln tt wl)), if wtW b ln (if wtW b ln (if wpW b ln tt wl = true then tt + 1 else tt) (wpW b ln tt wl) = true then (if wpW b ln tt wl = true then tt + 1 else tt) + 1 else (if wpW b ln tt wl = true then tt + 1 else tt)) (wtW b ln (if wpW b ln tt wl = true then tt + 1 else tt) (wpW b ln tt wl)) = true then (if wtW b ln (if wpW b ln tt wl = true then tt + 1 else tt) (wpW b ln tt wl) = true then (if wpW b ln tt wl = true then tt + 1 else tt) + 1 else (if wpW b ln tt wl = true then tt + 1 else tt)) + 1 else (if wtW b ln (if wpW b ln tt wl = true then tt + 1 else tt) (wpW b ln tt wl) = true then (if wpW b ln tt wl = true then tt + 1 else tt) + 1 else (if wpW b ln tt wl = true then tt + 1 else tt)), (((nI 64) * (nI (sgM b ln tt) - nI 97)) + ((nI 8) * (eA (tmc (sgM b ln (if wpW b ln tt wl = true then tt + 1 else tt)))))) + (eA (tmc (sgM b ln (if wtW b ln (if wpW b ln tt wl = true then tt + 1 else tt) (wpW b ln tt wl) = true then (if wpW b ln tt wl = true then tt + 1 else tt) + 1 else (if wpW b ln tt wl = true then tt + 1 else tt))))), ⟨rfl, rfl, rfl⟩, rfl, rfl⟩
    · skip
      refine g_iconst C (nI 1) ic_1 dX8_wantsPart_25 ?_
      refine g_goto C 30 dX8_wantsPart_26 rfl ?_
      refine g_st [.int (bI (wpW b ln tt wl)), .ref x0] (by rw [show wpW b ln tt wl = (wl && decide (97 ≤ sgM b ln tt ∧ sgM b ln tt ≤ 100)) from rfl, ← hi97]; first | (rw [c13]; rfl) | (rw [c13, c22]; rfl)) ?_
      refine g_putf C wu_X8 tyX8 tyX8_ok nmX8 0 rfl rfl 19 (by decide) wf_X8_157 rfl rfl (bI_nar _) (bI_fits _) (Nat.le_of_ble_eq_true rfl) dX8_wantsPart_30 [(x0, .inr (6, [.int (nI th), .ref i1, .ref i2, .int (nI sd), .ref i3, .int (nI ln), .ref j1, .ref j2, .ref j3, .ref j4, .ref j5, .ref j6, .int (nI fm), .int (nI rd), .int (nI mt), .int (nI dr), .ref j7, .ref j8, .int (nI tt), .int (bI (wpW b ln tt wl)), .ref j9, .int (nI lm), .long (hs)])), (i3, .inl (ty 0, 60, .inl (tI b)))] rfl ?_
      refine g_aload_n C 1 rfl dX8_wantsPart_33 ?_
      refine g_dup C rfl dX8_wantsPart_34 ?_
      refine g_getf C wu_X8 0 rfl rfl 18 (by decide) wf_X8_154 rfl rfl dX8_wantsPart_35 ?_
      refine g_aload_n C 1 rfl dX8_wantsPart_38 ?_
      refine g_getf C wu_X8 0 rfl rfl 19 (by decide) wf_X8_157 rfl rfl dX8_wantsPart_39 ?_
      refine g_if_eqB C (wpW b ln tt wl) 49 rfl dX8_wantsPart_42 rfl (fun c42 => ?_) (fun c42 => ?_)
      · skip
        refine g_iconst C (nI 0) ic_0 dX8_wantsPart_49 ?_
        refine g_iadd C (nI (tt + 0)) dX8_wantsPart_50 (nI_add _ _) ?_
        refine g_putf C wu_X8 tyX8 tyX8_ok nmX8 0 rfl rfl 18 (by decide) wf_X8_154 rfl rfl rfl rfl (Nat.le_of_ble_eq_true rfl) dX8_wantsPart_51 [(x0, .inr (6, [.int (nI th), .ref i1, .ref i2, .int (nI sd), .ref i3, .int (nI ln), .ref j1, .ref j2, .ref j3, .ref j4, .ref j5, .ref j6, .int (nI fm), .int (nI rd), .int (nI mt), .int (nI dr), .ref j7, .ref j8, .int (nI (tt + 0)), .int (bI (wpW b ln tt wl)), .ref j9, .int (nI lm), .long (hs)])), (i3, .inl (ty 0, 60, .inl (tI b)))] rfl ?_
        refine g_ws [(x0, .inr (6, [.int (nI th), .ref i1, .ref i2, .int (nI sd), .ref i3, .int (nI ln), .ref j1, .ref j2, .ref j3, .ref j4, .ref j5, .ref j6, .int (nI fm), .int (nI rd), .int (nI mt), .int (nI dr), .ref j7, .ref j8, .int (nI ((if wpW b ln tt wl = true then tt + 1 else tt))), .int (bI (wpW b ln tt wl)), .ref j9, .int (nI lm), .long (hs)])), (i3, .inl (ty 0, 60, .inl (tI b)))] (by first | (rw [if_pos c42]; done) | (rw [if_neg (show ¬ wpW b ln tt wl = true by rw [c42]; decide)]; done) | (rw [if_pos c42]; rfl) | (rw [if_neg (show ¬ wpW b ln tt wl = true by rw [c42]; decide)]; rfl)) ?_
        refine g_aload_n C 1 rfl dX8_wantsPart_54 ?_
        refine g_callV C (nA := 0) (ci := 6) (q0 := 0) (As := []) (wr := []) (k_X8_wantsTerm l D ty x0 th i1 i2 sd i3 ln j1 j2 j3 j4 j5 j6 fm rd mt dr j7 j8 (if wpW b ln tt wl = true then tt + 1 else tt) (wpW b ln tt wl) j9 lm hs b (by omega) (by omega) hb) wm_X8_164 wn_X8_wantsTerm wv_X8_wantsTerm wi_X8 wc_X8_wantsTerm rfl (by decide +kernel) ⟨(Nat.le_of_ble_eq_true rfl), (Nat.le_of_ble_eq_true rfl)⟩ ⟨rfl, rfl⟩ dX8_wantsPart_55 ⟨Nat.zero_le _, Nat.zero_le _⟩ rfl rfl rfl [0, 1] [] rfl rfl rfl rfl (by decide) (Nat.le_of_ble_eq_true rfl) rfl (fun r W1 hp => ?_)
        obtain ⟨rfl, rfl⟩ := hp
        refine g_fix [.int (eA (tmc (sgM b ln (if wpW b ln tt wl = true then tt + 1 else tt))))] [(x0, .inr (6, [.int (nI th), .ref i1, .ref i2, .int (nI sd), .ref i3, .int (nI ln), .ref j1, .ref j2, .ref j3, .ref j4, .ref j5, .ref j6, .int (nI fm), .int (nI rd), .int (nI mt), .int (nI dr), .ref j7, .ref j8, .int (nI (if wtW b ln (if wpW b ln tt wl = true then tt + 1 else tt) (wpW b ln tt wl) = true then (if wpW b ln tt wl = true then tt + 1 else tt) + 1 else (if wpW b ln tt wl = true then tt + 1 else tt))), .int (bI (wtW b ln (if wpW b ln tt wl = true then tt + 1 else tt) (wpW b ln tt wl))), .ref j9, .int (nI lm), .long (hs)])), (i3, .inl (ty 0, 60, .inl (tI b)))] [0, 1] rfl rfl rfl ?_
        refine g_istore_n C [(2, .int (eA (tmc (sgM b ln (if wpW b ln tt wl = true then tt + 1 else tt))))), (1, .int (nI (sgM b ln tt) - nI 97)), (0, .ref x0)] dX8_wantsPart_58 rfl (by decide) rfl ?_
        refine g_aload_n C 2 rfl dX8_wantsPart_59 ?_
        refine g_callV C (nA := 0) (ci := 6) (q0 := 0) (As := []) (wr := []) (k_X8_wantsTerm l D ty x0 th i1 i2 sd i3 ln j1 j2 j3 j4 j5 j6 fm rd mt dr j7 j8 (if wtW b ln (if wpW b ln tt wl = true then tt + 1 else tt) (wpW b ln tt wl) = true then (if wpW b ln tt wl = true then tt + 1 else tt) + 1 else (if wpW b ln tt wl = true then tt + 1 else tt)) (wtW b ln (if wpW b ln tt wl = true then tt + 1 else tt) (wpW b ln tt wl)) j9 lm hs b (by omega) (by omega) hb) wm_X8_164 wn_X8_wantsTerm wv_X8_wantsTerm wi_X8 wc_X8_wantsTerm rfl (by decide +kernel) ⟨(Nat.le_of_ble_eq_true rfl), (Nat.le_of_ble_eq_true rfl)⟩ ⟨rfl, rfl⟩ dX8_wantsPart_60 ⟨Nat.zero_le _, Nat.zero_le _⟩ rfl rfl rfl [0, 1] [] rfl rfl rfl rfl (by decide) (Nat.le_of_ble_eq_true rfl) rfl (fun r W1 hp => ?_)
        obtain ⟨rfl, rfl⟩ := hp
        refine g_fix [.int (eA (tmc (sgM b ln (if wtW b ln (if wpW b ln tt wl = true then tt + 1 else tt) (wpW b ln tt wl) = true then (if wpW b ln tt wl = true then tt + 1 else tt) + 1 else (if wpW b ln tt wl = true then tt + 1 else tt)))))] [(x0, .inr (6, [.int (nI th), .ref i1, .ref i2, .int (nI sd), .ref i3, .int (nI ln), .ref j1, .ref j2, .ref j3, .ref j4, .ref j5, .ref j6, .int (nI fm), .int (nI rd), .int (nI mt), .int (nI dr), .ref j7, .ref j8, .int (nI (if wtW b ln (if wtW b ln (if wpW b ln tt wl = true then tt + 1 else tt) (wpW b ln tt wl) = true then (if wpW b ln tt wl = true then tt + 1 else tt) + 1 else (if wpW b ln tt wl = true then tt + 1 else tt)) (wtW b ln (if wpW b ln tt wl = true then tt + 1 else tt) (wpW b ln tt wl)) = true then (if wtW b ln (if wpW b ln tt wl = true then tt + 1 else tt) (wpW b ln tt wl) = true then (if wpW b ln tt wl = true then tt + 1 else tt) + 1 else (if wpW b ln tt wl = true then tt + 1 else tt)) + 1 else (if wtW b ln (if wpW b ln tt wl = true then tt + 1 else tt) (wpW b ln tt wl) = true then (if wpW b ln tt wl = true then tt + 1 else tt) + 1 else (if wpW b ln tt wl = true then tt + 1 else tt)))), .int (bI (wtW b ln (if wtW b ln (if wpW b ln tt wl = true then tt + 1 else tt) (wpW b ln tt wl) = true then (if wpW b ln tt wl = true then tt + 1 else tt) + 1 else (if wpW b ln tt wl = true then tt + 1 else tt)) (wtW b ln (if wpW b ln tt wl = true then tt + 1 else tt) (wpW b ln tt wl)))), .ref j9, .int (nI lm), .long (hs)])), (i3, .inl (ty 0, 60, .inl (tI b)))] [0, 1] rfl rfl rfl ?_
        refine g_istore_n C [(3, .int (eA (tmc (sgM b ln (if wtW b ln (if wpW b ln tt wl = true then tt + 1 else tt) (wpW b ln tt wl) = true then (if wpW b ln tt wl = true then tt + 1 else tt) + 1 else (if wpW b ln tt wl = true then tt + 1 else tt)))))), (2, .int (eA (tmc (sgM b ln (if wpW b ln tt wl = true then tt + 1 else tt))))), (1, .int (nI (sgM b ln tt) - nI 97)), (0, .ref x0)] dX8_wantsPart_63 rfl (by decide) rfl ?_
        refine g_bipush C (nI 64) bp_64 dX8_wantsPart_64 ?_
        refine g_iload_n C 2 rfl dX8_wantsPart_66 ?_
        refine g_imul C ((nI 64) * (nI (sgM b ln tt) - nI 97)) dX8_wantsPart_67 rfl ?_
        refine g_bipush C (nI 8) bp_8 dX8_wantsPart_68 ?_
        refine g_iload_n C 1 rfl dX8_wantsPart_70 ?_
        refine g_imul C ((nI 8) * (eA (tmc (sgM b ln (if wpW b ln tt wl = true then tt + 1 else tt))))) dX8_wantsPart_71 rfl ?_
        refine g_iadd C (((nI 64) * (nI (sgM b ln tt) - nI 97)) + ((nI 8) * (eA (tmc (sgM b ln (if wpW b ln tt wl = true then tt + 1 else tt)))))) dX8_wantsPart_72 rfl ?_
        refine g_iload_n C 0 rfl dX8_wantsPart_73 ?_
        refine g_iadd C ((((nI 64) * (nI (sgM b ln tt) - nI 97)) + ((nI 8) * (eA (tmc (sgM b ln (if wpW b ln tt wl = true then tt + 1 else tt)))))) + (eA (tmc (sgM b ln (if wtW b ln (if wpW b ln tt wl = true then tt + 1 else tt) (wpW b ln tt wl) = true then (if wpW b ln tt wl = true then tt + 1 else tt) + 1 else (if wpW b ln tt wl = true then tt + 1 else tt)))))) dX8_wantsPart_74 rfl ?_
        exact g_iret E dX8_wantsPart_75 (by decide) (by decide) ⟨wtW b ln (if wtW b ln (if wpW b ln tt wl = true then tt + 1 else tt) (wpW b ln tt wl) = true then (if wpW b ln tt wl = true then tt + 1 else tt) + 1 else (if wpW b ln tt wl = true then tt + 1 else tt)) (wtW b ln (if wpW b ln tt wl = true then tt + 1 else tt) (wpW b ln tt wl)), if wtW b ln (if wtW b ln (if wpW b ln tt wl = true then tt + 1 else tt) (wpW b ln tt wl) = true then (if wpW b ln tt wl = true then tt + 1 else tt) + 1 else (if wpW b ln tt wl = true then tt + 1 else tt)) (wtW b ln (if wpW b ln tt wl = true then tt + 1 else tt) (wpW b ln tt wl)) = true then (if wtW b ln (if wpW b ln tt wl = true then tt + 1 else tt) (wpW b ln tt wl) = true then (if wpW b ln tt wl = true then tt + 1 else tt) + 1 else (if wpW b ln tt wl = true then tt + 1 else tt)) + 1 else (if wtW b ln (if wpW b ln tt wl = true then tt + 1 else tt) (wpW b ln tt wl) = true then (if wpW b ln tt wl = true then tt + 1 else tt) + 1 else (if wpW b ln tt wl = true then tt + 1 else tt)), (((nI 64) * (nI (sgM b ln tt) - nI 97)) + ((nI 8) * (eA (tmc (sgM b ln (if wpW b ln tt wl = true then tt + 1 else tt)))))) + (eA (tmc (sgM b ln (if wtW b ln (if wpW b ln tt wl = true then tt + 1 else tt) (wpW b ln tt wl) = true then (if wpW b ln tt wl = true then tt + 1 else tt) + 1 else (if wpW b ln tt wl = true then tt + 1 else tt))))), ⟨rfl, rfl, rfl⟩, rfl, rfl⟩
      · skip
        refine g_iconst C (nI 1) ic_1 dX8_wantsPart_45 ?_
        refine g_goto C 50 dX8_wantsPart_46 rfl ?_
        refine g_iadd C (nI (tt + 1)) dX8_wantsPart_50 (nI_add _ _) ?_
        refine g_putf C wu_X8 tyX8 tyX8_ok nmX8 0 rfl rfl 18 (by decide) wf_X8_154 rfl rfl rfl rfl (Nat.le_of_ble_eq_true rfl) dX8_wantsPart_51 [(x0, .inr (6, [.int (nI th), .ref i1, .ref i2, .int (nI sd), .ref i3, .int (nI ln), .ref j1, .ref j2, .ref j3, .ref j4, .ref j5, .ref j6, .int (nI fm), .int (nI rd), .int (nI mt), .int (nI dr), .ref j7, .ref j8, .int (nI (tt + 1)), .int (bI (wpW b ln tt wl)), .ref j9, .int (nI lm), .long (hs)])), (i3, .inl (ty 0, 60, .inl (tI b)))] rfl ?_
        refine g_ws [(x0, .inr (6, [.int (nI th), .ref i1, .ref i2, .int (nI sd), .ref i3, .int (nI ln), .ref j1, .ref j2, .ref j3, .ref j4, .ref j5, .ref j6, .int (nI fm), .int (nI rd), .int (nI mt), .int (nI dr), .ref j7, .ref j8, .int (nI ((if wpW b ln tt wl = true then tt + 1 else tt))), .int (bI (wpW b ln tt wl)), .ref j9, .int (nI lm), .long (hs)])), (i3, .inl (ty 0, 60, .inl (tI b)))] (by first | (rw [if_pos c42]; done) | (rw [if_neg (show ¬ wpW b ln tt wl = true by rw [c42]; decide)]; done) | (rw [if_pos c42]; rfl) | (rw [if_neg (show ¬ wpW b ln tt wl = true by rw [c42]; decide)]; rfl)) ?_
        refine g_aload_n C 1 rfl dX8_wantsPart_54 ?_
        refine g_callV C (nA := 0) (ci := 6) (q0 := 0) (As := []) (wr := []) (k_X8_wantsTerm l D ty x0 th i1 i2 sd i3 ln j1 j2 j3 j4 j5 j6 fm rd mt dr j7 j8 (if wpW b ln tt wl = true then tt + 1 else tt) (wpW b ln tt wl) j9 lm hs b (by omega) (by omega) hb) wm_X8_164 wn_X8_wantsTerm wv_X8_wantsTerm wi_X8 wc_X8_wantsTerm rfl (by decide +kernel) ⟨(Nat.le_of_ble_eq_true rfl), (Nat.le_of_ble_eq_true rfl)⟩ ⟨rfl, rfl⟩ dX8_wantsPart_55 ⟨Nat.zero_le _, Nat.zero_le _⟩ rfl rfl rfl [0, 1] [] rfl rfl rfl rfl (by decide) (Nat.le_of_ble_eq_true rfl) rfl (fun r W1 hp => ?_)
        obtain ⟨rfl, rfl⟩ := hp
        refine g_fix [.int (eA (tmc (sgM b ln (if wpW b ln tt wl = true then tt + 1 else tt))))] [(x0, .inr (6, [.int (nI th), .ref i1, .ref i2, .int (nI sd), .ref i3, .int (nI ln), .ref j1, .ref j2, .ref j3, .ref j4, .ref j5, .ref j6, .int (nI fm), .int (nI rd), .int (nI mt), .int (nI dr), .ref j7, .ref j8, .int (nI (if wtW b ln (if wpW b ln tt wl = true then tt + 1 else tt) (wpW b ln tt wl) = true then (if wpW b ln tt wl = true then tt + 1 else tt) + 1 else (if wpW b ln tt wl = true then tt + 1 else tt))), .int (bI (wtW b ln (if wpW b ln tt wl = true then tt + 1 else tt) (wpW b ln tt wl))), .ref j9, .int (nI lm), .long (hs)])), (i3, .inl (ty 0, 60, .inl (tI b)))] [0, 1] rfl rfl rfl ?_
        refine g_istore_n C [(2, .int (eA (tmc (sgM b ln (if wpW b ln tt wl = true then tt + 1 else tt))))), (1, .int (nI (sgM b ln tt) - nI 97)), (0, .ref x0)] dX8_wantsPart_58 rfl (by decide) rfl ?_
        refine g_aload_n C 2 rfl dX8_wantsPart_59 ?_
        refine g_callV C (nA := 0) (ci := 6) (q0 := 0) (As := []) (wr := []) (k_X8_wantsTerm l D ty x0 th i1 i2 sd i3 ln j1 j2 j3 j4 j5 j6 fm rd mt dr j7 j8 (if wtW b ln (if wpW b ln tt wl = true then tt + 1 else tt) (wpW b ln tt wl) = true then (if wpW b ln tt wl = true then tt + 1 else tt) + 1 else (if wpW b ln tt wl = true then tt + 1 else tt)) (wtW b ln (if wpW b ln tt wl = true then tt + 1 else tt) (wpW b ln tt wl)) j9 lm hs b (by omega) (by omega) hb) wm_X8_164 wn_X8_wantsTerm wv_X8_wantsTerm wi_X8 wc_X8_wantsTerm rfl (by decide +kernel) ⟨(Nat.le_of_ble_eq_true rfl), (Nat.le_of_ble_eq_true rfl)⟩ ⟨rfl, rfl⟩ dX8_wantsPart_60 ⟨Nat.zero_le _, Nat.zero_le _⟩ rfl rfl rfl [0, 1] [] rfl rfl rfl rfl (by decide) (Nat.le_of_ble_eq_true rfl) rfl (fun r W1 hp => ?_)
        obtain ⟨rfl, rfl⟩ := hp
        refine g_fix [.int (eA (tmc (sgM b ln (if wtW b ln (if wpW b ln tt wl = true then tt + 1 else tt) (wpW b ln tt wl) = true then (if wpW b ln tt wl = true then tt + 1 else tt) + 1 else (if wpW b ln tt wl = true then tt + 1 else tt)))))] [(x0, .inr (6, [.int (nI th), .ref i1, .ref i2, .int (nI sd), .ref i3, .int (nI ln), .ref j1, .ref j2, .ref j3, .ref j4, .ref j5, .ref j6, .int (nI fm), .int (nI rd), .int (nI mt), .int (nI dr), .ref j7, .ref j8, .int (nI (if wtW b ln (if wtW b ln (if wpW b ln tt wl = true then tt + 1 else tt) (wpW b ln tt wl) = true then (if wpW b ln tt wl = true then tt + 1 else tt) + 1 else (if wpW b ln tt wl = true then tt + 1 else tt)) (wtW b ln (if wpW b ln tt wl = true then tt + 1 else tt) (wpW b ln tt wl)) = true then (if wtW b ln (if wpW b ln tt wl = true then tt + 1 else tt) (wpW b ln tt wl) = true then (if wpW b ln tt wl = true then tt + 1 else tt) + 1 else (if wpW b ln tt wl = true then tt + 1 else tt)) + 1 else (if wtW b ln (if wpW b ln tt wl = true then tt + 1 else tt) (wpW b ln tt wl) = true then (if wpW b ln tt wl = true then tt + 1 else tt) + 1 else (if wpW b ln tt wl = true then tt + 1 else tt)))), .int (bI (wtW b ln (if wtW b ln (if wpW b ln tt wl = true then tt + 1 else tt) (wpW b ln tt wl) = true then (if wpW b ln tt wl = true then tt + 1 else tt) + 1 else (if wpW b ln tt wl = true then tt + 1 else tt)) (wtW b ln (if wpW b ln tt wl = true then tt + 1 else tt) (wpW b ln tt wl)))), .ref j9, .int (nI lm), .long (hs)])), (i3, .inl (ty 0, 60, .inl (tI b)))] [0, 1] rfl rfl rfl ?_
        refine g_istore_n C [(3, .int (eA (tmc (sgM b ln (if wtW b ln (if wpW b ln tt wl = true then tt + 1 else tt) (wpW b ln tt wl) = true then (if wpW b ln tt wl = true then tt + 1 else tt) + 1 else (if wpW b ln tt wl = true then tt + 1 else tt)))))), (2, .int (eA (tmc (sgM b ln (if wpW b ln tt wl = true then tt + 1 else tt))))), (1, .int (nI (sgM b ln tt) - nI 97)), (0, .ref x0)] dX8_wantsPart_63 rfl (by decide) rfl ?_
        refine g_bipush C (nI 64) bp_64 dX8_wantsPart_64 ?_
        refine g_iload_n C 2 rfl dX8_wantsPart_66 ?_
        refine g_imul C ((nI 64) * (nI (sgM b ln tt) - nI 97)) dX8_wantsPart_67 rfl ?_
        refine g_bipush C (nI 8) bp_8 dX8_wantsPart_68 ?_
        refine g_iload_n C 1 rfl dX8_wantsPart_70 ?_
        refine g_imul C ((nI 8) * (eA (tmc (sgM b ln (if wpW b ln tt wl = true then tt + 1 else tt))))) dX8_wantsPart_71 rfl ?_
        refine g_iadd C (((nI 64) * (nI (sgM b ln tt) - nI 97)) + ((nI 8) * (eA (tmc (sgM b ln (if wpW b ln tt wl = true then tt + 1 else tt)))))) dX8_wantsPart_72 rfl ?_
        refine g_iload_n C 0 rfl dX8_wantsPart_73 ?_
        refine g_iadd C ((((nI 64) * (nI (sgM b ln tt) - nI 97)) + ((nI 8) * (eA (tmc (sgM b ln (if wpW b ln tt wl = true then tt + 1 else tt)))))) + (eA (tmc (sgM b ln (if wtW b ln (if wpW b ln tt wl = true then tt + 1 else tt) (wpW b ln tt wl) = true then (if wpW b ln tt wl = true then tt + 1 else tt) + 1 else (if wpW b ln tt wl = true then tt + 1 else tt)))))) dX8_wantsPart_74 rfl ?_
        exact g_iret E dX8_wantsPart_75 (by decide) (by decide) ⟨wtW b ln (if wtW b ln (if wpW b ln tt wl = true then tt + 1 else tt) (wpW b ln tt wl) = true then (if wpW b ln tt wl = true then tt + 1 else tt) + 1 else (if wpW b ln tt wl = true then tt + 1 else tt)) (wtW b ln (if wpW b ln tt wl = true then tt + 1 else tt) (wpW b ln tt wl)), if wtW b ln (if wtW b ln (if wpW b ln tt wl = true then tt + 1 else tt) (wpW b ln tt wl) = true then (if wpW b ln tt wl = true then tt + 1 else tt) + 1 else (if wpW b ln tt wl = true then tt + 1 else tt)) (wtW b ln (if wpW b ln tt wl = true then tt + 1 else tt) (wpW b ln tt wl)) = true then (if wtW b ln (if wpW b ln tt wl = true then tt + 1 else tt) (wpW b ln tt wl) = true then (if wpW b ln tt wl = true then tt + 1 else tt) + 1 else (if wpW b ln tt wl = true then tt + 1 else tt)) + 1 else (if wtW b ln (if wpW b ln tt wl = true then tt + 1 else tt) (wpW b ln tt wl) = true then (if wpW b ln tt wl = true then tt + 1 else tt) + 1 else (if wpW b ln tt wl = true then tt + 1 else tt)), (((nI 64) * (nI (sgM b ln tt) - nI 97)) + ((nI 8) * (eA (tmc (sgM b ln (if wpW b ln tt wl = true then tt + 1 else tt)))))) + (eA (tmc (sgM b ln (if wtW b ln (if wpW b ln tt wl = true then tt + 1 else tt) (wpW b ln tt wl) = true then (if wpW b ln tt wl = true then tt + 1 else tt) + 1 else (if wpW b ln tt wl = true then tt + 1 else tt))))), ⟨rfl, rfl, rfl⟩, rfl, rfl⟩
def r_X8_readsLaw : Room := { frames := 3, cells := 0, slots := 0, locals := 67 }
set_option maxRecDepth 100000 in
set_option maxHeartbeats 4000000 in
theorem k_X8_readsLaw (l : Launch) (D : va_G) (ty : Nat → ClassId) (x0 : Nat) (th : Nat) (i1 : Nat) (i2 : Nat) (sd : Nat) (i3 : Nat) (ln : Nat) (j1 : Nat) (j2 : Nat) (j3 : Nat) (j4 : Nat) (j5 : Nat) (j6 : Nat) (fm : Nat) (rd : Nat) (mt : Nat) (dr : Nat) (j7 : Nat) (j8 : Nat) (tt : Nat) (j9 : Nat) (lm : Nat) (hs : Int64) (b : Nat → Nat) (Lw : Nat → Nat) (hl : ln ≤ 60) (hb : ∀ j, j < ln → b j < 128) (ht : tt ≤ 60) (hlm : lm ≤ 15) : gM l D ty yX8_readsLaw cX8_readsLaw 4 none r_X8_readsLaw 0 0 [.ref x0] [(x0, .inr (6, [.int (nI th), .ref i1, .ref i2, .int (nI sd), .ref i3, .int (nI ln), .ref j1, .ref j2, .ref j3, .ref j4, .ref j5, .ref j6, .int (nI fm), .int (nI rd), .int (nI mt), .int (nI dr), .ref j7, .ref j8, .int (nI tt), .int (bI (true)), .ref j9, .int (nI lm), .long (hs)])), (i3, .inl (ty 0, 60, .inl (tI b))), (j9, .inl (ty 0, 96, .inl (eR Lw)))] (fun (zr : Option Value) (zW : va_W) => ∃ (w9 : Bool) (u9 : Nat) (n9 : Nat) (M9 : Nat → Nat), (∀ as, LB b as ln tt lm Lw → LAP b as ln u9 n9 M9 w9) ∧ tt ≤ u9 ∧ zr = none ∧ zW = [(x0, .inr (6, [.int (nI th), .ref i1, .ref i2, .int (nI sd), .ref i3, .int (nI ln), .ref j1, .ref j2, .ref j3, .ref j4, .ref j5, .ref j6, .int (nI fm), .int (nI rd), .int (nI mt), .int (nI dr), .ref j7, .ref j8, .int (nI u9), .int (bI (w9)), .ref j9, .int (nI n9), .long (hs)])), (i3, .inl (ty 0, 60, .inl (tI b))), (j9, .inl (ty 0, 96, .inl (eR M9)))]) := by
  refine gM_of RX8 rfl (by decide +kernel) (Nat.le_of_ble_eq_true rfl) ?_
  intro pg en s0 mi ag bl mth cd AA HH QQ C E hnm
  show gW pg l en r_X8_readsLaw s0 mi ag bl mth cd 4 D AA HH QQ 0 [(0, .ref x0)] [] [(x0, .inr (6, [.int (nI th), .ref i1, .ref i2, .int (nI sd), .ref i3, .int (nI ln), .ref j1, .ref j2, .ref j3, .ref j4, .ref j5, .ref j6, .int (nI fm), .int (nI rd), .int (nI mt), .int (nI dr), .ref j7, .ref j8, .int (nI tt), .int (bI (true)), .ref j9, .int (nI lm), .long (hs)])), (i3, .inl (ty 0, 60, .inl (tI b))), (j9, .inl (ty 0, 96, .inl (eR Lw)))] 0 0
  refine g_aload_n C 0 rfl dX8_readsLaw_0 ?_
  refine g_callV C (nA := 0) (ci := 6) (q0 := 0) (As := []) (wr := [(j9, .inl (ty 0, 96, .inl (eR Lw)))]) (k_X8_wantsPart_p l D ty x0 th i1 i2 sd i3 ln j1 j2 j3 j4 j5 j6 fm rd mt dr j7 j8 tt true j9 lm hs b (by omega) (by omega) hb) wm_X8_167 wn_X8_wantsPart wv_X8_wantsPart wi_X8 wc_X8_wantsPart rfl (by decide +kernel) ⟨(Nat.le_of_ble_eq_true rfl), (Nat.le_of_ble_eq_true rfl)⟩ ⟨rfl, rfl⟩ dX8_readsLaw_1 ⟨Nat.zero_le _, Nat.zero_le _⟩ rfl rfl rfl [0, 1] [2] rfl rfl rfl rfl (by decide) (Nat.le_of_ble_eq_true rfl) rfl (fun r W1 hp => ?_)
  obtain ⟨w1, u1, v1, hp1, rfl, rfl⟩ := hp
  refine g_fix [.int (v1)] [(x0, .inr (6, [.int (nI th), .ref i1, .ref i2, .int (nI sd), .ref i3, .int (nI ln), .ref j1, .ref j2, .ref j3, .ref j4, .ref j5, .ref j6, .int (nI fm), .int (nI rd), .int (nI mt), .int (nI dr), .ref j7, .ref j8, .int (nI u1), .int (bI (w1)), .ref j9, .int (nI lm), .long (hs)])), (i3, .inl (ty 0, 60, .inl (tI b))), (j9, .inl (ty 0, 96, .inl (eR Lw)))] [1, 2, 0] rfl rfl rfl ?_
  have hu1 := ptr_u hp1
  refine g_istore_n C [(1, .int (v1)), (0, .ref x0)] dX8_readsLaw_4 rfl (by decide) rfl ?_
  refine g_iconst C (-1) ic_m1 dX8_readsLaw_5 ?_
  refine g_istore_n C [(2, .int (-1)), (1, .int (v1)), (0, .ref x0)] dX8_readsLaw_6 rfl (by decide) rfl ?_
  refine g_iconst C (-1) ic_m1 dX8_readsLaw_7 ?_
  refine g_istore_n C [(3, .int (-1)), (2, .int (-1)), (1, .int (v1)), (0, .ref x0)] dX8_readsLaw_8 rfl (by decide) rfl ?_
  refine g_lo2 [(3, .int (eA 256)), (2, .int (eA 256)), (1, .int (v1)), (0, .ref x0)] rfl ?_
  refine g_aload_n C 3 rfl dX8_readsLaw_9 ?_
  refine g_bipush C (nI 60) bp_60 dX8_readsLaw_10 ?_
  refine g_callV C (nA := 1) (ci := 6) (q0 := 0) (As := [.int (nI 60)]) (wr := [(j9, .inl (ty 0, 96, .inl (eR Lw)))]) (k_X8_takes l D ty x0 th i1 i2 sd i3 ln j1 j2 j3 j4 j5 j6 fm rd mt dr j7 j8 u1 w1 j9 lm hs b 60 (by omega) (by omega) hb (by omega)) wm_X8_170 wn_X8_takes wv_X8_takes wi_X8 wc_X8_takes rfl (by decide +kernel) ⟨(Nat.le_of_ble_eq_true rfl), (Nat.le_of_ble_eq_true rfl)⟩ ⟨rfl, rfl⟩ dX8_readsLaw_12 ⟨Nat.zero_le _, Nat.zero_le _⟩ rfl rfl rfl [0, 1] [2] rfl rfl rfl rfl (by decide) (Nat.le_of_ble_eq_true rfl) rfl (fun r W1 hp => ?_)
  obtain ⟨rfl, rfl⟩ := hp
  refine g_fix [.int (bI (tkM b ln u1 w1 60))] [(x0, .inr (6, [.int (nI th), .ref i1, .ref i2, .int (nI sd), .ref i3, .int (nI ln), .ref j1, .ref j2, .ref j3, .ref j4, .ref j5, .ref j6, .int (nI fm), .int (nI rd), .int (nI mt), .int (nI dr), .ref j7, .ref j8, .int (nI (if tkM b ln u1 w1 60 = true then u1 + 1 else u1)), .int (bI (w1)), .ref j9, .int (nI lm), .long (hs)])), (i3, .inl (ty 0, 60, .inl (tI b))), (j9, .inl (ty 0, 96, .inl (eR Lw)))] [1, 2, 0] rfl rfl rfl ?_
  refine g_if_eqB C (tkM b ln u1 w1 60) 40 rfl dX8_readsLaw_15 rfl (fun c15 => ?_) (fun c15 => ?_)
  · skip
    refine g_ws [(x0, .inr (6, [.int (nI th), .ref i1, .ref i2, .int (nI sd), .ref i3, .int (nI ln), .ref j1, .ref j2, .ref j3, .ref j4, .ref j5, .ref j6, .int (nI fm), .int (nI rd), .int (nI mt), .int (nI dr), .ref j7, .ref j8, .int (nI u1), .int (bI (w1)), .ref j9, .int (nI lm), .long (hs)])), (i3, .inl (ty 0, 60, .inl (tI b))), (j9, .inl (ty 0, 96, .inl (eR Lw)))] (by rw [if_neg (by rw [c15]; decide)]) ?_
    refine g_aload_n C 3 rfl dX8_readsLaw_40 ?_
    refine g_aload_n C 3 rfl dX8_readsLaw_41 ?_
    refine g_getf C wu_X8 0 rfl rfl 19 (by decide) wf_X8_157 rfl rfl dX8_readsLaw_42 ?_
    refine g_if_eqB C w1 59 rfl dX8_readsLaw_45 rfl (fun c45 => ?_) (fun c45 => ?_)
    · skip
      refine g_iconst C (nI 0) ic_0 dX8_readsLaw_59 ?_
      refine g_st [.int (bI (w1 && isF (pH b ln tt))), .ref x0] (by first | (rw [c45, c52]; rfl) | (rw [c52, Bool.and_false]; rfl) | (rw [c45]; rfl)) ?_
      refine g_putf C wu_X8 tyX8 tyX8_ok nmX8 0 rfl rfl 19 (by decide) wf_X8_157 rfl rfl (bI_nar _) (bI_fits _) (Nat.le_of_ble_eq_true rfl) dX8_readsLaw_60 [(x0, .inr (6, [.int (nI th), .ref i1, .ref i2, .int (nI sd), .ref i3, .int (nI ln), .ref j1, .ref j2, .ref j3, .ref j4, .ref j5, .ref j6, .int (nI fm), .int (nI rd), .int (nI mt), .int (nI dr), .ref j7, .ref j8, .int (nI u1), .int (bI (w1 && isF (pH b ln tt))), .ref j9, .int (nI lm), .long (hs)])), (i3, .inl (ty 0, 60, .inl (tI b))), (j9, .inl (ty 0, 96, .inl (eR Lw)))] rfl ?_
      refine g_aload_n C 3 rfl dX8_readsLaw_63 ?_
      refine g_getf C wu_X8 0 rfl rfl 19 (by decide) wf_X8_157 rfl rfl dX8_readsLaw_64 ?_
      refine g_if_eqB C (w1 && isF (pH b ln tt)) 120 rfl dX8_readsLaw_67 rfl (fun c67 => ?_) (fun c67 => ?_)
      · skip
        exact g_vret E dX8_readsLaw_120 (by decide) (by decide) ⟨w1 && isF (pH b ln tt), u1, lm, Lw, (fun as hB => ⟨(fun q => absurd (c67.symm.trans q) (by decide)), fun _ => (by rw [hp1.2.1]; exact (pt_ok hB.1 hB.2.2.1).1 (hp1.1.symm.trans c45))⟩), (by omega), rfl, rfl⟩
      · skip
        exact absurd (c67.symm.trans (by rw [c45, Bool.false_and])) (by decide)
    · skip
      have hv1 := ptr_v (c45 ▸ hp1)
      have h60 : sgM b ln (tt + 3) ≠ 60 := by have := tk_nn c15 c45; rw [hv1.2.1] at this; exact this
      refine g_lo2 [(3, .int (eA 256)), (2, .int (eA 256)), (1, .int (nI (pH b ln tt))), (0, .ref x0)] (by rw [hv1.2.2.1]) ?_
      refine g_iload_n C 2 rfl dX8_readsLaw_48 ?_
      refine g_callS0 C (nA := 1) (k_X8_isFact l D ty (pH b ln tt) hv1.2.2.2) wm_X8_58 ws_X8_isFact wi_X8 wc_X8_isFact rfl (by decide +kernel) ⟨(Nat.le_of_ble_eq_true rfl), (Nat.le_of_ble_eq_true rfl)⟩ ⟨rfl, rfl⟩ dX8_readsLaw_49 (fun _ _ h => h.2) (Nat.le_of_ble_eq_true rfl) rfl ⟨Nat.zero_le _, Nat.zero_le _⟩ (fun r hp => ?_)
      obtain ⟨rfl, -⟩ := hp
      refine g_st [.int (bI (isF (pH b ln tt))), .ref x0] rfl ?_
      refine g_if_eqB C (isF (pH b ln tt)) 59 rfl dX8_readsLaw_52 rfl (fun c52 => ?_) (fun c52 => ?_)
      · skip
        refine g_iconst C (nI 0) ic_0 dX8_readsLaw_59 ?_
        refine g_st [.int (bI (w1 && isF (pH b ln tt))), .ref x0] (by first | (rw [c45, c52]; rfl) | (rw [c52, Bool.and_false]; rfl) | (rw [c45]; rfl)) ?_
        refine g_putf C wu_X8 tyX8 tyX8_ok nmX8 0 rfl rfl 19 (by decide) wf_X8_157 rfl rfl (bI_nar _) (bI_fits _) (Nat.le_of_ble_eq_true rfl) dX8_readsLaw_60 [(x0, .inr (6, [.int (nI th), .ref i1, .ref i2, .int (nI sd), .ref i3, .int (nI ln), .ref j1, .ref j2, .ref j3, .ref j4, .ref j5, .ref j6, .int (nI fm), .int (nI rd), .int (nI mt), .int (nI dr), .ref j7, .ref j8, .int (nI u1), .int (bI (w1 && isF (pH b ln tt))), .ref j9, .int (nI lm), .long (hs)])), (i3, .inl (ty 0, 60, .inl (tI b))), (j9, .inl (ty 0, 96, .inl (eR Lw)))] rfl ?_
        refine g_aload_n C 3 rfl dX8_readsLaw_63 ?_
        refine g_getf C wu_X8 0 rfl rfl 19 (by decide) wf_X8_157 rfl rfl dX8_readsLaw_64 ?_
        refine g_if_eqB C (w1 && isF (pH b ln tt)) 120 rfl dX8_readsLaw_67 rfl (fun c67 => ?_) (fun c67 => ?_)
        · skip
          exact g_vret E dX8_readsLaw_120 (by decide) (by decide) ⟨w1 && isF (pH b ln tt), u1, lm, Lw, (fun as hB => ⟨(fun q => absurd (c67.symm.trans q) (by decide)), fun _ => (by rw [hv1.2.1]; exact (rl_fact hB (hp1.1.symm.trans c45) h60 hv1.2.2.2).1 c52)⟩), (by omega), rfl, rfl⟩
        · skip
          exact absurd (c67.symm.trans (by rw [c52, Bool.and_false])) (by decide)
      · skip
        refine g_iconst C (nI 1) ic_1 dX8_readsLaw_55 ?_
        refine g_goto C 60 dX8_readsLaw_56 rfl ?_
        refine g_st [.int (bI (w1 && isF (pH b ln tt))), .ref x0] (by first | (rw [c45, c52]; rfl) | (rw [c52, Bool.and_false]; rfl) | (rw [c45]; rfl)) ?_
        refine g_putf C wu_X8 tyX8 tyX8_ok nmX8 0 rfl rfl 19 (by decide) wf_X8_157 rfl rfl (bI_nar _) (bI_fits _) (Nat.le_of_ble_eq_true rfl) dX8_readsLaw_60 [(x0, .inr (6, [.int (nI th), .ref i1, .ref i2, .int (nI sd), .ref i3, .int (nI ln), .ref j1, .ref j2, .ref j3, .ref j4, .ref j5, .ref j6, .int (nI fm), .int (nI rd), .int (nI mt), .int (nI dr), .ref j7, .ref j8, .int (nI u1), .int (bI (w1 && isF (pH b ln tt))), .ref j9, .int (nI lm), .long (hs)])), (i3, .inl (ty 0, 60, .inl (tI b))), (j9, .inl (ty 0, 96, .inl (eR Lw)))] rfl ?_
        refine g_aload_n C 3 rfl dX8_readsLaw_63 ?_
        refine g_getf C wu_X8 0 rfl rfl 19 (by decide) wf_X8_157 rfl rfl dX8_readsLaw_64 ?_
        refine g_if_eqB C (w1 && isF (pH b ln tt)) 120 rfl dX8_readsLaw_67 rfl (fun c67 => ?_) (fun c67 => ?_)
        · skip
          exact g_vret E dX8_readsLaw_120 (by decide) (by decide) ⟨w1 && isF (pH b ln tt), u1, lm, Lw, (fun as hB => ⟨fun q => absurd (c67.symm.trans (by rw [c45, c52, Bool.and_true])) (by decide), fun q => absurd (c67.symm.trans (by rw [c45, c52, Bool.and_true])) (by decide)⟩), hu1.1, rfl, rfl⟩
        · skip
          refine g_aload_n C 3 rfl dX8_readsLaw_70 ?_
          refine g_getf C wu_X8 0 rfl rfl 20 (by decide) wf_X8_44 rfl rfl dX8_readsLaw_71 ?_
          refine g_iconst C (nI 3) ic_3 dX8_readsLaw_74 ?_
          refine g_aload_n C 3 rfl dX8_readsLaw_75 ?_
          refine g_getf C wu_X8 0 rfl rfl 21 (by decide) wf_X8_173 rfl rfl dX8_readsLaw_76 ?_
          refine g_imul C (nI (3 * lm)) dX8_readsLaw_79 (pk_mul _ _) ?_
          refine g_iload_n C 2 rfl dX8_readsLaw_80 ?_
          refine g_iast C 2 rfl (3 * lm) rfl (by omega) (by decide) dX8_readsLaw_81 (upd (eR Lw) (3 * lm) (nI (pH b ln tt))) rfl [(x0, .inr (6, [.int (nI th), .ref i1, .ref i2, .int (nI sd), .ref i3, .int (nI ln), .ref j1, .ref j2, .ref j3, .ref j4, .ref j5, .ref j6, .int (nI fm), .int (nI rd), .int (nI mt), .int (nI dr), .ref j7, .ref j8, .int (nI u1), .int (bI (w1 && isF (pH b ln tt))), .ref j9, .int (nI lm), .long (hs)])), (i3, .inl (ty 0, 60, .inl (tI b))), (j9, .inl (ty 0, 96, .inl (upd (eR Lw) (3 * lm) (nI (pH b ln tt)))))] rfl ?_
          refine g_aload_n C 3 rfl dX8_readsLaw_82 ?_
          refine g_getf C wu_X8 0 rfl rfl 20 (by decide) wf_X8_44 rfl rfl dX8_readsLaw_83 ?_
          refine g_iconst C (nI 3) ic_3 dX8_readsLaw_86 ?_
          refine g_aload_n C 3 rfl dX8_readsLaw_87 ?_
          refine g_getf C wu_X8 0 rfl rfl 21 (by decide) wf_X8_173 rfl rfl dX8_readsLaw_88 ?_
          refine g_imul C (nI (3 * lm)) dX8_readsLaw_91 (pk_mul _ _) ?_
          refine g_iconst C (nI 1) ic_1 dX8_readsLaw_92 ?_
          refine g_iadd C (nI ((3 * lm) + 1)) dX8_readsLaw_93 (nI_add _ _) ?_
          refine g_iload_n C 1 rfl dX8_readsLaw_94 ?_
          refine g_iast C 2 rfl ((3 * lm) + 1) rfl (by omega) (by decide) dX8_readsLaw_95 (upd (upd (eR Lw) (3 * lm) (nI (pH b ln tt))) ((3 * lm) + 1) (eA 256)) rfl [(x0, .inr (6, [.int (nI th), .ref i1, .ref i2, .int (nI sd), .ref i3, .int (nI ln), .ref j1, .ref j2, .ref j3, .ref j4, .ref j5, .ref j6, .int (nI fm), .int (nI rd), .int (nI mt), .int (nI dr), .ref j7, .ref j8, .int (nI u1), .int (bI (w1 && isF (pH b ln tt))), .ref j9, .int (nI lm), .long (hs)])), (i3, .inl (ty 0, 60, .inl (tI b))), (j9, .inl (ty 0, 96, .inl (upd (upd (eR Lw) (3 * lm) (nI (pH b ln tt))) ((3 * lm) + 1) (eA 256))))] rfl ?_
          refine g_aload_n C 3 rfl dX8_readsLaw_96 ?_
          refine g_getf C wu_X8 0 rfl rfl 20 (by decide) wf_X8_44 rfl rfl dX8_readsLaw_97 ?_
          refine g_iconst C (nI 3) ic_3 dX8_readsLaw_100 ?_
          refine g_aload_n C 3 rfl dX8_readsLaw_101 ?_
          refine g_getf C wu_X8 0 rfl rfl 21 (by decide) wf_X8_173 rfl rfl dX8_readsLaw_102 ?_
          refine g_imul C (nI (3 * lm)) dX8_readsLaw_105 (pk_mul _ _) ?_
          refine g_iconst C (nI 2) ic_2 dX8_readsLaw_106 ?_
          refine g_iadd C (nI ((3 * lm) + 2)) dX8_readsLaw_107 (nI_add _ _) ?_
          refine g_iload_n C 0 rfl dX8_readsLaw_108 ?_
          refine g_iast C 2 rfl ((3 * lm) + 2) rfl (by omega) (by decide) dX8_readsLaw_109 (eR (aR Lw lm (pH b ln tt) 256 256)) (aR_eqA _ _ _ _ (by omega)) [(x0, .inr (6, [.int (nI th), .ref i1, .ref i2, .int (nI sd), .ref i3, .int (nI ln), .ref j1, .ref j2, .ref j3, .ref j4, .ref j5, .ref j6, .int (nI fm), .int (nI rd), .int (nI mt), .int (nI dr), .ref j7, .ref j8, .int (nI u1), .int (bI (w1 && isF (pH b ln tt))), .ref j9, .int (nI lm), .long (hs)])), (i3, .inl (ty 0, 60, .inl (tI b))), (j9, .inl (ty 0, 96, .inl (eR (aR Lw lm (pH b ln tt) 256 256))))] rfl ?_
          refine g_aload_n C 3 rfl dX8_readsLaw_110 ?_
          refine g_dup C rfl dX8_readsLaw_111 ?_
          refine g_getf C wu_X8 0 rfl rfl 21 (by decide) wf_X8_173 rfl rfl dX8_readsLaw_112 ?_
          refine g_iconst C (nI 1) ic_1 dX8_readsLaw_115 ?_
          refine g_iadd C (nI (lm + 1)) dX8_readsLaw_116 (nI_add _ _) ?_
          refine g_putf C wu_X8 tyX8 tyX8_ok nmX8 0 rfl rfl 21 (by decide) wf_X8_173 rfl rfl rfl rfl (Nat.le_of_ble_eq_true rfl) dX8_readsLaw_117 [(x0, .inr (6, [.int (nI th), .ref i1, .ref i2, .int (nI sd), .ref i3, .int (nI ln), .ref j1, .ref j2, .ref j3, .ref j4, .ref j5, .ref j6, .int (nI fm), .int (nI rd), .int (nI mt), .int (nI dr), .ref j7, .ref j8, .int (nI u1), .int (bI (w1 && isF (pH b ln tt))), .ref j9, .int (nI (lm + 1)), .long (hs)])), (i3, .inl (ty 0, 60, .inl (tI b))), (j9, .inl (ty 0, 96, .inl (eR (aR Lw lm (pH b ln tt) 256 256))))] rfl ?_
          exact g_vret E dX8_readsLaw_120 (by decide) (by decide) ⟨w1 && isF (pH b ln tt), u1, lm + 1, aR Lw lm (pH b ln tt) 256 256, (fun as hB => ⟨fun _ => (by rw [hv1.2.1]; exact (rl_fact hB (hp1.1.symm.trans c45) h60 hv1.2.2.2).2 c52), (fun q => absurd (c67.symm.trans q) (by decide))⟩), (by omega), rfl, rfl⟩
  · skip
    refine g_ws [(x0, .inr (6, [.int (nI th), .ref i1, .ref i2, .int (nI sd), .ref i3, .int (nI ln), .ref j1, .ref j2, .ref j3, .ref j4, .ref j5, .ref j6, .int (nI fm), .int (nI rd), .int (nI mt), .int (nI dr), .ref j7, .ref j8, .int (nI (u1 + 1)), .int (bI (w1)), .ref j9, .int (nI lm), .long (hs)])), (i3, .inl (ty 0, 60, .inl (tI b))), (j9, .inl (ty 0, 96, .inl (eR Lw)))] (by rw [if_pos c15]) ?_
    have hk1 := tkM_t.mp c15
    have hv1 := ptr_v (hk1.1 ▸ hp1)
    have hw1 : p3W b ln tt true = true := hp1.1.symm.trans hk1.1
    have h60 : sgM b ln (tt + 3) = 60 := by rw [← hv1.2.1]; exact hk1.2
    refine g_aload_n C 3 rfl dX8_readsLaw_18 ?_
    refine g_callV C (nA := 0) (ci := 6) (q0 := 0) (As := []) (wr := [(j9, .inl (ty 0, 96, .inl (eR Lw)))]) (k_X8_wantsPart_p l D ty x0 th i1 i2 sd i3 ln j1 j2 j3 j4 j5 j6 fm rd mt dr j7 j8 (u1 + 1) w1 j9 lm hs b (by omega) (by omega) hb) wm_X8_167 wn_X8_wantsPart wv_X8_wantsPart wi_X8 wc_X8_wantsPart rfl (by decide +kernel) ⟨(Nat.le_of_ble_eq_true rfl), (Nat.le_of_ble_eq_true rfl)⟩ ⟨rfl, rfl⟩ dX8_readsLaw_19 ⟨Nat.zero_le _, Nat.zero_le _⟩ rfl rfl rfl [0, 1] [2] rfl rfl rfl rfl (by decide) (Nat.le_of_ble_eq_true rfl) rfl (fun r W1 hp => ?_)
    obtain ⟨w2, u2, v2, hp2, rfl, rfl⟩ := hp
    refine g_fix [.int (v2)] [(x0, .inr (6, [.int (nI th), .ref i1, .ref i2, .int (nI sd), .ref i3, .int (nI ln), .ref j1, .ref j2, .ref j3, .ref j4, .ref j5, .ref j6, .int (nI fm), .int (nI rd), .int (nI mt), .int (nI dr), .ref j7, .ref j8, .int (nI u2), .int (bI (w2)), .ref j9, .int (nI lm), .long (hs)])), (i3, .inl (ty 0, 60, .inl (tI b))), (j9, .inl (ty 0, 96, .inl (eR Lw)))] [1, 2, 0] rfl rfl rfl ?_
    have hu2 := ptr_u hp2
    have hq2 : PTR b ln (tt + 4) true w2 u2 v2 := by have := hp2; rw [hk1.1, hv1.2.1] at this; exact this
    refine g_istore_n C [(2, .int (v2)), (3, .int (eA 256)), (1, .int (v1)), (0, .ref x0)] dX8_readsLaw_22 rfl (by decide) rfl ?_
    refine g_aload_n C 3 rfl dX8_readsLaw_23 ?_
    refine g_bipush C (nI 38) bp_38 dX8_readsLaw_24 ?_
    refine g_callV C (nA := 1) (ci := 6) (q0 := 0) (As := [.int (nI 38)]) (wr := [(j9, .inl (ty 0, 96, .inl (eR Lw)))]) (k_X8_takes l D ty x0 th i1 i2 sd i3 ln j1 j2 j3 j4 j5 j6 fm rd mt dr j7 j8 u2 w2 j9 lm hs b 38 (by omega) (by omega) hb (by omega)) wm_X8_170 wn_X8_takes wv_X8_takes wi_X8 wc_X8_takes rfl (by decide +kernel) ⟨(Nat.le_of_ble_eq_true rfl), (Nat.le_of_ble_eq_true rfl)⟩ ⟨rfl, rfl⟩ dX8_readsLaw_26 ⟨Nat.zero_le _, Nat.zero_le _⟩ rfl rfl rfl [0, 1] [2] rfl rfl rfl rfl (by decide) (Nat.le_of_ble_eq_true rfl) rfl (fun r W1 hp => ?_)
    obtain ⟨rfl, rfl⟩ := hp
    refine g_fix [.int (bI (tkM b ln u2 w2 38))] [(x0, .inr (6, [.int (nI th), .ref i1, .ref i2, .int (nI sd), .ref i3, .int (nI ln), .ref j1, .ref j2, .ref j3, .ref j4, .ref j5, .ref j6, .int (nI fm), .int (nI rd), .int (nI mt), .int (nI dr), .ref j7, .ref j8, .int (nI (if tkM b ln u2 w2 38 = true then u2 + 1 else u2)), .int (bI (w2)), .ref j9, .int (nI lm), .long (hs)])), (i3, .inl (ty 0, 60, .inl (tI b))), (j9, .inl (ty 0, 96, .inl (eR Lw)))] [1, 2, 0] rfl rfl rfl ?_
    refine g_if_eqB C (tkM b ln u2 w2 38) 63 rfl dX8_readsLaw_29 rfl (fun c29 => ?_) (fun c29 => ?_)
    · skip
      refine g_ws [(x0, .inr (6, [.int (nI th), .ref i1, .ref i2, .int (nI sd), .ref i3, .int (nI ln), .ref j1, .ref j2, .ref j3, .ref j4, .ref j5, .ref j6, .int (nI fm), .int (nI rd), .int (nI mt), .int (nI dr), .ref j7, .ref j8, .int (nI u2), .int (bI (w2)), .ref j9, .int (nI lm), .long (hs)])), (i3, .inl (ty 0, 60, .inl (tI b))), (j9, .inl (ty 0, 96, .inl (eR Lw)))] (by rw [if_neg (by rw [c29]; decide)]) ?_
      refine g_aload_n C 3 rfl dX8_readsLaw_63 ?_
      refine g_getf C wu_X8 0 rfl rfl 19 (by decide) wf_X8_157 rfl rfl dX8_readsLaw_64 ?_
      refine g_if_eqB C w2 120 rfl dX8_readsLaw_67 rfl (fun c67 => ?_) (fun c67 => ?_)
      · skip
        exact g_vret E dX8_readsLaw_120 (by decide) (by decide) ⟨w2, u2, lm, Lw, (fun as hB => ⟨(fun q => absurd (c67.symm.trans q) (by decide)), fun _ => (by rw [hq2.2.1]; exact (rl_one hB hw1 h60).1 (hq2.1.symm.trans c67))⟩), (by omega), rfl, rfl⟩
      · skip
        have hv2 := ptr_v (c67 ▸ hq2)
        have hw2 : p3W b ln (tt + 4) true = true := hq2.1.symm.trans c67
        have h38 : sgM b ln (tt + 7) ≠ 38 := by have := tk_nn c29 c67; rw [hv2.2.1] at this; exact this
        refine g_lo2 [(2, .int (eA (pH b ln (tt + 4)))), (3, .int (eA 256)), (1, .int (nI (pH b ln tt))), (0, .ref x0)] (by rw [hv1.2.2.1, hv2.2.2.1, eA_n (show pH b ln (tt + 4) ≠ 256 by have := hv2.2.2.2; omega)]) ?_
        refine g_aload_n C 3 rfl dX8_readsLaw_70 ?_
        refine g_getf C wu_X8 0 rfl rfl 20 (by decide) wf_X8_44 rfl rfl dX8_readsLaw_71 ?_
        refine g_iconst C (nI 3) ic_3 dX8_readsLaw_74 ?_
        refine g_aload_n C 3 rfl dX8_readsLaw_75 ?_
        refine g_getf C wu_X8 0 rfl rfl 21 (by decide) wf_X8_173 rfl rfl dX8_readsLaw_76 ?_
        refine g_imul C (nI (3 * lm)) dX8_readsLaw_79 (pk_mul _ _) ?_
        refine g_iload_n C 2 rfl dX8_readsLaw_80 ?_
        refine g_iast C 2 rfl (3 * lm) rfl (by omega) (by decide) dX8_readsLaw_81 (upd (eR Lw) (3 * lm) (nI (pH b ln tt))) rfl [(x0, .inr (6, [.int (nI th), .ref i1, .ref i2, .int (nI sd), .ref i3, .int (nI ln), .ref j1, .ref j2, .ref j3, .ref j4, .ref j5, .ref j6, .int (nI fm), .int (nI rd), .int (nI mt), .int (nI dr), .ref j7, .ref j8, .int (nI u2), .int (bI (w2)), .ref j9, .int (nI lm), .long (hs)])), (i3, .inl (ty 0, 60, .inl (tI b))), (j9, .inl (ty 0, 96, .inl (upd (eR Lw) (3 * lm) (nI (pH b ln tt)))))] rfl ?_
        refine g_aload_n C 3 rfl dX8_readsLaw_82 ?_
        refine g_getf C wu_X8 0 rfl rfl 20 (by decide) wf_X8_44 rfl rfl dX8_readsLaw_83 ?_
        refine g_iconst C (nI 3) ic_3 dX8_readsLaw_86 ?_
        refine g_aload_n C 3 rfl dX8_readsLaw_87 ?_
        refine g_getf C wu_X8 0 rfl rfl 21 (by decide) wf_X8_173 rfl rfl dX8_readsLaw_88 ?_
        refine g_imul C (nI (3 * lm)) dX8_readsLaw_91 (pk_mul _ _) ?_
        refine g_iconst C (nI 1) ic_1 dX8_readsLaw_92 ?_
        refine g_iadd C (nI ((3 * lm) + 1)) dX8_readsLaw_93 (nI_add _ _) ?_
        refine g_iload_n C 0 rfl dX8_readsLaw_94 ?_
        refine g_iast C 2 rfl ((3 * lm) + 1) rfl (by omega) (by decide) dX8_readsLaw_95 (upd (upd (eR Lw) (3 * lm) (nI (pH b ln tt))) ((3 * lm) + 1) (eA (pH b ln (tt + 4)))) rfl [(x0, .inr (6, [.int (nI th), .ref i1, .ref i2, .int (nI sd), .ref i3, .int (nI ln), .ref j1, .ref j2, .ref j3, .ref j4, .ref j5, .ref j6, .int (nI fm), .int (nI rd), .int (nI mt), .int (nI dr), .ref j7, .ref j8, .int (nI u2), .int (bI (w2)), .ref j9, .int (nI lm), .long (hs)])), (i3, .inl (ty 0, 60, .inl (tI b))), (j9, .inl (ty 0, 96, .inl (upd (upd (eR Lw) (3 * lm) (nI (pH b ln tt))) ((3 * lm) + 1) (eA (pH b ln (tt + 4))))))] rfl ?_
        refine g_aload_n C 3 rfl dX8_readsLaw_96 ?_
        refine g_getf C wu_X8 0 rfl rfl 20 (by decide) wf_X8_44 rfl rfl dX8_readsLaw_97 ?_
        refine g_iconst C (nI 3) ic_3 dX8_readsLaw_100 ?_
        refine g_aload_n C 3 rfl dX8_readsLaw_101 ?_
        refine g_getf C wu_X8 0 rfl rfl 21 (by decide) wf_X8_173 rfl rfl dX8_readsLaw_102 ?_
        refine g_imul C (nI (3 * lm)) dX8_readsLaw_105 (pk_mul _ _) ?_
        refine g_iconst C (nI 2) ic_2 dX8_readsLaw_106 ?_
        refine g_iadd C (nI ((3 * lm) + 2)) dX8_readsLaw_107 (nI_add _ _) ?_
        refine g_iload_n C 1 rfl dX8_readsLaw_108 ?_
        refine g_iast C 2 rfl ((3 * lm) + 2) rfl (by omega) (by decide) dX8_readsLaw_109 (eR (aR Lw lm (pH b ln tt) (pH b ln (tt + 4)) 256)) (aR_eqA _ _ _ _ (by omega)) [(x0, .inr (6, [.int (nI th), .ref i1, .ref i2, .int (nI sd), .ref i3, .int (nI ln), .ref j1, .ref j2, .ref j3, .ref j4, .ref j5, .ref j6, .int (nI fm), .int (nI rd), .int (nI mt), .int (nI dr), .ref j7, .ref j8, .int (nI u2), .int (bI (w2)), .ref j9, .int (nI lm), .long (hs)])), (i3, .inl (ty 0, 60, .inl (tI b))), (j9, .inl (ty 0, 96, .inl (eR (aR Lw lm (pH b ln tt) (pH b ln (tt + 4)) 256))))] rfl ?_
        refine g_aload_n C 3 rfl dX8_readsLaw_110 ?_
        refine g_dup C rfl dX8_readsLaw_111 ?_
        refine g_getf C wu_X8 0 rfl rfl 21 (by decide) wf_X8_173 rfl rfl dX8_readsLaw_112 ?_
        refine g_iconst C (nI 1) ic_1 dX8_readsLaw_115 ?_
        refine g_iadd C (nI (lm + 1)) dX8_readsLaw_116 (nI_add _ _) ?_
        refine g_putf C wu_X8 tyX8 tyX8_ok nmX8 0 rfl rfl 21 (by decide) wf_X8_173 rfl rfl rfl rfl (Nat.le_of_ble_eq_true rfl) dX8_readsLaw_117 [(x0, .inr (6, [.int (nI th), .ref i1, .ref i2, .int (nI sd), .ref i3, .int (nI ln), .ref j1, .ref j2, .ref j3, .ref j4, .ref j5, .ref j6, .int (nI fm), .int (nI rd), .int (nI mt), .int (nI dr), .ref j7, .ref j8, .int (nI u2), .int (bI (w2)), .ref j9, .int (nI (lm + 1)), .long (hs)])), (i3, .inl (ty 0, 60, .inl (tI b))), (j9, .inl (ty 0, 96, .inl (eR (aR Lw lm (pH b ln tt) (pH b ln (tt + 4)) 256))))] rfl ?_
        exact g_vret E dX8_readsLaw_120 (by decide) (by decide) ⟨w2, u2, lm + 1, aR Lw lm (pH b ln tt) (pH b ln (tt + 4)) 256, (fun as hB => ⟨fun _ => (by rw [hv2.2.1]; exact rl_rule1 hB hw1 h60 hw2 h38 hv1.2.2.2 hv2.2.2.2), (fun q => absurd (c67.symm.trans q) (by decide))⟩), (by omega), rfl, rfl⟩
    · skip
      refine g_ws [(x0, .inr (6, [.int (nI th), .ref i1, .ref i2, .int (nI sd), .ref i3, .int (nI ln), .ref j1, .ref j2, .ref j3, .ref j4, .ref j5, .ref j6, .int (nI fm), .int (nI rd), .int (nI mt), .int (nI dr), .ref j7, .ref j8, .int (nI (u2 + 1)), .int (bI (w2)), .ref j9, .int (nI lm), .long (hs)])), (i3, .inl (ty 0, 60, .inl (tI b))), (j9, .inl (ty 0, 96, .inl (eR Lw)))] (by rw [if_pos c29]) ?_
      have hk2 := tkM_t.mp c29
      have hv2 := ptr_v (hk2.1 ▸ hq2)
      have hw2 : p3W b ln (tt + 4) true = true := hq2.1.symm.trans hk2.1
      have h38 : sgM b ln (tt + 7) = 38 := by have := hk2.2; rw [hv2.2.1] at this; exact this
      refine g_aload_n C 3 rfl dX8_readsLaw_32 ?_
      refine g_callV C (nA := 0) (ci := 6) (q0 := 0) (As := []) (wr := [(j9, .inl (ty 0, 96, .inl (eR Lw)))]) (k_X8_wantsPart_p l D ty x0 th i1 i2 sd i3 ln j1 j2 j3 j4 j5 j6 fm rd mt dr j7 j8 (u2 + 1) w2 j9 lm hs b (by omega) (by omega) hb) wm_X8_167 wn_X8_wantsPart wv_X8_wantsPart wi_X8 wc_X8_wantsPart rfl (by decide +kernel) ⟨(Nat.le_of_ble_eq_true rfl), (Nat.le_of_ble_eq_true rfl)⟩ ⟨rfl, rfl⟩ dX8_readsLaw_33 ⟨Nat.zero_le _, Nat.zero_le _⟩ rfl rfl rfl [0, 1] [2] rfl rfl rfl rfl (by decide) (Nat.le_of_ble_eq_true rfl) rfl (fun r W1 hp => ?_)
      obtain ⟨w3, u3, v3, hp3, rfl, rfl⟩ := hp
      refine g_fix [.int (v3)] [(x0, .inr (6, [.int (nI th), .ref i1, .ref i2, .int (nI sd), .ref i3, .int (nI ln), .ref j1, .ref j2, .ref j3, .ref j4, .ref j5, .ref j6, .int (nI fm), .int (nI rd), .int (nI mt), .int (nI dr), .ref j7, .ref j8, .int (nI u3), .int (bI (w3)), .ref j9, .int (nI lm), .long (hs)])), (i3, .inl (ty 0, 60, .inl (tI b))), (j9, .inl (ty 0, 96, .inl (eR Lw)))] [1, 2, 0] rfl rfl rfl ?_
      have hu3 := ptr_u hp3
      have hq3 : PTR b ln (tt + 8) true w3 u3 v3 := by have := hp3; rw [hk2.1, hv2.2.1] at this; exact this
      have hh3 : p3W b ln (tt + 8) true = true → pH b ln (tt + 8) < 256 := fun q => (ptr_v (u9 := u3) (v9 := v3) ⟨q.symm, hq3.2⟩).2.2.2
      refine g_istore_n C [(3, .int (v3)), (2, .int (v2)), (1, .int (v1)), (0, .ref x0)] dX8_readsLaw_36 rfl (by decide) rfl ?_
      refine g_goto C 63 dX8_readsLaw_37 rfl ?_
      refine g_aload_n C 3 rfl dX8_readsLaw_63 ?_
      refine g_getf C wu_X8 0 rfl rfl 19 (by decide) wf_X8_157 rfl rfl dX8_readsLaw_64 ?_
      refine g_if_eqB C w3 120 rfl dX8_readsLaw_67 rfl (fun c67 => ?_) (fun c67 => ?_)
      · skip
        exact g_vret E dX8_readsLaw_120 (by decide) (by decide) ⟨w3, u3, lm, Lw, (fun as hB => ⟨(fun q => absurd (c67.symm.trans q) (by decide)), fun _ => (by rw [hq3.2.1]; exact (rl_two hB hw1 h60 hw2 h38 hv1.2.2.2 hv2.2.2.2 hh3).1 (hq3.1.symm.trans c67))⟩), (by omega), rfl, rfl⟩
      · skip
        have hv3 := ptr_v (c67 ▸ hq3)
        refine g_lo2 [(3, .int (eA (pH b ln (tt + 8)))), (2, .int (eA (pH b ln (tt + 4)))), (1, .int (nI (pH b ln tt))), (0, .ref x0)] (by rw [hv1.2.2.1, hv2.2.2.1, hv3.2.2.1, eA_n (show pH b ln (tt + 4) ≠ 256 by have := hv2.2.2.2; omega), eA_n (show pH b ln (tt + 8) ≠ 256 by have := hv3.2.2.2; omega)]) ?_
        refine g_aload_n C 3 rfl dX8_readsLaw_70 ?_
        refine g_getf C wu_X8 0 rfl rfl 20 (by decide) wf_X8_44 rfl rfl dX8_readsLaw_71 ?_
        refine g_iconst C (nI 3) ic_3 dX8_readsLaw_74 ?_
        refine g_aload_n C 3 rfl dX8_readsLaw_75 ?_
        refine g_getf C wu_X8 0 rfl rfl 21 (by decide) wf_X8_173 rfl rfl dX8_readsLaw_76 ?_
        refine g_imul C (nI (3 * lm)) dX8_readsLaw_79 (pk_mul _ _) ?_
        refine g_iload_n C 2 rfl dX8_readsLaw_80 ?_
        refine g_iast C 2 rfl (3 * lm) rfl (by omega) (by decide) dX8_readsLaw_81 (upd (eR Lw) (3 * lm) (nI (pH b ln tt))) rfl [(x0, .inr (6, [.int (nI th), .ref i1, .ref i2, .int (nI sd), .ref i3, .int (nI ln), .ref j1, .ref j2, .ref j3, .ref j4, .ref j5, .ref j6, .int (nI fm), .int (nI rd), .int (nI mt), .int (nI dr), .ref j7, .ref j8, .int (nI u3), .int (bI (w3)), .ref j9, .int (nI lm), .long (hs)])), (i3, .inl (ty 0, 60, .inl (tI b))), (j9, .inl (ty 0, 96, .inl (upd (eR Lw) (3 * lm) (nI (pH b ln tt)))))] rfl ?_
        refine g_aload_n C 3 rfl dX8_readsLaw_82 ?_
        refine g_getf C wu_X8 0 rfl rfl 20 (by decide) wf_X8_44 rfl rfl dX8_readsLaw_83 ?_
        refine g_iconst C (nI 3) ic_3 dX8_readsLaw_86 ?_
        refine g_aload_n C 3 rfl dX8_readsLaw_87 ?_
        refine g_getf C wu_X8 0 rfl rfl 21 (by decide) wf_X8_173 rfl rfl dX8_readsLaw_88 ?_
        refine g_imul C (nI (3 * lm)) dX8_readsLaw_91 (pk_mul _ _) ?_
        refine g_iconst C (nI 1) ic_1 dX8_readsLaw_92 ?_
        refine g_iadd C (nI ((3 * lm) + 1)) dX8_readsLaw_93 (nI_add _ _) ?_
        refine g_iload_n C 1 rfl dX8_readsLaw_94 ?_
        refine g_iast C 2 rfl ((3 * lm) + 1) rfl (by omega) (by decide) dX8_readsLaw_95 (upd (upd (eR Lw) (3 * lm) (nI (pH b ln tt))) ((3 * lm) + 1) (eA (pH b ln (tt + 4)))) rfl [(x0, .inr (6, [.int (nI th), .ref i1, .ref i2, .int (nI sd), .ref i3, .int (nI ln), .ref j1, .ref j2, .ref j3, .ref j4, .ref j5, .ref j6, .int (nI fm), .int (nI rd), .int (nI mt), .int (nI dr), .ref j7, .ref j8, .int (nI u3), .int (bI (w3)), .ref j9, .int (nI lm), .long (hs)])), (i3, .inl (ty 0, 60, .inl (tI b))), (j9, .inl (ty 0, 96, .inl (upd (upd (eR Lw) (3 * lm) (nI (pH b ln tt))) ((3 * lm) + 1) (eA (pH b ln (tt + 4))))))] rfl ?_
        refine g_aload_n C 3 rfl dX8_readsLaw_96 ?_
        refine g_getf C wu_X8 0 rfl rfl 20 (by decide) wf_X8_44 rfl rfl dX8_readsLaw_97 ?_
        refine g_iconst C (nI 3) ic_3 dX8_readsLaw_100 ?_
        refine g_aload_n C 3 rfl dX8_readsLaw_101 ?_
        refine g_getf C wu_X8 0 rfl rfl 21 (by decide) wf_X8_173 rfl rfl dX8_readsLaw_102 ?_
        refine g_imul C (nI (3 * lm)) dX8_readsLaw_105 (pk_mul _ _) ?_
        refine g_iconst C (nI 2) ic_2 dX8_readsLaw_106 ?_
        refine g_iadd C (nI ((3 * lm) + 2)) dX8_readsLaw_107 (nI_add _ _) ?_
        refine g_iload_n C 0 rfl dX8_readsLaw_108 ?_
        refine g_iast C 2 rfl ((3 * lm) + 2) rfl (by omega) (by decide) dX8_readsLaw_109 (eR (aR Lw lm (pH b ln tt) (pH b ln (tt + 4)) (pH b ln (tt + 8)))) (aR_eqA _ _ _ _ (by omega)) [(x0, .inr (6, [.int (nI th), .ref i1, .ref i2, .int (nI sd), .ref i3, .int (nI ln), .ref j1, .ref j2, .ref j3, .ref j4, .ref j5, .ref j6, .int (nI fm), .int (nI rd), .int (nI mt), .int (nI dr), .ref j7, .ref j8, .int (nI u3), .int (bI (w3)), .ref j9, .int (nI lm), .long (hs)])), (i3, .inl (ty 0, 60, .inl (tI b))), (j9, .inl (ty 0, 96, .inl (eR (aR Lw lm (pH b ln tt) (pH b ln (tt + 4)) (pH b ln (tt + 8))))))] rfl ?_
        refine g_aload_n C 3 rfl dX8_readsLaw_110 ?_
        refine g_dup C rfl dX8_readsLaw_111 ?_
        refine g_getf C wu_X8 0 rfl rfl 21 (by decide) wf_X8_173 rfl rfl dX8_readsLaw_112 ?_
        refine g_iconst C (nI 1) ic_1 dX8_readsLaw_115 ?_
        refine g_iadd C (nI (lm + 1)) dX8_readsLaw_116 (nI_add _ _) ?_
        refine g_putf C wu_X8 tyX8 tyX8_ok nmX8 0 rfl rfl 21 (by decide) wf_X8_173 rfl rfl rfl rfl (Nat.le_of_ble_eq_true rfl) dX8_readsLaw_117 [(x0, .inr (6, [.int (nI th), .ref i1, .ref i2, .int (nI sd), .ref i3, .int (nI ln), .ref j1, .ref j2, .ref j3, .ref j4, .ref j5, .ref j6, .int (nI fm), .int (nI rd), .int (nI mt), .int (nI dr), .ref j7, .ref j8, .int (nI u3), .int (bI (w3)), .ref j9, .int (nI (lm + 1)), .long (hs)])), (i3, .inl (ty 0, 60, .inl (tI b))), (j9, .inl (ty 0, 96, .inl (eR (aR Lw lm (pH b ln tt) (pH b ln (tt + 4)) (pH b ln (tt + 8))))))] rfl ?_
        exact g_vret E dX8_readsLaw_120 (by decide) (by decide) ⟨w3, u3, lm + 1, aR Lw lm (pH b ln tt) (pH b ln (tt + 4)) (pH b ln (tt + 8)), (fun as hB => ⟨fun _ => (by rw [hv3.2.1]; exact (rl_two hB hw1 h60 hw2 h38 hv1.2.2.2 hv2.2.2.2 hh3).2 (hq3.1.symm.trans c67)), (fun q => absurd (c67.symm.trans q) (by decide))⟩), (by omega), rfl, rfl⟩
def r_X8_readsAll : Room := { frames := 4, cells := 0, slots := 0, locals := 90 }
set_option maxRecDepth 100000 in
set_option maxHeartbeats 4000000 in
theorem k_X8_readsAll (l : Launch) (D : va_G) (ty : Nat → ClassId) (x0 : Nat) (th : Nat) (i1 : Nat) (i2 : Nat) (sd : Nat) (i3 : Nat) (ln : Nat) (j1 : Nat) (j2 : Nat) (j3 : Nat) (j4 : Nat) (j5 : Nat) (j6 : Nat) (fm : Nat) (rd : Nat) (mt : Nat) (dr : Nat) (j7 : Nat) (j8 : Nat) (tt : Nat) (wl : Bool) (j9 : Nat) (lm : Nat) (hs : Int64) (b : Nat → Nat) (Lw : Nat → Nat) (hl : ln ≤ 60) (hb : ∀ j, j < ln → b j < 128) : gM l D ty yX8_readsAll cX8_readsAll 1 none r_X8_readsAll 0 0 [.ref x0] [(x0, .inr (6, [.int (nI th), .ref i1, .ref i2, .int (nI sd), .ref i3, .int (nI ln), .ref j1, .ref j2, .ref j3, .ref j4, .ref j5, .ref j6, .int (nI fm), .int (nI rd), .int (nI mt), .int (nI dr), .ref j7, .ref j8, .int (nI tt), .int (bI (wl)), .ref j9, .int (nI lm), .long (hs)])), (i3, .inl (ty 0, 60, .inl (tI b))), (j9, .inl (ty 0, 96, .inl (eR Lw)))] (fun (zr : Option Value) (zW : va_W) => ∃ (w9 : Bool) (u9 : Nat) (n9 : Nat) (M9 : Nat → Nat), (∀ as, RDA b as ln u9 n9 M9 w9) ∧ zr = none ∧ zW = [(x0, .inr (6, [.int (nI th), .ref i1, .ref i2, .int (nI sd), .ref i3, .int (nI ln), .ref j1, .ref j2, .ref j3, .ref j4, .ref j5, .ref j6, .int (nI fm), .int (nI rd), .int (nI mt), .int (nI dr), .ref j7, .ref j8, .int (nI u9), .int (bI (w9)), .ref j9, .int (nI n9), .long (hs)])), (i3, .inl (ty 0, 60, .inl (tI b))), (j9, .inl (ty 0, 96, .inl (eR M9)))]) := by
  refine gM_of RX8 rfl (by decide +kernel) (Nat.le_of_ble_eq_true rfl) ?_
  intro pg en s0 mi ag bl mth cd AA HH QQ C E hnm
  show gW pg l en r_X8_readsAll s0 mi ag bl mth cd 1 D AA HH QQ 0 [(0, .ref x0)] [] [(x0, .inr (6, [.int (nI th), .ref i1, .ref i2, .int (nI sd), .ref i3, .int (nI ln), .ref j1, .ref j2, .ref j3, .ref j4, .ref j5, .ref j6, .int (nI fm), .int (nI rd), .int (nI mt), .int (nI dr), .ref j7, .ref j8, .int (nI tt), .int (bI (wl)), .ref j9, .int (nI lm), .long (hs)])), (i3, .inl (ty 0, 60, .inl (tI b))), (j9, .inl (ty 0, 96, .inl (eR Lw)))] 0 0
  refine g_aload_n C 0 rfl dX8_readsAll_0 ?_
  refine g_iconst C (nI 0) ic_0 dX8_readsAll_1 ?_
  refine g_putf C wu_X8 tyX8 tyX8_ok nmX8 0 rfl rfl 18 (by decide) wf_X8_154 rfl rfl rfl rfl (Nat.le_of_ble_eq_true rfl) dX8_readsAll_2 [(x0, .inr (6, [.int (nI th), .ref i1, .ref i2, .int (nI sd), .ref i3, .int (nI ln), .ref j1, .ref j2, .ref j3, .ref j4, .ref j5, .ref j6, .int (nI fm), .int (nI rd), .int (nI mt), .int (nI dr), .ref j7, .ref j8, .int (nI 0), .int (bI (wl)), .ref j9, .int (nI lm), .long (hs)])), (i3, .inl (ty 0, 60, .inl (tI b))), (j9, .inl (ty 0, 96, .inl (eR Lw)))] rfl ?_
  refine g_aload_n C 0 rfl dX8_readsAll_5 ?_
  refine g_iconst C (nI 1) ic_1 dX8_readsAll_6 ?_
  refine g_st [.int (bI (true)), .ref x0] rfl ?_
  refine g_putf C wu_X8 tyX8 tyX8_ok nmX8 0 rfl rfl 19 (by decide) wf_X8_157 rfl rfl (bI_nar _) (bI_fits _) (Nat.le_of_ble_eq_true rfl) dX8_readsAll_7 [(x0, .inr (6, [.int (nI th), .ref i1, .ref i2, .int (nI sd), .ref i3, .int (nI ln), .ref j1, .ref j2, .ref j3, .ref j4, .ref j5, .ref j6, .int (nI fm), .int (nI rd), .int (nI mt), .int (nI dr), .ref j7, .ref j8, .int (nI 0), .int (bI (true)), .ref j9, .int (nI lm), .long (hs)])), (i3, .inl (ty 0, 60, .inl (tI b))), (j9, .inl (ty 0, 96, .inl (eR Lw)))] rfl ?_
  refine g_aload_n C 0 rfl dX8_readsAll_10 ?_
  refine g_iconst C (nI 0) ic_0 dX8_readsAll_11 ?_
  refine g_putf C wu_X8 tyX8 tyX8_ok nmX8 0 rfl rfl 21 (by decide) wf_X8_173 rfl rfl rfl rfl (Nat.le_of_ble_eq_true rfl) dX8_readsAll_12 [(x0, .inr (6, [.int (nI th), .ref i1, .ref i2, .int (nI sd), .ref i3, .int (nI ln), .ref j1, .ref j2, .ref j3, .ref j4, .ref j5, .ref j6, .int (nI fm), .int (nI rd), .int (nI mt), .int (nI dr), .ref j7, .ref j8, .int (nI 0), .int (bI (true)), .ref j9, .int (nI 0), .long (hs)])), (i3, .inl (ty 0, 60, .inl (tI b))), (j9, .inl (ty 0, 96, .inl (eR Lw)))] rfl ?_
  refine g_aload_n C 0 rfl dX8_readsAll_15 ?_
  refine g_callV C (nA := 0) (ci := 6) (q0 := 0) (As := []) (wr := []) (k_X8_readsLaw l D ty x0 th i1 i2 sd i3 ln j1 j2 j3 j4 j5 j6 fm rd mt dr j7 j8 0 j9 0 hs b Lw (by omega) hb (by omega) (by omega)) wm_X8_176 wn_X8_readsLaw wv_X8_readsLaw wi_X8 wc_X8_readsLaw rfl (by decide +kernel) ⟨(Nat.le_of_ble_eq_true rfl), (Nat.le_of_ble_eq_true rfl)⟩ ⟨rfl, rfl⟩ dX8_readsAll_16 ⟨Nat.zero_le _, Nat.zero_le _⟩ rfl rfl rfl [0, 1, 2] [] rfl rfl rfl rfl (by decide) (Nat.le_of_ble_eq_true rfl) rfl (fun r W1 hp => ?_)
  obtain ⟨w5, u5, n5, M5, hr1, hr0, rfl, rfl⟩ := hp
  refine g_fix [] [(x0, .inr (6, [.int (nI th), .ref i1, .ref i2, .int (nI sd), .ref i3, .int (nI ln), .ref j1, .ref j2, .ref j3, .ref j4, .ref j5, .ref j6, .int (nI fm), .int (nI rd), .int (nI mt), .int (nI dr), .ref j7, .ref j8, .int (nI u5), .int (bI (w5)), .ref j9, .int (nI n5), .long (hs)])), (i3, .inl (ty 0, 60, .inl (tI b))), (j9, .inl (ty 0, 96, .inl (eR M5)))] [0, 1, 2] rfl rfl rfl ?_
  have L19 : ∀ (fu19 : Nat) (w : Bool) (u : Nat) (n : Nat) (M : Nat → Nat) (hI : ∀ as, LAP b as ln u n M w), (msr w u) < fu19 → gW pg l en r_X8_readsAll s0 mi ag bl mth cd 1 D AA HH QQ 19 [(0, .ref x0)] [] [(x0, .inr (6, [.int (nI th), .ref i1, .ref i2, .int (nI sd), .ref i3, .int (nI ln), .ref j1, .ref j2, .ref j3, .ref j4, .ref j5, .ref j6, .int (nI fm), .int (nI rd), .int (nI mt), .int (nI dr), .ref j7, .ref j8, .int (nI u), .int (bI (w)), .ref j9, .int (nI n), .long (hs)])), (i3, .inl (ty 0, 60, .inl (tI b))), (j9, .inl (ty 0, 96, .inl (eR M)))] 0 0 := by
    intro fu19
    induction fu19 with
    | zero => intro w u n M hI hfu; exact absurd hfu (Nat.not_lt_zero _)
    | succ fu19 ih19 =>
      intro w u n M hI hfu19
      refine g_aload_n C 0 rfl dX8_readsAll_19 ?_
      refine g_getf C wu_X8 0 rfl rfl 19 (by decide) wf_X8_157 rfl rfl dX8_readsAll_20 ?_
      refine g_if_eqB C w 61 rfl dX8_readsAll_23 rfl (fun c23 => ?_) (fun c23 => ?_)
      · skip
        exact g_vret E dX8_readsAll_61 (by decide) (by decide) ⟨w, u, n, M, (fun as => by first | exact ⟨fun q => absurd (c23.symm.trans q) (by decide), (hI as).2⟩ | exact ⟨fun _ => ⟨(le_end ((hI as).1 c23) (by omega)).1, (le_end ((hI as).1 c23) (by omega)).1 ▸ (hI as).1 c23⟩, fun q => absurd (c23.symm.trans q) (by decide)⟩), rfl, rfl⟩
      · skip
        have hE := (hI (fun _ => 0)).1 c23
        have hle := hE.1.2
        have h4n := hE.2.2.2.2.2.2.2
        refine g_aload_n C 0 rfl dX8_readsAll_26 ?_
        refine g_getf C wu_X8 0 rfl rfl 18 (by decide) wf_X8_154 rfl rfl dX8_readsAll_27 ?_
        refine g_aload_n C 0 rfl dX8_readsAll_30 ?_
        refine g_getf C wu_X8 0 rfl rfl 5 (by decide) wf_X8_151 rfl rfl dX8_readsAll_31 ?_
        refine g_icmp_geN C u ln 61 rfl rfl (by omega) (by omega) dX8_readsAll_34 rfl (fun c34 => ?_) (fun c34 => ?_)
        · skip
          exact g_vret E dX8_readsAll_61 (by decide) (by decide) ⟨w, u, n, M, (fun as => by first | exact ⟨fun q => absurd (c23.symm.trans q) (by decide), (hI as).2⟩ | exact ⟨fun _ => ⟨(le_end ((hI as).1 c23) (by omega)).1, (le_end ((hI as).1 c23) (by omega)).1 ▸ (hI as).1 c23⟩, fun q => absurd (c23.symm.trans q) (by decide)⟩), rfl, rfl⟩
        · skip
          refine g_aload_n C 0 rfl dX8_readsAll_37 ?_
          refine g_aload_n C 0 rfl dX8_readsAll_38 ?_
          refine g_bipush C (nI 59) bp_59 dX8_readsAll_39 ?_
          refine g_callV C (nA := 1) (ci := 6) (q0 := 0) (As := [.int (nI 59)]) (wr := [(j9, .inl (ty 0, 96, .inl (eR M)))]) (k_X8_takes l D ty x0 th i1 i2 sd i3 ln j1 j2 j3 j4 j5 j6 fm rd mt dr j7 j8 u w j9 n hs b 59 (by omega) (by omega) hb (by omega)) wm_X8_170 wn_X8_takes wv_X8_takes wi_X8 wc_X8_takes rfl (by decide +kernel) ⟨(Nat.le_of_ble_eq_true rfl), (Nat.le_of_ble_eq_true rfl)⟩ ⟨rfl, rfl⟩ dX8_readsAll_41 ⟨Nat.zero_le _, Nat.zero_le _⟩ rfl rfl rfl [0, 1] [2] rfl rfl rfl rfl (by decide) (Nat.le_of_ble_eq_true rfl) rfl (fun r W1 hp => ?_)
          obtain ⟨rfl, rfl⟩ := hp
          refine g_fix [.int (bI (tkM b ln u w 59)), .ref x0] [(x0, .inr (6, [.int (nI th), .ref i1, .ref i2, .int (nI sd), .ref i3, .int (nI ln), .ref j1, .ref j2, .ref j3, .ref j4, .ref j5, .ref j6, .int (nI fm), .int (nI rd), .int (nI mt), .int (nI dr), .ref j7, .ref j8, .int (nI (if tkM b ln u w 59 = true then u + 1 else u)), .int (bI (w)), .ref j9, .int (nI n), .long (hs)])), (i3, .inl (ty 0, 60, .inl (tI b))), (j9, .inl (ty 0, 96, .inl (eR M)))] [1, 2, 0] rfl rfl rfl ?_
          refine g_putf C wu_X8 tyX8 tyX8_ok nmX8 0 rfl rfl 19 (by decide) wf_X8_157 rfl rfl (bI_nar _) (bI_fits _) (Nat.le_of_ble_eq_true rfl) dX8_readsAll_44 [(x0, .inr (6, [.int (nI th), .ref i1, .ref i2, .int (nI sd), .ref i3, .int (nI ln), .ref j1, .ref j2, .ref j3, .ref j4, .ref j5, .ref j6, .int (nI fm), .int (nI rd), .int (nI mt), .int (nI dr), .ref j7, .ref j8, .int (nI (if tkM b ln u w 59 = true then u + 1 else u)), .int (bI (tkM b ln u w 59)), .ref j9, .int (nI n), .long (hs)])), (i3, .inl (ty 0, 60, .inl (tI b))), (j9, .inl (ty 0, 96, .inl (eR M)))] rfl ?_
          refine g_aload_n C 0 rfl dX8_readsAll_47 ?_
          refine g_getf C wu_X8 0 rfl rfl 19 (by decide) wf_X8_157 rfl rfl dX8_readsAll_48 ?_
          refine g_if_eqB C (tkM b ln u w 59) 19 rfl dX8_readsAll_51 rfl (fun c51 => ?_) (fun c51 => ?_)
          · skip
            refine g_ws [(x0, .inr (6, [.int (nI th), .ref i1, .ref i2, .int (nI sd), .ref i3, .int (nI ln), .ref j1, .ref j2, .ref j3, .ref j4, .ref j5, .ref j6, .int (nI fm), .int (nI rd), .int (nI mt), .int (nI dr), .ref j7, .ref j8, .int (nI u), .int (bI (false)), .ref j9, .int (nI n), .long (hs)])), (i3, .inl (ty 0, 60, .inl (tI b))), (j9, .inl (ty 0, 96, .inl (eR M)))] (by rw [c51]; rfl) ?_
            exact ih19 false u n M (fun as => ⟨fun q => Bool.noConfusion q, fun _ => le_bad ((hI as).1 c23) (tk_nn c51 c23) (by omega)⟩) (Nat.lt_of_lt_of_le (msr_f (u := u) (by omega)) (by have := hfu19; rw [c23] at this; omega))
          · skip
            refine g_ws [(x0, .inr (6, [.int (nI th), .ref i1, .ref i2, .int (nI sd), .ref i3, .int (nI ln), .ref j1, .ref j2, .ref j3, .ref j4, .ref j5, .ref j6, .int (nI fm), .int (nI rd), .int (nI mt), .int (nI dr), .ref j7, .ref j8, .int (nI (u + 1)), .int (bI (true)), .ref j9, .int (nI n), .long (hs)])), (i3, .inl (ty 0, 60, .inl (tI b))), (j9, .inl (ty 0, 96, .inl (eR M)))] (by rw [c51]; rfl) ?_
            have hk := tkM_t.mp c51
            refine g_aload_n C 0 rfl dX8_readsAll_54 ?_
            refine g_callV C (nA := 0) (ci := 6) (q0 := 0) (As := []) (wr := []) (k_X8_readsLaw l D ty x0 th i1 i2 sd i3 ln j1 j2 j3 j4 j5 j6 fm rd mt dr j7 j8 (u + 1) j9 n hs b M (by omega) hb (by omega) (by omega)) wm_X8_176 wn_X8_readsLaw wv_X8_readsLaw wi_X8 wc_X8_readsLaw rfl (by decide +kernel) ⟨(Nat.le_of_ble_eq_true rfl), (Nat.le_of_ble_eq_true rfl)⟩ ⟨rfl, rfl⟩ dX8_readsAll_55 ⟨Nat.zero_le _, Nat.zero_le _⟩ rfl rfl rfl [0, 1, 2] [] rfl rfl rfl rfl (by decide) (Nat.le_of_ble_eq_true rfl) rfl (fun r W1 hp => ?_)
            obtain ⟨w6, u6, n6, M6, hr2, hr3, rfl, rfl⟩ := hp
            refine g_fix [] [(x0, .inr (6, [.int (nI th), .ref i1, .ref i2, .int (nI sd), .ref i3, .int (nI ln), .ref j1, .ref j2, .ref j3, .ref j4, .ref j5, .ref j6, .int (nI fm), .int (nI rd), .int (nI mt), .int (nI dr), .ref j7, .ref j8, .int (nI u6), .int (bI (w6)), .ref j9, .int (nI n6), .long (hs)])), (i3, .inl (ty 0, 60, .inl (tI b))), (j9, .inl (ty 0, 96, .inl (eR M6)))] [0, 1, 2] rfl rfl rfl ?_
            refine g_goto C 19 dX8_readsAll_58 rfl ?_
            exact ih19 w6 u6 n6 M6 (fun as => hr2 as (le_semi ((hI as).1 c23) hk.2)) (Nat.lt_of_lt_of_le (msr_t (u := u) (by omega) hr3) (by have := hfu19; rw [c23] at this; omega))
  exact L19 (msr w5 u5 + 1) w5 u5 n5 M5 (fun as => hr1 as (lb_0 b as ln Lw)) (Nat.lt_succ_self _)
def r_X8_firstError : Room := { frames := 5, cells := 0, slots := 0, locals := 110 }
set_option maxRecDepth 100000 in
set_option maxHeartbeats 4000000 in
theorem k_X8_firstError (l : Launch) (D : va_G) (ty : Nat → ClassId) (x0 : Nat) (th : Nat) (i1 : Nat) (i2 : Nat) (sd : Nat) (i3 : Nat) (ln : Nat) (j1 : Nat) (j2 : Nat) (j3 : Nat) (j4 : Nat) (j5 : Nat) (j6 : Nat) (fm : Nat) (rd : Nat) (mt : Nat) (dr : Nat) (j7 : Nat) (j8 : Nat) (tt : Nat) (wl : Bool) (j9 : Nat) (lm : Nat) (hs : Int64) (b : Nat → Nat) (Lw : Nat → Nat) (hl : ln ≤ 60) (hb : ∀ j, j < ln → b j < 128) : gM l D ty yX8_firstError cX8_firstError 1 (some (FieldType.int : FieldType)) r_X8_firstError 0 0 [.ref x0] [(x0, .inr (6, [.int (nI th), .ref i1, .ref i2, .int (nI sd), .ref i3, .int (nI ln), .ref j1, .ref j2, .ref j3, .ref j4, .ref j5, .ref j6, .int (nI fm), .int (nI rd), .int (nI mt), .int (nI dr), .ref j7, .ref j8, .int (nI tt), .int (bI (wl)), .ref j9, .int (nI lm), .long (hs)])), (i3, .inl (ty 0, 60, .inl (tI b))), (j9, .inl (ty 0, 96, .inl (eR Lw)))] (fun (zr : Option Value) (zW : va_W) => ∃ (w9 : Bool) (u9 : Nat) (n9 : Nat) (M9 : Nat → Nat), (∀ as, u9 = (fe b as ln).getD ln) ∧ zr = some (.int (nI u9)) ∧ zW = [(x0, .inr (6, [.int (nI 0), .ref i1, .ref i2, .int (nI sd), .ref i3, .int (nI ln), .ref j1, .ref j2, .ref j3, .ref j4, .ref j5, .ref j6, .int (nI fm), .int (nI rd), .int (nI mt), .int (nI dr), .ref j7, .ref j8, .int (nI u9), .int (bI (w9)), .ref j9, .int (nI n9), .long (hs)])), (i3, .inl (ty 0, 60, .inl (tI b))), (j9, .inl (ty 0, 96, .inl (eR M9)))]) := by
  refine gM_of RX8 rfl (by decide +kernel) (Nat.le_of_ble_eq_true rfl) ?_
  intro pg en s0 mi ag bl mth cd AA HH QQ C E hnm
  show gW pg l en r_X8_firstError s0 mi ag bl mth cd 1 D AA HH QQ 0 [(0, .ref x0)] [] [(x0, .inr (6, [.int (nI th), .ref i1, .ref i2, .int (nI sd), .ref i3, .int (nI ln), .ref j1, .ref j2, .ref j3, .ref j4, .ref j5, .ref j6, .int (nI fm), .int (nI rd), .int (nI mt), .int (nI dr), .ref j7, .ref j8, .int (nI tt), .int (bI (wl)), .ref j9, .int (nI lm), .long (hs)])), (i3, .inl (ty 0, 60, .inl (tI b))), (j9, .inl (ty 0, 96, .inl (eR Lw)))] 0 0
  refine g_aload_n C 0 rfl dX8_firstError_0 ?_
  refine g_iconst C (nI 0) ic_0 dX8_firstError_1 ?_
  refine g_putf C wu_X8 tyX8 tyX8_ok nmX8 0 rfl rfl 0 (by decide) wf_X8_47 rfl rfl rfl rfl (Nat.le_of_ble_eq_true rfl) dX8_firstError_2 [(x0, .inr (6, [.int (nI 0), .ref i1, .ref i2, .int (nI sd), .ref i3, .int (nI ln), .ref j1, .ref j2, .ref j3, .ref j4, .ref j5, .ref j6, .int (nI fm), .int (nI rd), .int (nI mt), .int (nI dr), .ref j7, .ref j8, .int (nI tt), .int (bI (wl)), .ref j9, .int (nI lm), .long (hs)])), (i3, .inl (ty 0, 60, .inl (tI b))), (j9, .inl (ty 0, 96, .inl (eR Lw)))] rfl ?_
  refine g_aload_n C 0 rfl dX8_firstError_5 ?_
  refine g_callV C (nA := 0) (ci := 6) (q0 := 0) (As := []) (wr := []) (k_X8_readsAll l D ty x0 0 i1 i2 sd i3 ln j1 j2 j3 j4 j5 j6 fm rd mt dr j7 j8 tt wl j9 lm hs b Lw (by omega) hb) wm_X8_179 wn_X8_readsAll wv_X8_readsAll wi_X8 wc_X8_readsAll rfl (by decide +kernel) ⟨(Nat.le_of_ble_eq_true rfl), (Nat.le_of_ble_eq_true rfl)⟩ ⟨rfl, rfl⟩ dX8_firstError_6 ⟨Nat.zero_le _, Nat.zero_le _⟩ rfl rfl rfl [0, 1, 2] [] rfl rfl rfl rfl (by decide) (Nat.le_of_ble_eq_true rfl) rfl (fun r W1 hp => ?_)
  obtain ⟨w5, u5, n5, M5, hr1, rfl, rfl⟩ := hp
  refine g_fix [] [(x0, .inr (6, [.int (nI 0), .ref i1, .ref i2, .int (nI sd), .ref i3, .int (nI ln), .ref j1, .ref j2, .ref j3, .ref j4, .ref j5, .ref j6, .int (nI fm), .int (nI rd), .int (nI mt), .int (nI dr), .ref j7, .ref j8, .int (nI u5), .int (bI (w5)), .ref j9, .int (nI n5), .long (hs)])), (i3, .inl (ty 0, 60, .inl (tI b))), (j9, .inl (ty 0, 96, .inl (eR M5)))] [0, 1, 2] rfl rfl rfl ?_
  refine g_aload_n C 0 rfl dX8_firstError_9 ?_
  refine g_getf C wu_X8 0 rfl rfl 18 (by decide) wf_X8_154 rfl rfl dX8_firstError_10 ?_
  exact g_iret E dX8_firstError_13 (by decide) (by decide) ⟨w5, u5, n5, M5, (fun as => by cases hw : w5 with | true => (obtain ⟨e, hE⟩ := (hr1 as).1 hw; rw [hE.1.1]; exact e) | false => exact (bd_fe ((hr1 as).2 hw)).1.symm), rfl, rfl⟩
