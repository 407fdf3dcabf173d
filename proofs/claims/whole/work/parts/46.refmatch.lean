/-! the reference's matches, rules and rounds -/
theorem zB_put (S : Nat → Bool) (a : Nat) : upd (zB S) a (bI true) = zB (zPut S a) := zB_up S a true
def inB (F G : Nat → Bool) (a f o h k n : Nat) (X : XT) : XT := match al idL a f 4 with
  | none => X
  | some L => in2 F G L o h k n X
section INB
variable {F G : Nat → Bool} {a f o h k n : Nat} {X : XT}
theorem inB_n (e : al idL a f 4 = none) (n : Nat) : inB F G a f o h k n X = X := by unfold inB; rw [e]
theorem inB_0 : inB F G a f o h k 0 X = X := by
  unfold inB
  split <;> rfl
theorem inB_f (e : F (o / 64 * 64 + n) = false) : inB F G a f o h k (n + 1) X = inB F G a f o h k n X := by
  unfold inB
  split
  · rfl
  · rw [in2, if_neg (by rw [Nat.mul_comm 64, e]; decide)]
theorem inB_x {L : Nat → Nat} (e : al idL a f 4 = some L) (hF : F (o / 64 * 64 + n) = true) (hn : n < 64) : inB F G a f o h k (n + 1) X = stp G (al L o (o / 64 * 64 + n) 6) h k (inB F G a f o h k n X) := by
  unfold inB
  rw [e]
  simp only
  rw [in2, if_pos (by rw [Nat.mul_comm 64, hF]), show o / 64 * 64 + n = 64 * (o / 64) + n by omega, al_m L o 6 hn]
theorem stp_n (X : XT) : stp G none h k X = X := rfl
end INB
theorem F38 {F : Nat → Bool} (hF : okF F) {p n : Nat} (h : 38 ≤ n) (h2 : n < 64) : F (64 * p + n) = false := by
  refine Bool.eq_false_iff.mpr (fun q => ?_)
  have := (hF _ q).1
  unfold isF at this
  simp only [decide_eq_true_eq] at this
  omega
theorem in2_64 {F G : Nat → Bool} (hF : okF F) {L : Nat → Nat} {o h k : Nat} {X : XT} (m : Nat) (hm : m ≤ 26) : in2 F G L o h k (38 + m) X = in2 F G L o h k 38 X := by
  induction m with
  | zero => rfl
  | succ m ih =>
    rw [← Nat.add_assoc, in2, if_neg (by rw [F38 hF (by omega) (by omega)]; decide)]
    exact ih (by omega)
theorem pl_64 {F G : Nat → Bool} (hF : okF F) {one o h k : Nat} {X : XT} (m : Nat) (hm : m ≤ 26) : pl F G one o h k (38 + m) X = pl F G one o h k 38 X := by
  induction m with
  | zero => rfl
  | succ m ih =>
    rw [← Nat.add_assoc, pl, if_neg (by rw [F38 hF (by omega) (by omega)]; decide)]
    exact ih (by omega)
theorem pl_f {F G : Nat → Bool} {one o h k n : Nat} {X : XT} (e : F (one / 64 * 64 + n) = false) : pl F G one o h k (n + 1) X = pl F G one o h k n X := by
  rw [pl, if_neg (by rw [Nat.mul_comm 64, e]; decide)]
theorem pl_o {F G : Nat → Bool} {one o h k n : Nat} {X : XT} (e : F (one / 64 * 64 + n) = true) (ho : o = 256) (hn : n < 64) : pl F G one o h k (n + 1) X = stp G (al idL one (one / 64 * 64 + n) 4) h k (pl F G one o h k n X) := by
  rw [pl, if_pos (by rw [Nat.mul_comm 64, e]), show one / 64 * 64 + n = 64 * (one / 64) + n by omega, al_m idL one 4 hn]
  cases al idL one n 4 with
  | none => rfl
  | some L => simp only [ho, if_true]
theorem pl_b {F G : Nat → Bool} (hF : okF F) {one o h k n : Nat} {X : XT} (e : F (one / 64 * 64 + n) = true) (ho : o ≠ 256) (hn : n < 64) : pl F G one o h k (n + 1) X = inB F G one (one / 64 * 64 + n) o h k 64 (pl F G one o h k n X) := by
  unfold inB
  rw [pl, if_pos (by rw [Nat.mul_comm 64, e]), show one / 64 * 64 + n = 64 * (one / 64) + n by omega, al_m idL one 4 hn]
  cases al idL one n 4 with
  | none => rfl
  | some L => simp only [ho, if_false]; exact (in2_64 hF 26 (Nat.le_refl _)).symm
/-- the rules below n, but for b -/
def rusB (F G : Nat → Bool) (q : Nat → Nat) (b : Nat) : Nat → XT → XT
  | 0, X => X
  | n + 1, X => if n = b then rusB F G q b n X else pl F G (q (3 * n + 1)) (q (3 * n + 2)) (q (3 * n)) n 38 (rusB F G q b n X)
theorem rusB_b {F G : Nat → Bool} {q : Nat → Nat} {b n : Nat} {X : XT} (h : n = b) : rusB F G q b (n + 1) X = rusB F G q b n X := by rw [rusB, if_pos h]
theorem rusB_n {F G : Nat → Bool} {q : Nat → Nat} {b n : Nat} {X : XT} (hF : okF F) (h : n ≠ b) : rusB F G q b (n + 1) X = pl F G (q (3 * n + 1)) (q (3 * n + 2)) (q (3 * n)) n 64 (rusB F G q b n X) := by rw [rusB, if_neg h, pl_64 hF 26 (Nat.le_refl _)]
theorem okF_rusB {F G : Nat → Bool} {q : Nat → Nat} {nr b : Nat} (hq : okQ q nr) {X : XT} (hX : okF X.2.1) (n : Nat) (hn : n ≤ nr) : okF (rusB F G q b n X).2.1 := by
  induction n with
  | zero => exact hX
  | succ n ih =>
    rw [rusB]
    split
    · exact ih (by omega)
    · exact okF_pl (hq.2 n (by omega)).1 (ih (by omega)) 38
theorem eA_iN {i b : Nat} (hi : i < 256) (hb : b ≤ 256) : nI i = eA b ↔ i = b := by
  by_cases h : b = 256
  · subst h
    refine ⟨fun z => absurd z (nI_nm1 hi), fun z => by omega⟩
  · rw [eA_n h]
    exact nI_eq (by omega) (by omega)
def uL (U : Nat → Bool) (n : Nat) : Nat → Bool := fun j => decide (j < n) && U j
theorem uL_f {U : Nat → Bool} {n : Nat} (h : U n = false) : uL U (n + 1) = uL U n := by
  funext j
  unfold uL
  by_cases e : j = n
  · subst e; rw [h, Bool.and_false, Bool.and_false]
  · rw [show decide (j < n + 1) = decide (j < n) from decide_eq_decide.mpr (by omega)]
theorem uL_t {U : Nat → Bool} {n : Nat} (h : U n = true) : uL U (n + 1) = zPut (uL U n) n := by
  funext j
  unfold uL zPut
  by_cases e : j = n
  · subst e; rw [if_pos rfl, h, decide_eq_true (by omega)]; rfl
  · rw [if_neg e, show decide (j < n + 1) = decide (j < n) from decide_eq_decide.mpr (by omega)]
theorem uL_0 (U : Nat → Bool) : uL U 0 = zNo := by
  funext j
  unfold uL zNo
  rw [decide_eq_false (by omega)]; rfl
theorem uL_256 {U : Nat → Bool} (h : okF U) : uL U 256 = U := by
  funext j
  unfold uL
  by_cases e : j < 256
  · rw [decide_eq_true e]; rfl
  · rw [decide_eq_false e]
    exact (Bool.eq_false_iff.mpr (fun q => e (h j q).2)).symm
theorem zOr_no (F : Nat → Bool) : zOr F zNo = F := by
  funext j
  unfold zOr zNo
  exact Bool.or_false _
theorem uB_up {F U : Nat → Bool} {n : Nat} (h : U n = true) : upd (zB (zOr F (uL U n))) n (bI true) = zB (zOr F (uL U (n + 1))) := by
  rw [zB_put, uL_t h]
  congr 1
  funext j
  unfold zPut zOr
  by_cases e : j = n
  · simp only [e, if_true, Bool.or_true]
  · simp only [e, if_false]
theorem uO_up {U : Nat → Bool} {rd : Nat} {ro : Nat → Int32} {n : Nat} (h : U n = true) : upd (roA (uL U n) rd ro) n (nI (rd + 1)) = roA (uL U (n + 1)) rd ro := by
  rw [roA_put, uL_t h]
theorem uU_up {U : Nat → Bool} {b : Nat → Nat} {ru : Nat → Int32} {n : Nat} (h : U n = true) : upd (ruA (uL U n) b ru) n (nI (b n)) = ruA (uL U (n + 1)) b ru := by
  rw [uL_t h]
  funext j
  unfold upd ruA zPut
  by_cases e : j = n
  · subst e; simp
  · simp [e]

def r_X8_comes : Room := { frames := 3, cells := 0, slots := 0, locals := 68 }
set_option maxRecDepth 100000 in
set_option maxHeartbeats 4000000 in
theorem k_X8_comes (l : Launch) (D : va_G) (ty : Nat → ClassId) (x0 : Nat) (th : Nat) (i1 : Nat) (i2 : Nat) (sd : Nat) (i3 : Nat) (ln : Nat) (j1 : Nat) (j2 : Nat) (j3 : Nat) (j4 : Nat) (j5 : Nat) (j6 : Nat) (fm : Nat) (rd : Nat) (dr : Nat) (j7 : Nat) (j8 : Nat) (tt : Nat) (wl : Bool) (j9 : Nat) (lm : Nat) (hs : Int64) (T : Nat → Bool) (q : Nat → Nat) (nr : Nat) (F : Nat → Bool) (nb : Nat → Int32) (X : XT) (g : Nat → Nat) (rt : Nat → Nat) (d : Nat → Nat) (c : Nat → Nat) (L : Nat → Nat) (k : Nat) (hF : okF F) (hk : k < 6) (q0 : q (3 * k) < 256) (hg : okG g rt d) (hc : okC c) (hr : alr L (rM rt c)) : gM l D ty yX8_comes cX8_comes 3 none r_X8_comes 0 0 [.ref x0, .int (nI k)] [(x0, .inr (6, [.int (nI th), .ref i1, .ref i2, .int (nI sd), .ref i3, .int (nI ln), .ref j1, .ref j2, .ref j3, .ref j4, .ref j5, .ref j6, .int (nI fm), .int (nI rd), .int (nI (X.1)), .int (nI dr), .ref j7, .ref j8, .int (nI tt), .int (bI (wl)), .ref j9, .int (nI lm), .long (hs)])), (i1, .inl (ty 0, 275, .inl (eR (sM T q nr)))), (j1, .inl (ty 2, 256, .inl (zB F))), (j4, .inl (ty 2, 256, .inl (zB X.2.1))), (j5, .inl (ty 0, 256, .inl (ruA X.2.1 X.2.2 nb))), (j7, .inl (ty 0, 8, .inl (tI g))), (j8, .inl (ty 0, 8, .inl (eR c)))] (fun (zr : Option Value) (zW : va_W) => zr = none ∧ zW = [(x0, .inr (6, [.int (nI th), .ref i1, .ref i2, .int (nI sd), .ref i3, .int (nI ln), .ref j1, .ref j2, .ref j3, .ref j4, .ref j5, .ref j6, .int (nI fm), .int (nI rd), .int (nI ((stp (foll F) (some L) (q (3 * k)) k X).1)), .int (nI dr), .ref j7, .ref j8, .int (nI tt), .int (bI (wl)), .ref j9, .int (nI lm), .long (hs)])), (i1, .inl (ty 0, 275, .inl (eR (sM T q nr)))), (j1, .inl (ty 2, 256, .inl (zB F))), (j4, .inl (ty 2, 256, .inl (zB ((stp (foll F) (some L) (q (3 * k)) k X).2.1)))), (j5, .inl (ty 0, 256, .inl (ruA (stp (foll F) (some L) (q (3 * k)) k X).2.1 (stp (foll F) (some L) (q (3 * k)) k X).2.2 nb))), (j7, .inl (ty 0, 8, .inl (tI g))), (j8, .inl (ty 0, 8, .inl (eR c)))]) := by
  have hrs := isF_rs (L := L) q0
  have hrs2 := hrs.2
  refine gM_of RX8 rfl (by decide +kernel) (Nat.le_of_ble_eq_true rfl) ?_
  intro pg en s0 mi ag bl mth cd AA HH QQ C E hnm
  show gW pg l en r_X8_comes s0 mi ag bl mth cd 3 D AA HH QQ 0 [(0, .ref x0), (1, .int (nI k))] [] [(x0, .inr (6, [.int (nI th), .ref i1, .ref i2, .int (nI sd), .ref i3, .int (nI ln), .ref j1, .ref j2, .ref j3, .ref j4, .ref j5, .ref j6, .int (nI fm), .int (nI rd), .int (nI (X.1)), .int (nI dr), .ref j7, .ref j8, .int (nI tt), .int (bI (wl)), .ref j9, .int (nI lm), .long (hs)])), (i1, .inl (ty 0, 275, .inl (eR (sM T q nr)))), (j1, .inl (ty 2, 256, .inl (zB F))), (j4, .inl (ty 2, 256, .inl (zB X.2.1))), (j5, .inl (ty 0, 256, .inl (ruA X.2.1 X.2.2 nb))), (j7, .inl (ty 0, 8, .inl (tI g))), (j8, .inl (ty 0, 8, .inl (eR c)))] 0 0
  refine g_aload_n C 0 rfl dX8_comes_0 ?_
  refine g_dup C rfl dX8_comes_1 ?_
  refine g_getf C wu_X8 0 rfl rfl 14 (by decide) wf_X8_89 rfl rfl dX8_comes_2 ?_
  refine g_iconst C (nI 1) ic_1 dX8_comes_5 ?_
  refine g_iadd C (nI (X.1 + 1)) dX8_comes_6 (nI_add _ _) ?_
  refine g_putf C wu_X8 tyX8 tyX8_ok nmX8 0 rfl rfl 14 (by decide) wf_X8_89 rfl rfl rfl rfl (Nat.le_of_ble_eq_true rfl) dX8_comes_7 [(x0, .inr (6, [.int (nI th), .ref i1, .ref i2, .int (nI sd), .ref i3, .int (nI ln), .ref j1, .ref j2, .ref j3, .ref j4, .ref j5, .ref j6, .int (nI fm), .int (nI rd), .int (nI (X.1 + 1)), .int (nI dr), .ref j7, .ref j8, .int (nI tt), .int (bI (wl)), .ref j9, .int (nI lm), .long (hs)])), (i1, .inl (ty 0, 275, .inl (eR (sM T q nr)))), (j1, .inl (ty 2, 256, .inl (zB F))), (j4, .inl (ty 2, 256, .inl (zB X.2.1))), (j5, .inl (ty 0, 256, .inl (ruA X.2.1 X.2.2 nb))), (j7, .inl (ty 0, 8, .inl (tI g))), (j8, .inl (ty 0, 8, .inl (eR c)))] rfl ?_
  refine g_aload_n C 0 rfl dX8_comes_10 ?_
  refine g_aload_n C 0 rfl dX8_comes_11 ?_
  refine g_getf C wu_X8 0 rfl rfl 1 (by decide) wf_X8_7 rfl rfl dX8_comes_12 ?_
  refine g_sipush C (nI 257) sp_257 dX8_comes_15 ?_
  refine g_iconst C (nI 3) ic_3 dX8_comes_18 ?_
  refine g_iload_n C 1 rfl dX8_comes_19 ?_
  refine g_imul C (nI (3 * k)) dX8_comes_20 (pk_mul _ _) ?_
  refine g_iadd C (nI (257 + (3 * k))) dX8_comes_21 (nI_add _ _) ?_
  refine g_iald C 1 rfl (257 + (3 * k)) rfl (by omega) (by decide) (nI (q (3 * k))) ((sM_q (3 * k)).trans (eA_n (by omega))) dX8_comes_22 ?_
  refine g_callV C (nA := 1) (ci := 6) (q0 := 0) (As := [.int (nI (q (3 * k)))]) (wr := [(i1, .inl (ty 0, 275, .inl (eR (sM T q nr)))), (j1, .inl (ty 2, 256, .inl (zB F))), (j4, .inl (ty 2, 256, .inl (zB X.2.1))), (j5, .inl (ty 0, 256, .inl (ruA X.2.1 X.2.2 nb)))]) (k_X8_result l D ty x0 th i1 i2 sd i3 ln j1 j2 j3 j4 j5 j6 fm rd (X.1 + 1) dr j7 j8 tt wl j9 lm hs g rt d c (q (3 * k)) hg hc (by omega)) wm_X8_92 wn_X8_result wv_X8_result wi_X8 wc_X8_result rfl (by decide +kernel) ⟨(Nat.le_of_ble_eq_true rfl), (Nat.le_of_ble_eq_true rfl)⟩ ⟨rfl, rfl⟩ dX8_comes_23 ⟨Nat.zero_le _, Nat.zero_le _⟩ rfl rfl rfl [0, 5, 6] [1, 2, 3, 4] rfl rfl rfl rfl (by decide) (Nat.le_of_ble_eq_true rfl) rfl (fun r W1 hp => ?_)
  obtain ⟨rfl, rfl⟩ := hp
  refine g_fix [.int (nI (rsN (rsv rt c (tmM ((q (3 * k)) / 8 % 8) 0)) (rsv rt c (tmM ((q (3 * k)) % 8) 0)) (q (3 * k))))] [(x0, .inr (6, [.int (nI th), .ref i1, .ref i2, .int (nI sd), .ref i3, .int (nI ln), .ref j1, .ref j2, .ref j3, .ref j4, .ref j5, .ref j6, .int (nI fm), .int (nI rd), .int (nI ((X.1 + 1))), .int (nI dr), .ref j7, .ref j8, .int (nI tt), .int (bI (wl)), .ref j9, .int (nI lm), .long (hs)])), (i1, .inl (ty 0, 275, .inl (eR (sM T q nr)))), (j1, .inl (ty 2, 256, .inl (zB F))), (j4, .inl (ty 2, 256, .inl (zB X.2.1))), (j5, .inl (ty 0, 256, .inl (ruA X.2.1 X.2.2 nb))), (j7, .inl (ty 0, 8, .inl (tI g))), (j8, .inl (ty 0, 8, .inl (eR c)))] [4, 0, 1, 2, 3, 5, 6] rfl rfl rfl ?_
  refine g_st [.int (nI (rs L (q (3 * k))))] (by rw [rs_of hr q0]) ?_
  refine g_istore_n C [(2, .int (nI (rs L (q (3 * k))))), (0, .ref x0), (1, .int (nI k))] dX8_comes_26 rfl (by decide) rfl ?_
  refine g_aload_n C 1 rfl dX8_comes_27 ?_
  refine g_getf C wu_X8 0 rfl rfl 6 (by decide) wf_X8_19 rfl rfl dX8_comes_28 ?_
  refine g_iload_n C 0 rfl dX8_comes_31 ?_
  refine g_zald C 2 rfl (rs L (q (3 * k))) rfl (by omega) (by decide) (bI (F (rs L (q (3 * k))))) rfl dX8_comes_32 ?_
  refine g_if_neB C (F (rs L (q (3 * k)))) 67 rfl dX8_comes_33 rfl (fun c33 => ?_) (fun c33 => ?_)
  · skip
    have hst : (stp (foll F) (some L) (q (3 * k)) k X) = (X.1 + 1, X.2) := by unfold stp; simp only [foll, c33, Bool.true_or, if_true]
    exact g_vret E dX8_comes_67 (by decide) (by decide) ⟨rfl, (by rw [hst])⟩
  · skip
    refine g_aload_n C 1 rfl dX8_comes_36 ?_
    refine g_getf C wu_X8 0 rfl rfl 9 (by decide) wf_X8_29 rfl rfl dX8_comes_37 ?_
    refine g_iload_n C 0 rfl dX8_comes_40 ?_
    refine g_zald C 3 rfl (rs L (q (3 * k))) rfl (by omega) (by decide) (bI (X.2.1 (rs L (q (3 * k))))) rfl dX8_comes_41 ?_
    refine g_if_neB C (X.2.1 (rs L (q (3 * k)))) 67 rfl dX8_comes_42 rfl (fun c42 => ?_) (fun c42 => ?_)
    · skip
      have hst : (stp (foll F) (some L) (q (3 * k)) k X) = (X.1 + 1, X.2) := by unfold stp; simp only [c42, if_true]; split <;> rfl
      exact g_vret E dX8_comes_67 (by decide) (by decide) ⟨rfl, (by rw [hst])⟩
    · skip
      refine g_aload_n C 1 rfl dX8_comes_45 ?_
      refine g_iload_n C 0 rfl dX8_comes_46 ?_
      refine g_callV C (nA := 1) (ci := 6) (q0 := 0) (As := [.int (nI (rs L (q (3 * k))))]) (wr := [(i1, .inl (ty 0, 275, .inl (eR (sM T q nr)))), (j4, .inl (ty 2, 256, .inl (zB X.2.1))), (j5, .inl (ty 0, 256, .inl (ruA X.2.1 X.2.2 nb))), (j7, .inl (ty 0, 8, .inl (tI g))), (j8, .inl (ty 0, 8, .inl (eR c)))]) (k_X8_hasStronger l D ty x0 th i1 i2 sd i3 ln j1 j2 j3 j4 j5 j6 fm rd (X.1 + 1) dr j7 j8 tt wl j9 lm hs F (rs L (q (3 * k))) hF (by omega) hrs.1) wm_X8_80 wn_X8_hasStronger wv_X8_hasStronger wi_X8 wc_X8_hasStronger rfl (by decide +kernel) ⟨(Nat.le_of_ble_eq_true rfl), (Nat.le_of_ble_eq_true rfl)⟩ ⟨rfl, rfl⟩ dX8_comes_47 ⟨Nat.zero_le _, Nat.zero_le _⟩ rfl rfl rfl [0, 2] [1, 3, 4, 5, 6] rfl rfl rfl rfl (by decide) (Nat.le_of_ble_eq_true rfl) rfl (fun r W1 hp => ?_)
      obtain ⟨rfl, rfl⟩ := hp
      refine g_fix [.int (bI (wk F (rs L (q (3 * k)))))] [(x0, .inr (6, [.int (nI th), .ref i1, .ref i2, .int (nI sd), .ref i3, .int (nI ln), .ref j1, .ref j2, .ref j3, .ref j4, .ref j5, .ref j6, .int (nI fm), .int (nI rd), .int (nI ((X.1 + 1))), .int (nI dr), .ref j7, .ref j8, .int (nI tt), .int (bI (wl)), .ref j9, .int (nI lm), .long (hs)])), (i1, .inl (ty 0, 275, .inl (eR (sM T q nr)))), (j1, .inl (ty 2, 256, .inl (zB F))), (j4, .inl (ty 2, 256, .inl (zB X.2.1))), (j5, .inl (ty 0, 256, .inl (ruA X.2.1 X.2.2 nb))), (j7, .inl (ty 0, 8, .inl (tI g))), (j8, .inl (ty 0, 8, .inl (eR c)))] [5, 0, 6, 1, 2, 3, 4] rfl rfl rfl ?_
      refine g_if_neB C (wk F (rs L (q (3 * k)))) 67 rfl dX8_comes_50 rfl (fun c50 => ?_) (fun c50 => ?_)
      · skip
        have hst : (stp (foll F) (some L) (q (3 * k)) k X) = (X.1 + 1, X.2) := by unfold stp; simp only [foll, c50, Bool.or_true, if_true]
        exact g_vret E dX8_comes_67 (by decide) (by decide) ⟨rfl, (by rw [hst])⟩
      · skip
        have hst : (stp (foll F) (some L) (q (3 * k)) k X) = (X.1 + 1, zPut X.2.1 (rs L (q (3 * k))), upN X.2.2 (rs L (q (3 * k))) k) := by unfold stp; simp only [foll, c33, c42, c50, Bool.or_false, if_false, Bool.false_eq_true]
        refine g_aload_n C 1 rfl dX8_comes_53 ?_
        refine g_getf C wu_X8 0 rfl rfl 9 (by decide) wf_X8_29 rfl rfl dX8_comes_54 ?_
        refine g_iload_n C 0 rfl dX8_comes_57 ?_
        refine g_iconst C (nI 1) ic_1 dX8_comes_58 ?_
        refine g_st [.int (bI (true)), .int (nI (rs L (q (3 * k)))), .ref j4] rfl ?_
        refine g_zast C 3 rfl (rs L (q (3 * k))) rfl (by omega) (by decide) true rfl dX8_comes_59 (zB (zPut X.2.1 (rs L (q (3 * k))))) (zB_put _ _) [(x0, .inr (6, [.int (nI th), .ref i1, .ref i2, .int (nI sd), .ref i3, .int (nI ln), .ref j1, .ref j2, .ref j3, .ref j4, .ref j5, .ref j6, .int (nI fm), .int (nI rd), .int (nI ((X.1 + 1))), .int (nI dr), .ref j7, .ref j8, .int (nI tt), .int (bI (wl)), .ref j9, .int (nI lm), .long (hs)])), (i1, .inl (ty 0, 275, .inl (eR (sM T q nr)))), (j1, .inl (ty 2, 256, .inl (zB F))), (j4, .inl (ty 2, 256, .inl (zB (zPut X.2.1 (rs L (q (3 * k))))))), (j5, .inl (ty 0, 256, .inl (ruA X.2.1 X.2.2 nb))), (j7, .inl (ty 0, 8, .inl (tI g))), (j8, .inl (ty 0, 8, .inl (eR c)))] rfl ?_
        refine g_aload_n C 1 rfl dX8_comes_60 ?_
        refine g_getf C wu_X8 0 rfl rfl 10 (by decide) wf_X8_32 rfl rfl dX8_comes_61 ?_
        refine g_iload_n C 0 rfl dX8_comes_64 ?_
        refine g_iload_n C 2 rfl dX8_comes_65 ?_
        refine g_iast C 4 rfl (rs L (q (3 * k))) rfl (by omega) (by decide) dX8_comes_66 (ruA (zPut X.2.1 (rs L (q (3 * k)))) (upN X.2.2 (rs L (q (3 * k))) k) nb) (ruA_put _ _ _ _ _) [(x0, .inr (6, [.int (nI th), .ref i1, .ref i2, .int (nI sd), .ref i3, .int (nI ln), .ref j1, .ref j2, .ref j3, .ref j4, .ref j5, .ref j6, .int (nI fm), .int (nI rd), .int (nI ((X.1 + 1))), .int (nI dr), .ref j7, .ref j8, .int (nI tt), .int (bI (wl)), .ref j9, .int (nI lm), .long (hs)])), (i1, .inl (ty 0, 275, .inl (eR (sM T q nr)))), (j1, .inl (ty 2, 256, .inl (zB F))), (j4, .inl (ty 2, 256, .inl (zB (zPut X.2.1 (rs L (q (3 * k))))))), (j5, .inl (ty 0, 256, .inl (ruA (zPut X.2.1 (rs L (q (3 * k)))) (upN X.2.2 (rs L (q (3 * k))) k) nb))), (j7, .inl (ty 0, 8, .inl (tI g))), (j8, .inl (ty 0, 8, .inl (eR c)))] rfl ?_
        exact g_vret E dX8_comes_67 (by decide) (by decide) ⟨rfl, (by rw [hst])⟩
def r_X8_triesBoth : Room := { frames := 4, cells := 0, slots := 0, locals := 91 }
set_option maxRecDepth 100000 in
set_option maxHeartbeats 4000000 in
theorem k_X8_triesBoth (l : Launch) (D : va_G) (ty : Nat → ClassId) (x0 : Nat) (th : Nat) (i1 : Nat) (i2 : Nat) (sd : Nat) (i3 : Nat) (ln : Nat) (j1 : Nat) (j2 : Nat) (j3 : Nat) (j4 : Nat) (j5 : Nat) (j6 : Nat) (fm : Nat) (rd : Nat) (dr : Nat) (j7 : Nat) (j8 : Nat) (tt : Nat) (wl : Bool) (j9 : Nat) (lm : Nat) (hs : Int64) (T : Nat → Bool) (q : Nat → Nat) (nr : Nat) (F : Nat → Bool) (nb : Nat → Int32) (X : XT) (S0 : Nat → Int32) (C0 : Nat → Int32) (k : Nat) (a : Nat) (f : Nat) (o : Nat) (hF : okF F) (hk : k < 6) (q0 : q (3 * k) < 256) (ha : a < 256) (hf : f < 256) (hf5 : f / 8 % 8 ≤ 5 ∧ f % 8 ≤ 5) (ho : o < 256) : gM l D ty yX8_triesBoth cX8_triesBoth 6 none r_X8_triesBoth 0 0 [.ref x0, .int (nI k), .int (nI a), .int (nI f), .int (nI o)] [(x0, .inr (6, [.int (nI th), .ref i1, .ref i2, .int (nI sd), .ref i3, .int (nI ln), .ref j1, .ref j2, .ref j3, .ref j4, .ref j5, .ref j6, .int (nI fm), .int (nI rd), .int (nI (X.1)), .int (nI dr), .ref j7, .ref j8, .int (nI tt), .int (bI (wl)), .ref j9, .int (nI lm), .long (hs)])), (i1, .inl (ty 0, 275, .inl (eR (sM T q nr)))), (j1, .inl (ty 2, 256, .inl (zB F))), (j4, .inl (ty 2, 256, .inl (zB X.2.1))), (j5, .inl (ty 0, 256, .inl (ruA X.2.1 X.2.2 nb))), (j7, .inl (ty 0, 8, .inl (S0))), (j8, .inl (ty 0, 8, .inl (C0)))] (fun (zr : Option Value) (zW : va_W) => ∃ (S9 : Nat → Int32) (C9 : Nat → Int32), zr = none ∧ zW = [(x0, .inr (6, [.int (nI th), .ref i1, .ref i2, .int (nI sd), .ref i3, .int (nI ln), .ref j1, .ref j2, .ref j3, .ref j4, .ref j5, .ref j6, .int (nI fm), .int (nI rd), .int (nI ((inB F (foll F) a f o (q (3 * k)) k 64 X).1)), .int (nI dr), .ref j7, .ref j8, .int (nI tt), .int (bI (wl)), .ref j9, .int (nI lm), .long (hs)])), (i1, .inl (ty 0, 275, .inl (eR (sM T q nr)))), (j1, .inl (ty 2, 256, .inl (zB F))), (j4, .inl (ty 2, 256, .inl (zB ((inB F (foll F) a f o (q (3 * k)) k 64 X).2.1)))), (j5, .inl (ty 0, 256, .inl (ruA (inB F (foll F) a f o (q (3 * k)) k 64 X).2.1 (inB F (foll F) a f o (q (3 * k)) k 64 X).2.2 nb))), (j7, .inl (ty 0, 8, .inl (S9))), (j8, .inl (ty 0, 8, .inl (C9)))]) := by
  refine gM_of RX8 rfl (by decide +kernel) (Nat.le_of_ble_eq_true rfl) ?_
  intro pg en s0 mi ag bl mth cd AA HH QQ C E hnm
  show gW pg l en r_X8_triesBoth s0 mi ag bl mth cd 6 D AA HH QQ 0 [(0, .ref x0), (1, .int (nI k)), (2, .int (nI a)), (3, .int (nI f)), (4, .int (nI o))] [] [(x0, .inr (6, [.int (nI th), .ref i1, .ref i2, .int (nI sd), .ref i3, .int (nI ln), .ref j1, .ref j2, .ref j3, .ref j4, .ref j5, .ref j6, .int (nI fm), .int (nI rd), .int (nI (X.1)), .int (nI dr), .ref j7, .ref j8, .int (nI tt), .int (bI (wl)), .ref j9, .int (nI lm), .long (hs)])), (i1, .inl (ty 0, 275, .inl (eR (sM T q nr)))), (j1, .inl (ty 2, 256, .inl (zB F))), (j4, .inl (ty 2, 256, .inl (zB X.2.1))), (j5, .inl (ty 0, 256, .inl (ruA X.2.1 X.2.2 nb))), (j7, .inl (ty 0, 8, .inl (S0))), (j8, .inl (ty 0, 8, .inl (C0)))] 0 0
  refine g_iload C 4 rfl dX8_triesBoth_0 ?_
  refine g_bipush C (nI 64) bp_64 dX8_triesBoth_2 ?_
  refine g_idiv C (nI (o / 64)) (by decide +kernel) dX8_triesBoth_4 (pk_div (by omega) (by omega) (by omega)) ?_
  refine g_bipush C (nI 64) bp_64 dX8_triesBoth_5 ?_
  refine g_imul C (nI ((o / 64) * 64)) dX8_triesBoth_7 (pk_mul _ _) ?_
  refine g_istore C [(5, .int (nI ((o / 64) * 64))), (0, .ref x0), (1, .int (nI k)), (2, .int (nI a)), (3, .int (nI f)), (4, .int (nI o))] dX8_triesBoth_8 (by decide) rfl ?_
  refine g_lo [1, 2, 3, 4, 5, 0] [(0, .ref x0), (1, .int (nI k)), (2, .int (nI a)), (3, .int (nI f)), (4, .int (nI o)), (5, .int (nI ((o / 64) * 64)))] rfl ?_
  refine g_ws [(x0, .inr (6, [.int (nI th), .ref i1, .ref i2, .int (nI sd), .ref i3, .int (nI ln), .ref j1, .ref j2, .ref j3, .ref j4, .ref j5, .ref j6, .int (nI fm), .int (nI rd), .int (nI ((inB F (foll F) a f o (q (3 * k)) k 0 X).1)), .int (nI dr), .ref j7, .ref j8, .int (nI tt), .int (bI (wl)), .ref j9, .int (nI lm), .long (hs)])), (i1, .inl (ty 0, 275, .inl (eR (sM T q nr)))), (j1, .inl (ty 2, 256, .inl (zB F))), (j4, .inl (ty 2, 256, .inl (zB ((inB F (foll F) a f o (q (3 * k)) k 0 X).2.1)))), (j5, .inl (ty 0, 256, .inl (ruA (inB F (foll F) a f o (q (3 * k)) k 0 X).2.1 (inB F (foll F) a f o (q (3 * k)) k 0 X).2.2 nb))), (j7, .inl (ty 0, 8, .inl (S0))), (j8, .inl (ty 0, 8, .inl (C0)))] (by rw [inB_0]) ?_
  have L10 : ∀ (fu10 : Nat) (i : Nat) (S1 : Nat → Int32) (C1 : Nat → Int32) (hi : i ≤ 64), (64 - i) < fu10 → gW pg l en r_X8_triesBoth s0 mi ag bl mth cd 6 D AA HH QQ 10 [(0, .ref x0), (1, .int (nI k)), (2, .int (nI a)), (3, .int (nI f)), (4, .int (nI o)), (5, .int (nI ((o / 64) * 64 + i)))] [] [(x0, .inr (6, [.int (nI th), .ref i1, .ref i2, .int (nI sd), .ref i3, .int (nI ln), .ref j1, .ref j2, .ref j3, .ref j4, .ref j5, .ref j6, .int (nI fm), .int (nI rd), .int (nI ((inB F (foll F) a f o (q (3 * k)) k i X).1)), .int (nI dr), .ref j7, .ref j8, .int (nI tt), .int (bI (wl)), .ref j9, .int (nI lm), .long (hs)])), (i1, .inl (ty 0, 275, .inl (eR (sM T q nr)))), (j1, .inl (ty 2, 256, .inl (zB F))), (j4, .inl (ty 2, 256, .inl (zB ((inB F (foll F) a f o (q (3 * k)) k i X).2.1)))), (j5, .inl (ty 0, 256, .inl (ruA (inB F (foll F) a f o (q (3 * k)) k i X).2.1 (inB F (foll F) a f o (q (3 * k)) k i X).2.2 nb))), (j7, .inl (ty 0, 8, .inl (S1))), (j8, .inl (ty 0, 8, .inl (C1)))] 0 0 := by
    intro fu10
    induction fu10 with
    | zero => intro i S1 C1 hi hfu; exact absurd hfu (Nat.not_lt_zero _)
    | succ fu10 ih10 =>
      intro i S1 C1 hi hfu10
      refine g_iload C 5 rfl dX8_triesBoth_10 ?_
      refine g_iload C 4 rfl dX8_triesBoth_12 ?_
      refine g_bipush C (nI 64) bp_64 dX8_triesBoth_14 ?_
      refine g_idiv C (nI (o / 64)) (by decide +kernel) dX8_triesBoth_16 (pk_div (by omega) (by omega) (by omega)) ?_
      refine g_bipush C (nI 64) bp_64 dX8_triesBoth_17 ?_
      refine g_imul C (nI ((o / 64) * 64)) dX8_triesBoth_19 (pk_mul _ _) ?_
      refine g_bipush C (nI 64) bp_64 dX8_triesBoth_20 ?_
      refine g_iadd C (nI (((o / 64) * 64) + 64)) dX8_triesBoth_22 (nI_add _ _) ?_
      refine g_icmp_geN C ((o / 64) * 64 + i) (((o / 64) * 64) + 64) 74 rfl rfl (by omega) (by omega) dX8_triesBoth_23 rfl (fun c23 => ?_) (fun c23 => ?_)
      · skip
        refine g_ws [(x0, .inr (6, [.int (nI th), .ref i1, .ref i2, .int (nI sd), .ref i3, .int (nI ln), .ref j1, .ref j2, .ref j3, .ref j4, .ref j5, .ref j6, .int (nI fm), .int (nI rd), .int (nI ((inB F (foll F) a f o (q (3 * k)) k 64 X).1)), .int (nI dr), .ref j7, .ref j8, .int (nI tt), .int (bI (wl)), .ref j9, .int (nI lm), .long (hs)])), (i1, .inl (ty 0, 275, .inl (eR (sM T q nr)))), (j1, .inl (ty 2, 256, .inl (zB F))), (j4, .inl (ty 2, 256, .inl (zB ((inB F (foll F) a f o (q (3 * k)) k 64 X).2.1)))), (j5, .inl (ty 0, 256, .inl (ruA (inB F (foll F) a f o (q (3 * k)) k 64 X).2.1 (inB F (foll F) a f o (q (3 * k)) k 64 X).2.2 nb))), (j7, .inl (ty 0, 8, .inl (S1))), (j8, .inl (ty 0, 8, .inl (C1)))] (by rw [show i = 64 by omega]) ?_
        exact g_vret E dX8_triesBoth_74 (by decide) (by decide) ⟨S1, C1, rfl, rfl⟩
      · skip
        refine g_aload_n C 0 rfl dX8_triesBoth_26 ?_
        refine g_getf C wu_X8 0 rfl rfl 6 (by decide) wf_X8_19 rfl rfl dX8_triesBoth_27 ?_
        refine g_iload C 5 rfl dX8_triesBoth_30 ?_
        refine g_zald C 2 rfl ((o / 64) * 64 + i) rfl (by omega) (by decide) (bI (F ((o / 64) * 64 + i))) rfl dX8_triesBoth_32 ?_
        refine g_if_eqB C (F ((o / 64) * 64 + i)) 68 rfl dX8_triesBoth_33 rfl (fun c33 => ?_) (fun c33 => ?_)
        · skip
          have hin := inB_f (G := foll F) (a := a) (f := f) (h := (q (3 * k))) (k := k) (X := X) c33
          refine g_ws [(x0, .inr (6, [.int (nI th), .ref i1, .ref i2, .int (nI sd), .ref i3, .int (nI ln), .ref j1, .ref j2, .ref j3, .ref j4, .ref j5, .ref j6, .int (nI fm), .int (nI rd), .int (nI ((inB F (foll F) a f o (q (3 * k)) k (i + 1) X).1)), .int (nI dr), .ref j7, .ref j8, .int (nI tt), .int (bI (wl)), .ref j9, .int (nI lm), .long (hs)])), (i1, .inl (ty 0, 275, .inl (eR (sM T q nr)))), (j1, .inl (ty 2, 256, .inl (zB F))), (j4, .inl (ty 2, 256, .inl (zB ((inB F (foll F) a f o (q (3 * k)) k (i + 1) X).2.1)))), (j5, .inl (ty 0, 256, .inl (ruA (inB F (foll F) a f o (q (3 * k)) k (i + 1) X).2.1 (inB F (foll F) a f o (q (3 * k)) k (i + 1) X).2.2 nb))), (j7, .inl (ty 0, 8, .inl (S1))), (j8, .inl (ty 0, 8, .inl (C1)))] (by rw [hin]) ?_
          refine g_iinc C (nI (((o / 64) * 64 + i) + 1)) [(5, .int (nI (((o / 64) * 64 + i) + 1))), (0, .ref x0), (1, .int (nI k)), (2, .int (nI a)), (3, .int (nI f)), (4, .int (nI o))] 5 dX8_triesBoth_68 rfl (ii_1 _) (by decide) rfl ?_
          refine g_goto C 10 dX8_triesBoth_71 rfl ?_
          refine g_lo [1, 2, 3, 4, 5, 0] [(0, .ref x0), (1, .int (nI k)), (2, .int (nI a)), (3, .int (nI f)), (4, .int (nI o)), (5, .int (nI (((o / 64) * 64 + i) + 1)))] rfl ?_
          exact ih10 (i + 1) S1 C1 (by omega) (by omega)
        · skip
          have hs5 := isF_5 (hF _ c33).1
          refine g_aload_n C 0 rfl dX8_triesBoth_36 ?_
          refine g_callV C (nA := 0) (ci := 6) (q0 := 0) (As := []) (wr := [(i1, .inl (ty 0, 275, .inl (eR (sM T q nr)))), (j1, .inl (ty 2, 256, .inl (zB F))), (j4, .inl (ty 2, 256, .inl (zB ((inB F (foll F) a f o (q (3 * k)) k i X).2.1)))), (j5, .inl (ty 0, 256, .inl (ruA (inB F (foll F) a f o (q (3 * k)) k i X).2.1 (inB F (foll F) a f o (q (3 * k)) k i X).2.2 nb)))]) (k_X8_opensPlaces l D ty x0 th i1 i2 sd i3 ln j1 j2 j3 j4 j5 j6 fm rd ((inB F (foll F) a f o (q (3 * k)) k i X).1) dr j7 j8 tt wl j9 lm hs S1 C1 ) wm_X8_95 wn_X8_opensPlaces wv_X8_opensPlaces wi_X8 wc_X8_opensPlaces rfl (by decide +kernel) ⟨(Nat.le_of_ble_eq_true rfl), (Nat.le_of_ble_eq_true rfl)⟩ ⟨rfl, rfl⟩ dX8_triesBoth_37 ⟨Nat.zero_le _, Nat.zero_le _⟩ rfl rfl rfl [0, 5, 6] [1, 2, 3, 4] rfl rfl rfl rfl (by decide) (Nat.le_of_ble_eq_true rfl) rfl (fun r W1 hp => ?_)
          obtain ⟨rfl, rfl⟩ := hp
          refine g_fix [] [(x0, .inr (6, [.int (nI th), .ref i1, .ref i2, .int (nI sd), .ref i3, .int (nI ln), .ref j1, .ref j2, .ref j3, .ref j4, .ref j5, .ref j6, .int (nI fm), .int (nI rd), .int (nI (((inB F (foll F) a f o (q (3 * k)) k i X).1))), .int (nI dr), .ref j7, .ref j8, .int (nI tt), .int (bI (wl)), .ref j9, .int (nI lm), .long (hs)])), (i1, .inl (ty 0, 275, .inl (eR (sM T q nr)))), (j1, .inl (ty 2, 256, .inl (zB F))), (j4, .inl (ty 2, 256, .inl (zB ((inB F (foll F) a f o (q (3 * k)) k i X).2.1)))), (j5, .inl (ty 0, 256, .inl (ruA (inB F (foll F) a f o (q (3 * k)) k i X).2.1 (inB F (foll F) a f o (q (3 * k)) k i X).2.2 nb))), (j7, .inl (ty 0, 8, .inl (tI (fun j => j)))), (j8, .inl (ty 0, 8, .inl (eR (fun _ => 256))))] [4, 0, 1, 2, 3, 5, 6] rfl rfl rfl ?_
          refine g_aload_n C 0 rfl dX8_triesBoth_40 ?_
          refine g_iload_n C 2 rfl dX8_triesBoth_41 ?_
          refine g_iload_n C 3 rfl dX8_triesBoth_42 ?_
          refine g_iconst C (nI 4) ic_4 dX8_triesBoth_43 ?_
          refine g_callV C (nA := 3) (ci := 6) (q0 := 0) (As := [.int (nI a), .int (nI f), .int (nI 4)]) (wr := [(i1, .inl (ty 0, 275, .inl (eR (sM T q nr)))), (j1, .inl (ty 2, 256, .inl (zB F))), (j4, .inl (ty 2, 256, .inl (zB ((inB F (foll F) a f o (q (3 * k)) k i X).2.1)))), (j5, .inl (ty 0, 256, .inl (ruA (inB F (foll F) a f o (q (3 * k)) k i X).2.1 (inB F (foll F) a f o (q (3 * k)) k i X).2.2 nb)))]) (k_X8_isAlike l D ty x0 th i1 i2 sd i3 ln j1 j2 j3 j4 j5 j6 fm rd ((inB F (foll F) a f o (q (3 * k)) k i X).1) dr j7 j8 tt wl j9 lm hs (fun j => j) ((fun j => j)) ((fun _ => 0)) (fun _ => 256) idL a f 4 okG_0 okC_0 vl_id alr_0 (by omega) (by omega) hf5 (by omega)) wm_X8_98 wn_X8_isAlike wv_X8_isAlike wi_X8 wc_X8_isAlike rfl (by decide +kernel) ⟨(Nat.le_of_ble_eq_true rfl), (Nat.le_of_ble_eq_true rfl)⟩ ⟨rfl, rfl⟩ dX8_triesBoth_44 ⟨Nat.zero_le _, Nat.zero_le _⟩ rfl rfl rfl [0, 5, 6] [1, 2, 3, 4] rfl rfl rfl rfl (by decide) (Nat.le_of_ble_eq_true rfl) rfl (fun r W1 hp => ?_)
          obtain ⟨g4, e4, hx4, rfl, rfl⟩ := hp
          refine g_fix [.int (bI ((al idL a f 4).isSome))] [(x0, .inr (6, [.int (nI th), .ref i1, .ref i2, .int (nI sd), .ref i3, .int (nI ln), .ref j1, .ref j2, .ref j3, .ref j4, .ref j5, .ref j6, .int (nI fm), .int (nI rd), .int (nI (((inB F (foll F) a f o (q (3 * k)) k i X).1))), .int (nI dr), .ref j7, .ref j8, .int (nI tt), .int (bI (wl)), .ref j9, .int (nI lm), .long (hs)])), (i1, .inl (ty 0, 275, .inl (eR (sM T q nr)))), (j1, .inl (ty 2, 256, .inl (zB F))), (j4, .inl (ty 2, 256, .inl (zB ((inB F (foll F) a f o (q (3 * k)) k i X).2.1)))), (j5, .inl (ty 0, 256, .inl (ruA (inB F (foll F) a f o (q (3 * k)) k i X).2.1 (inB F (foll F) a f o (q (3 * k)) k i X).2.2 nb))), (j7, .inl (ty 0, 8, .inl (tI g4))), (j8, .inl (ty 0, 8, .inl (eR e4)))] [4, 0, 1, 2, 3, 5, 6] rfl rfl rfl ?_
          refine g_if_eqB C ((al idL a f 4).isSome) 68 rfl dX8_triesBoth_47 rfl (fun c47 => ?_) (fun c47 => ?_)
          · skip
            have hn4 : al idL a f 4 = none := Option.not_isSome_iff_eq_none.mp (by rw [c47]; decide)
            have hin : (inB F (foll F) a f o (q (3 * k)) k (i + 1) X) = (inB F (foll F) a f o (q (3 * k)) k i X) := by rw [inB_n hn4, inB_n hn4]
            refine g_ws [(x0, .inr (6, [.int (nI th), .ref i1, .ref i2, .int (nI sd), .ref i3, .int (nI ln), .ref j1, .ref j2, .ref j3, .ref j4, .ref j5, .ref j6, .int (nI fm), .int (nI rd), .int (nI ((inB F (foll F) a f o (q (3 * k)) k (i + 1) X).1)), .int (nI dr), .ref j7, .ref j8, .int (nI tt), .int (bI (wl)), .ref j9, .int (nI lm), .long (hs)])), (i1, .inl (ty 0, 275, .inl (eR (sM T q nr)))), (j1, .inl (ty 2, 256, .inl (zB F))), (j4, .inl (ty 2, 256, .inl (zB ((inB F (foll F) a f o (q (3 * k)) k (i + 1) X).2.1)))), (j5, .inl (ty 0, 256, .inl (ruA (inB F (foll F) a f o (q (3 * k)) k (i + 1) X).2.1 (inB F (foll F) a f o (q (3 * k)) k (i + 1) X).2.2 nb))), (j7, .inl (ty 0, 8, .inl (tI g4))), (j8, .inl (ty 0, 8, .inl (eR e4)))] (by rw [hin]) ?_
            refine g_iinc C (nI (((o / 64) * 64 + i) + 1)) [(5, .int (nI (((o / 64) * 64 + i) + 1))), (0, .ref x0), (1, .int (nI k)), (2, .int (nI a)), (3, .int (nI f)), (4, .int (nI o))] 5 dX8_triesBoth_68 rfl (ii_1 _) (by decide) rfl ?_
            refine g_goto C 10 dX8_triesBoth_71 rfl ?_
            refine g_lo [1, 2, 3, 4, 5, 0] [(0, .ref x0), (1, .int (nI k)), (2, .int (nI a)), (3, .int (nI f)), (4, .int (nI o)), (5, .int (nI (((o / 64) * 64 + i) + 1)))] rfl ?_
            exact ih10 (i + 1) (tI g4) (eR e4) (by omega) (by omega)
          · skip
            obtain ⟨L, hal⟩ := Option.isSome_iff_exists.mp c47
            obtain ⟨rt4, d4, hg4, hc4, hr4⟩ := hx4 L hal
            have hL4 := vl_al vl_id (own_lt hf5.1 (by decide)) (own_lt hf5.2 (by decide)) hal
            have hin0 := inB_x (G := foll F) (h := (q (3 * k))) (k := k) (X := X) hal c33 (by omega)
            refine g_aload_n C 0 rfl dX8_triesBoth_50 ?_
            refine g_iload C 4 rfl dX8_triesBoth_51 ?_
            refine g_iload C 5 rfl dX8_triesBoth_53 ?_
            refine g_bipush C (nI 6) bp_6 dX8_triesBoth_55 ?_
            refine g_callV C (nA := 3) (ci := 6) (q0 := 0) (As := [.int (nI o), .int (nI ((o / 64) * 64 + i)), .int (nI 6)]) (wr := [(i1, .inl (ty 0, 275, .inl (eR (sM T q nr)))), (j1, .inl (ty 2, 256, .inl (zB F))), (j4, .inl (ty 2, 256, .inl (zB ((inB F (foll F) a f o (q (3 * k)) k i X).2.1)))), (j5, .inl (ty 0, 256, .inl (ruA (inB F (foll F) a f o (q (3 * k)) k i X).2.1 (inB F (foll F) a f o (q (3 * k)) k i X).2.2 nb)))]) (k_X8_isAlike l D ty x0 th i1 i2 sd i3 ln j1 j2 j3 j4 j5 j6 fm rd ((inB F (foll F) a f o (q (3 * k)) k i X).1) dr j7 j8 tt wl j9 lm hs g4 rt4 d4 e4 L o ((o / 64) * 64 + i) 6 hg4 hc4 hL4 hr4 (by omega) (by omega) hs5 (by omega)) wm_X8_98 wn_X8_isAlike wv_X8_isAlike wi_X8 wc_X8_isAlike rfl (by decide +kernel) ⟨(Nat.le_of_ble_eq_true rfl), (Nat.le_of_ble_eq_true rfl)⟩ ⟨rfl, rfl⟩ dX8_triesBoth_57 ⟨Nat.zero_le _, Nat.zero_le _⟩ rfl rfl rfl [0, 5, 6] [1, 2, 3, 4] rfl rfl rfl rfl (by decide) (Nat.le_of_ble_eq_true rfl) rfl (fun r W1 hp => ?_)
            obtain ⟨g5, e5, hx5, rfl, rfl⟩ := hp
            refine g_fix [.int (bI ((al L o ((o / 64) * 64 + i) 6).isSome))] [(x0, .inr (6, [.int (nI th), .ref i1, .ref i2, .int (nI sd), .ref i3, .int (nI ln), .ref j1, .ref j2, .ref j3, .ref j4, .ref j5, .ref j6, .int (nI fm), .int (nI rd), .int (nI (((inB F (foll F) a f o (q (3 * k)) k i X).1))), .int (nI dr), .ref j7, .ref j8, .int (nI tt), .int (bI (wl)), .ref j9, .int (nI lm), .long (hs)])), (i1, .inl (ty 0, 275, .inl (eR (sM T q nr)))), (j1, .inl (ty 2, 256, .inl (zB F))), (j4, .inl (ty 2, 256, .inl (zB ((inB F (foll F) a f o (q (3 * k)) k i X).2.1)))), (j5, .inl (ty 0, 256, .inl (ruA (inB F (foll F) a f o (q (3 * k)) k i X).2.1 (inB F (foll F) a f o (q (3 * k)) k i X).2.2 nb))), (j7, .inl (ty 0, 8, .inl (tI g5))), (j8, .inl (ty 0, 8, .inl (eR e5)))] [4, 0, 1, 2, 3, 5, 6] rfl rfl rfl ?_
            refine g_if_eqB C ((al L o ((o / 64) * 64 + i) 6).isSome) 68 rfl dX8_triesBoth_60 rfl (fun c60 => ?_) (fun c60 => ?_)
            · skip
              have hn5 : al L o (o / 64 * 64 + i) 6 = none := Option.not_isSome_iff_eq_none.mp (by rw [c60]; decide)
              have hin : (inB F (foll F) a f o (q (3 * k)) k (i + 1) X) = (inB F (foll F) a f o (q (3 * k)) k i X) := by rw [hin0, hn5]; rfl
              refine g_ws [(x0, .inr (6, [.int (nI th), .ref i1, .ref i2, .int (nI sd), .ref i3, .int (nI ln), .ref j1, .ref j2, .ref j3, .ref j4, .ref j5, .ref j6, .int (nI fm), .int (nI rd), .int (nI ((inB F (foll F) a f o (q (3 * k)) k (i + 1) X).1)), .int (nI dr), .ref j7, .ref j8, .int (nI tt), .int (bI (wl)), .ref j9, .int (nI lm), .long (hs)])), (i1, .inl (ty 0, 275, .inl (eR (sM T q nr)))), (j1, .inl (ty 2, 256, .inl (zB F))), (j4, .inl (ty 2, 256, .inl (zB ((inB F (foll F) a f o (q (3 * k)) k (i + 1) X).2.1)))), (j5, .inl (ty 0, 256, .inl (ruA (inB F (foll F) a f o (q (3 * k)) k (i + 1) X).2.1 (inB F (foll F) a f o (q (3 * k)) k (i + 1) X).2.2 nb))), (j7, .inl (ty 0, 8, .inl (tI g5))), (j8, .inl (ty 0, 8, .inl (eR e5)))] (by rw [hin]) ?_
              refine g_iinc C (nI (((o / 64) * 64 + i) + 1)) [(5, .int (nI (((o / 64) * 64 + i) + 1))), (0, .ref x0), (1, .int (nI k)), (2, .int (nI a)), (3, .int (nI f)), (4, .int (nI o))] 5 dX8_triesBoth_68 rfl (ii_1 _) (by decide) rfl ?_
              refine g_goto C 10 dX8_triesBoth_71 rfl ?_
              refine g_lo [1, 2, 3, 4, 5, 0] [(0, .ref x0), (1, .int (nI k)), (2, .int (nI a)), (3, .int (nI f)), (4, .int (nI o)), (5, .int (nI (((o / 64) * 64 + i) + 1)))] rfl ?_
              exact ih10 (i + 1) (tI g5) (eR e5) (by omega) (by omega)
            · skip
              obtain ⟨M, hal5⟩ := Option.isSome_iff_exists.mp c60
              obtain ⟨rt5, d5, hg5, hc5, hr5⟩ := hx5 M hal5
              have hin := hin0
              rw [hal5] at hin
              refine g_aload_n C 0 rfl dX8_triesBoth_63 ?_
              refine g_iload_n C 1 rfl dX8_triesBoth_64 ?_
              refine g_callV C (nA := 1) (ci := 6) (q0 := 0) (As := [.int (nI k)]) (wr := []) (k_X8_comes l D ty x0 th i1 i2 sd i3 ln j1 j2 j3 j4 j5 j6 fm rd dr j7 j8 tt wl j9 lm hs T q nr F nb (inB F (foll F) a f o (q (3 * k)) k i X) g5 rt5 d5 e5 M k hF (by omega) (by omega) hg5 hc5 hr5) wm_X8_101 wn_X8_comes wv_X8_comes wi_X8 wc_X8_comes rfl (by decide +kernel) ⟨(Nat.le_of_ble_eq_true rfl), (Nat.le_of_ble_eq_true rfl)⟩ ⟨rfl, rfl⟩ dX8_triesBoth_65 ⟨Nat.zero_le _, Nat.zero_le _⟩ rfl rfl rfl [0, 1, 2, 3, 4, 5, 6] [] rfl rfl rfl rfl (by decide) (Nat.le_of_ble_eq_true rfl) rfl (fun r W1 hp => ?_)
              obtain ⟨rfl, rfl⟩ := hp
              refine g_fix [] [(x0, .inr (6, [.int (nI th), .ref i1, .ref i2, .int (nI sd), .ref i3, .int (nI ln), .ref j1, .ref j2, .ref j3, .ref j4, .ref j5, .ref j6, .int (nI fm), .int (nI rd), .int (nI ((stp (foll F) (some M) (q (3 * k)) k (inB F (foll F) a f o (q (3 * k)) k i X)).1)), .int (nI dr), .ref j7, .ref j8, .int (nI tt), .int (bI (wl)), .ref j9, .int (nI lm), .long (hs)])), (i1, .inl (ty 0, 275, .inl (eR (sM T q nr)))), (j1, .inl (ty 2, 256, .inl (zB F))), (j4, .inl (ty 2, 256, .inl (zB ((stp (foll F) (some M) (q (3 * k)) k (inB F (foll F) a f o (q (3 * k)) k i X)).2.1)))), (j5, .inl (ty 0, 256, .inl (ruA (stp (foll F) (some M) (q (3 * k)) k (inB F (foll F) a f o (q (3 * k)) k i X)).2.1 (stp (foll F) (some M) (q (3 * k)) k (inB F (foll F) a f o (q (3 * k)) k i X)).2.2 nb))), (j7, .inl (ty 0, 8, .inl (tI g5))), (j8, .inl (ty 0, 8, .inl (eR e5)))] [0, 1, 2, 3, 4, 5, 6] rfl rfl rfl ?_
              refine g_ws [(x0, .inr (6, [.int (nI th), .ref i1, .ref i2, .int (nI sd), .ref i3, .int (nI ln), .ref j1, .ref j2, .ref j3, .ref j4, .ref j5, .ref j6, .int (nI fm), .int (nI rd), .int (nI ((inB F (foll F) a f o (q (3 * k)) k (i + 1) X).1)), .int (nI dr), .ref j7, .ref j8, .int (nI tt), .int (bI (wl)), .ref j9, .int (nI lm), .long (hs)])), (i1, .inl (ty 0, 275, .inl (eR (sM T q nr)))), (j1, .inl (ty 2, 256, .inl (zB F))), (j4, .inl (ty 2, 256, .inl (zB ((inB F (foll F) a f o (q (3 * k)) k (i + 1) X).2.1)))), (j5, .inl (ty 0, 256, .inl (ruA (inB F (foll F) a f o (q (3 * k)) k (i + 1) X).2.1 (inB F (foll F) a f o (q (3 * k)) k (i + 1) X).2.2 nb))), (j7, .inl (ty 0, 8, .inl (tI g5))), (j8, .inl (ty 0, 8, .inl (eR e5)))] (by rw [hin]) ?_
              refine g_iinc C (nI (((o / 64) * 64 + i) + 1)) [(5, .int (nI (((o / 64) * 64 + i) + 1))), (0, .ref x0), (1, .int (nI k)), (2, .int (nI a)), (3, .int (nI f)), (4, .int (nI o))] 5 dX8_triesBoth_68 rfl (ii_1 _) (by decide) rfl ?_
              refine g_goto C 10 dX8_triesBoth_71 rfl ?_
              refine g_lo [1, 2, 3, 4, 5, 0] [(0, .ref x0), (1, .int (nI k)), (2, .int (nI a)), (3, .int (nI f)), (4, .int (nI o)), (5, .int (nI (((o / 64) * 64 + i) + 1)))] rfl ?_
              exact ih10 (i + 1) (tI g5) (eR e5) (by omega) (by omega)
  exact L10 (64 - 0 + 1) 0 S0 C0 (by omega) (Nat.lt_succ_self _)
