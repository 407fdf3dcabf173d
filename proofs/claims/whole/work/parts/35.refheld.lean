def zB (f : Nat → Bool) : Nat → Int32 := fun j => bI (f j)
/-- the reference's state as one row: facts, how many rules, the rules -/
def sM (T : Nat → Bool) (q : Nat → Nat) (nr : Nat) : Nat → Nat := fun j => if j < 256 then (if T j = true then 1 else 0) else if j = 256 then nr else q (j - 257)
theorem sM_T {T : Nat → Bool} {q : Nat → Nat} {nr j : Nat} (h : j < 256) : eA (sM T q nr j) = nI (if T j = true then 1 else 0) := by
  unfold sM
  rw [if_pos h]
  cases T j <;> rfl
theorem sM_n {T : Nat → Bool} {q : Nat → Nat} {nr : Nat} (h : nr ≤ 6) : eA (sM T q nr 256) = nI nr := by
  show eA nr = nI nr
  exact eA_n (by omega)
theorem sM_q {T : Nat → Bool} {q : Nat → Nat} {nr : Nat} (j : Nat) : eA (sM T q nr (257 + j)) = eA (q j) := by
  unfold sM
  rw [if_neg (by omega), if_neg (by omega), show 257 + j - 257 = j by omega]
theorem spF_sp : ∀ o, o < 64 → ∀ w, w < 64 → isF o = true → isF w = true → spF o w = sp o w := by decide +kernel
theorem isF_m (p o : Nat) (ho : o < 64) : isF (64 * p + o) = isF o := by
  unfold isF
  rw [show (64 * p + o) / 8 % 8 = o / 8 % 8 by omega, show (64 * p + o) % 8 = o % 8 by omega]
theorem spF_m (p o w : Nat) (ho : o < 64) (hw : w < 64) : spF (64 * p + o) (64 * p + w) = spF o w := by
  unfold spF
  rw [show (64 * p + o) / 8 % 8 = o / 8 % 8 by omega, show (64 * p + o) % 8 = o % 8 by omega, show (64 * p + w) / 8 % 8 = w / 8 % 8 by omega, show (64 * p + w) % 8 = w % 8 by omega, show (64 * p + o) / 64 = o / 64 + p by omega, show (64 * p + w) / 64 = w / 64 + p by omega]
  refine decide_eq_decide.mpr ⟨fun h => ⟨by omega, by omega, h.2.2⟩, fun h => ⟨by omega, by omega, h.2.2⟩⟩
def hsM (F : Nat → Bool) (a n : Nat) : Bool := zany (fun o => F (a / 64 * 64 + o) && spF (a / 64 * 64 + o) a) n
theorem hsM_wk {F : Nat → Bool} (hF : okF F) {a : Nat} (ha : a < 256) (hf : isF a = true) : hsM F a 64 = wk F a := by
  unfold hsM wk wkp
  rw [Bool.eq_iff_iff, zany_iff, zany_iff]
  have e1 : a / 64 * 64 = 64 * (a / 64) := Nat.mul_comm _ _
  have e2 : 64 * (a / 64) + a % 64 = a := by omega
  have hw : isF (a % 64) = true := by rw [← isF_m (a / 64) (a % 64) (by omega), e2]; exact hf
  have key : ∀ o, o < 64 → F (64 * (a / 64) + o) = true → spF (64 * (a / 64) + o) a = sp o (a % 64) := by
    intro o ho h
    have h2 := (hF _ h).1
    rw [isF_m _ _ ho] at h2
    rw [← spF_sp o ho (a % 64) (by omega) h2 hw, ← spF_m (a / 64) o (a % 64) ho (by omega), e2]
  constructor
  · rintro ⟨o, ho, h⟩
    rw [e1, Bool.and_eq_true] at h
    exact ⟨o, ho, by rw [Bool.and_eq_true]; exact ⟨h.1, by rw [← key o ho h.1]; exact h.2⟩⟩
  · rintro ⟨o, ho, h⟩
    rw [Bool.and_eq_true] at h
    exact ⟨o, ho, by rw [e1, Bool.and_eq_true]; exact ⟨h.1, by rw [key o ho h.1]; exact h.2⟩⟩
theorem hsM_s {F : Nat → Bool} {a n : Nat} : hsM F a (n + 1) = (hsM F a n || (F (a / 64 * 64 + n) && spF (a / 64 * 64 + n) a)) := rfl
theorem hsM_t {F : Nat → Bool} {a n k : Nat} (h : hsM F a n = true) : hsM F a (n + k) = true := by
  induction k with
  | zero => exact h
  | succ k ih => rw [← Nat.add_assoc, hsM_s, ih]; rfl

def r_X8_thrown : Room := { frames := 0, cells := 0, slots := 0, locals := 0 }
set_option maxRecDepth 100000 in
set_option maxHeartbeats 4000000 in
theorem k_X8_thrown (l : Launch) (D : va_G) (ty : Nat → ClassId) (x0 : Nat) (th : Nat) (i1 : Nat) (i2 : Nat) (sd : Nat) (i3 : Nat) (ln : Nat) (j1 : Nat) (j2 : Nat) (j3 : Nat) (j4 : Nat) (j5 : Nat) (j6 : Nat) (fm : Nat) (rd : Nat) (mt : Nat) (dr : Nat) (j7 : Nat) (j8 : Nat) (tt : Nat) (wl : Bool) (j9 : Nat) (lm : Nat) (hs : Int64)  : gM l D ty yX8_thrown cX8_thrown 1 (some (FieldType.int : FieldType)) r_X8_thrown 0 0 [.ref x0] [(x0, .inr (6, [.int (nI th), .ref i1, .ref i2, .int (nI sd), .ref i3, .int (nI ln), .ref j1, .ref j2, .ref j3, .ref j4, .ref j5, .ref j6, .int (nI fm), .int (nI rd), .int (nI mt), .int (nI dr), .ref j7, .ref j8, .int (nI tt), .int (bI (wl)), .ref j9, .int (nI lm), .long (hs)]))] (fun (zr : Option Value) (zW : va_W) => zr = some (.int (nI th)) ∧ zW = [(x0, .inr (6, [.int (nI th), .ref i1, .ref i2, .int (nI sd), .ref i3, .int (nI ln), .ref j1, .ref j2, .ref j3, .ref j4, .ref j5, .ref j6, .int (nI fm), .int (nI rd), .int (nI mt), .int (nI dr), .ref j7, .ref j8, .int (nI tt), .int (bI (wl)), .ref j9, .int (nI lm), .long (hs)]))]) := by
  refine gM_of RX8 rfl (by decide +kernel) (Nat.le_of_ble_eq_true rfl) ?_
  intro pg en s0 mi ag bl mth cd AA HH QQ C E hnm
  show gW pg l en r_X8_thrown s0 mi ag bl mth cd 1 D AA HH QQ 0 [(0, .ref x0)] [] [(x0, .inr (6, [.int (nI th), .ref i1, .ref i2, .int (nI sd), .ref i3, .int (nI ln), .ref j1, .ref j2, .ref j3, .ref j4, .ref j5, .ref j6, .int (nI fm), .int (nI rd), .int (nI mt), .int (nI dr), .ref j7, .ref j8, .int (nI tt), .int (bI (wl)), .ref j9, .int (nI lm), .long (hs)]))] 0 0
  refine g_aload_n C 0 rfl dX8_thrown_0 ?_
  refine g_getf C wu_X8 0 rfl rfl 0 (by decide) wf_X8_47 rfl rfl dX8_thrown_1 ?_
  exact g_iret E dX8_thrown_4 (by decide) (by decide) ⟨rfl, rfl⟩
def r_X8_fails : Room := { frames := 0, cells := 0, slots := 0, locals := 0 }
set_option maxRecDepth 100000 in
set_option maxHeartbeats 4000000 in
theorem k_X8_fails (l : Launch) (D : va_G) (ty : Nat → ClassId) (x0 : Nat) (th : Nat) (i1 : Nat) (i2 : Nat) (sd : Nat) (i3 : Nat) (ln : Nat) (j1 : Nat) (j2 : Nat) (j3 : Nat) (j4 : Nat) (j5 : Nat) (j6 : Nat) (fm : Nat) (rd : Nat) (mt : Nat) (dr : Nat) (j7 : Nat) (j8 : Nat) (tt : Nat) (wl : Bool) (j9 : Nat) (lm : Nat) (hs : Int64) (c : Nat)  : gM l D ty yX8_fails cX8_fails 2 (some (FieldType.int : FieldType)) r_X8_fails 0 0 [.ref x0, .int (nI c)] [(x0, .inr (6, [.int (nI th), .ref i1, .ref i2, .int (nI sd), .ref i3, .int (nI ln), .ref j1, .ref j2, .ref j3, .ref j4, .ref j5, .ref j6, .int (nI fm), .int (nI rd), .int (nI mt), .int (nI dr), .ref j7, .ref j8, .int (nI tt), .int (bI (wl)), .ref j9, .int (nI lm), .long (hs)]))] (fun (zr : Option Value) (zW : va_W) => zr = some (.int (nI 0)) ∧ zW = [(x0, .inr (6, [.int (nI c), .ref i1, .ref i2, .int (nI sd), .ref i3, .int (nI ln), .ref j1, .ref j2, .ref j3, .ref j4, .ref j5, .ref j6, .int (nI fm), .int (nI rd), .int (nI mt), .int (nI dr), .ref j7, .ref j8, .int (nI tt), .int (bI (wl)), .ref j9, .int (nI lm), .long (hs)]))]) := by
  refine gM_of RX8 rfl (by decide +kernel) (Nat.le_of_ble_eq_true rfl) ?_
  intro pg en s0 mi ag bl mth cd AA HH QQ C E hnm
  show gW pg l en r_X8_fails s0 mi ag bl mth cd 2 D AA HH QQ 0 [(0, .ref x0), (1, .int (nI c))] [] [(x0, .inr (6, [.int (nI th), .ref i1, .ref i2, .int (nI sd), .ref i3, .int (nI ln), .ref j1, .ref j2, .ref j3, .ref j4, .ref j5, .ref j6, .int (nI fm), .int (nI rd), .int (nI mt), .int (nI dr), .ref j7, .ref j8, .int (nI tt), .int (bI (wl)), .ref j9, .int (nI lm), .long (hs)]))] 0 0
  refine g_aload_n C 0 rfl dX8_fails_0 ?_
  refine g_iload_n C 1 rfl dX8_fails_1 ?_
  refine g_putf C wu_X8 tyX8 tyX8_ok nmX8 0 rfl rfl 0 (by decide) wf_X8_47 rfl rfl rfl rfl (Nat.le_of_ble_eq_true rfl) dX8_fails_2 [(x0, .inr (6, [.int (nI c), .ref i1, .ref i2, .int (nI sd), .ref i3, .int (nI ln), .ref j1, .ref j2, .ref j3, .ref j4, .ref j5, .ref j6, .int (nI fm), .int (nI rd), .int (nI mt), .int (nI dr), .ref j7, .ref j8, .int (nI tt), .int (bI (wl)), .ref j9, .int (nI lm), .long (hs)]))] rfl ?_
  refine g_iconst C (nI 0) ic_0 dX8_fails_5 ?_
  exact g_iret E dX8_fails_6 (by decide) (by decide) ⟨rfl, rfl⟩
def r_X8_toldMany : Room := { frames := 0, cells := 0, slots := 0, locals := 0 }
set_option maxRecDepth 100000 in
set_option maxHeartbeats 4000000 in
theorem k_X8_toldMany (l : Launch) (D : va_G) (ty : Nat → ClassId) (x0 : Nat) (th : Nat) (i1 : Nat) (i2 : Nat) (sd : Nat) (i3 : Nat) (ln : Nat) (j1 : Nat) (j2 : Nat) (j3 : Nat) (j4 : Nat) (j5 : Nat) (j6 : Nat) (fm : Nat) (rd : Nat) (mt : Nat) (dr : Nat) (j7 : Nat) (j8 : Nat) (tt : Nat) (wl : Bool) (j9 : Nat) (lm : Nat) (hs : Int64) (T : Nat → Bool) (q : Nat → Nat) (nr : Nat)  : gM l D ty yX8_toldMany cX8_toldMany 3 (some (FieldType.int : FieldType)) r_X8_toldMany 0 0 [.ref x0] [(x0, .inr (6, [.int (nI th), .ref i1, .ref i2, .int (nI sd), .ref i3, .int (nI ln), .ref j1, .ref j2, .ref j3, .ref j4, .ref j5, .ref j6, .int (nI fm), .int (nI rd), .int (nI mt), .int (nI dr), .ref j7, .ref j8, .int (nI tt), .int (bI (wl)), .ref j9, .int (nI lm), .long (hs)])), (i1, .inl (ty 0, 275, .inl (eR (sM T q nr))))] (fun (zr : Option Value) (zW : va_W) => zr = some (.int (nI (zcnt T 256))) ∧ zW = [(x0, .inr (6, [.int (nI th), .ref i1, .ref i2, .int (nI sd), .ref i3, .int (nI ln), .ref j1, .ref j2, .ref j3, .ref j4, .ref j5, .ref j6, .int (nI fm), .int (nI rd), .int (nI mt), .int (nI dr), .ref j7, .ref j8, .int (nI tt), .int (bI (wl)), .ref j9, .int (nI lm), .long (hs)])), (i1, .inl (ty 0, 275, .inl (eR (sM T q nr))))]) := by
  refine gM_of RX8 rfl (by decide +kernel) (Nat.le_of_ble_eq_true rfl) ?_
  intro pg en s0 mi ag bl mth cd AA HH QQ C E hnm
  show gW pg l en r_X8_toldMany s0 mi ag bl mth cd 3 D AA HH QQ 0 [(0, .ref x0)] [] [(x0, .inr (6, [.int (nI th), .ref i1, .ref i2, .int (nI sd), .ref i3, .int (nI ln), .ref j1, .ref j2, .ref j3, .ref j4, .ref j5, .ref j6, .int (nI fm), .int (nI rd), .int (nI mt), .int (nI dr), .ref j7, .ref j8, .int (nI tt), .int (bI (wl)), .ref j9, .int (nI lm), .long (hs)])), (i1, .inl (ty 0, 275, .inl (eR (sM T q nr))))] 0 0
  refine g_iconst C (nI 0) ic_0 dX8_toldMany_0 ?_
  refine g_istore_n C [(1, .int (nI 0)), (0, .ref x0)] dX8_toldMany_1 rfl (by decide) rfl ?_
  refine g_iconst C (nI 0) ic_0 dX8_toldMany_2 ?_
  refine g_istore_n C [(2, .int (nI 0)), (1, .int (nI 0)), (0, .ref x0)] dX8_toldMany_3 rfl (by decide) rfl ?_
  refine g_lo [2, 1, 0] [(0, .ref x0), (1, .int (nI 0)), (2, .int (nI 0))] rfl ?_
  have L4 : ∀ (fu4 : Nat) (i : Nat) (hi : i ≤ 256), (256 - i) < fu4 → gW pg l en r_X8_toldMany s0 mi ag bl mth cd 3 D AA HH QQ 4 [(0, .ref x0), (1, .int (nI (zcnt T i))), (2, .int (nI i))] [] [(x0, .inr (6, [.int (nI th), .ref i1, .ref i2, .int (nI sd), .ref i3, .int (nI ln), .ref j1, .ref j2, .ref j3, .ref j4, .ref j5, .ref j6, .int (nI fm), .int (nI rd), .int (nI mt), .int (nI dr), .ref j7, .ref j8, .int (nI tt), .int (bI (wl)), .ref j9, .int (nI lm), .long (hs)])), (i1, .inl (ty 0, 275, .inl (eR (sM T q nr))))] 0 0 := by
    intro fu4
    induction fu4 with
    | zero => intro i hi hfu; exact absurd hfu (Nat.not_lt_zero _)
    | succ fu4 ih4 =>
      intro i hi hfu4
      refine g_iload_n C 2 rfl dX8_toldMany_4 ?_
      refine g_sipush C (nI 256) sp_256 dX8_toldMany_5 ?_
      refine g_icmp_geN C i 256 26 rfl rfl (by omega) (by omega) dX8_toldMany_8 rfl (fun c8 => ?_) (fun c8 => ?_)
      · skip
        refine g_iload_n C 1 rfl dX8_toldMany_26 ?_
        exact g_iret E dX8_toldMany_27 (by decide) (by decide) ⟨(by rw [show i = 256 by omega]), rfl⟩
      · skip
        refine g_iload_n C 1 rfl dX8_toldMany_11 ?_
        refine g_aload_n C 0 rfl dX8_toldMany_12 ?_
        refine g_getf C wu_X8 0 rfl rfl 1 (by decide) wf_X8_7 rfl rfl dX8_toldMany_13 ?_
        refine g_iload_n C 2 rfl dX8_toldMany_16 ?_
        refine g_iald C 1 rfl i rfl (by omega) (by decide) (nI (if T i = true then 1 else 0)) (sM_T (by omega)) dX8_toldMany_17 ?_
        refine g_iadd C (nI (zcnt T (i + 1))) dX8_toldMany_18 (nI_add _ _) ?_
        refine g_istore_n C [(1, .int (nI (zcnt T (i + 1)))), (0, .ref x0), (2, .int (nI i))] dX8_toldMany_19 rfl (by decide) rfl ?_
        refine g_iinc C (nI (i + 1)) [(2, .int (nI (i + 1))), (1, .int (nI (zcnt T (i + 1)))), (0, .ref x0)] 2 dX8_toldMany_20 rfl (ii_1 _) (by decide) rfl ?_
        refine g_goto C 4 dX8_toldMany_23 rfl ?_
        refine g_lo [2, 1, 0] [(0, .ref x0), (1, .int (nI (zcnt T (i + 1)))), (2, .int (nI (i + 1)))] rfl ?_
        exact ih4 (i + 1) (by omega) (by omega)
  exact L4 (256 - 0 + 1) 0 (by omega) (Nat.lt_succ_self _)
def r_X8_hasStronger : Room := { frames := 1, cells := 0, slots := 0, locals := 26 }
set_option maxRecDepth 100000 in
set_option maxHeartbeats 4000000 in
theorem k_X8_hasStronger (l : Launch) (D : va_G) (ty : Nat → ClassId) (x0 : Nat) (th : Nat) (i1 : Nat) (i2 : Nat) (sd : Nat) (i3 : Nat) (ln : Nat) (j1 : Nat) (j2 : Nat) (j3 : Nat) (j4 : Nat) (j5 : Nat) (j6 : Nat) (fm : Nat) (rd : Nat) (mt : Nat) (dr : Nat) (j7 : Nat) (j8 : Nat) (tt : Nat) (wl : Bool) (j9 : Nat) (lm : Nat) (hs : Int64) (F : Nat → Bool) (a : Nat) (hF : okF F) (ha : a < 256) (hf : isF a = true) : gM l D ty yX8_hasStronger cX8_hasStronger 3 (some (FieldType.boolean : FieldType)) r_X8_hasStronger 0 0 [.ref x0, .int (nI a)] [(x0, .inr (6, [.int (nI th), .ref i1, .ref i2, .int (nI sd), .ref i3, .int (nI ln), .ref j1, .ref j2, .ref j3, .ref j4, .ref j5, .ref j6, .int (nI fm), .int (nI rd), .int (nI mt), .int (nI dr), .ref j7, .ref j8, .int (nI tt), .int (bI (wl)), .ref j9, .int (nI lm), .long (hs)])), (j1, .inl (ty 2, 256, .inl (zB F)))] (fun (zr : Option Value) (zW : va_W) => zr = some (.int (bI (wk F a))) ∧ zW = [(x0, .inr (6, [.int (nI th), .ref i1, .ref i2, .int (nI sd), .ref i3, .int (nI ln), .ref j1, .ref j2, .ref j3, .ref j4, .ref j5, .ref j6, .int (nI fm), .int (nI rd), .int (nI mt), .int (nI dr), .ref j7, .ref j8, .int (nI tt), .int (bI (wl)), .ref j9, .int (nI lm), .long (hs)])), (j1, .inl (ty 2, 256, .inl (zB F)))]) := by
  refine gM_of RX8 rfl (by decide +kernel) (Nat.le_of_ble_eq_true rfl) ?_
  intro pg en s0 mi ag bl mth cd AA HH QQ C E hnm
  show gW pg l en r_X8_hasStronger s0 mi ag bl mth cd 3 D AA HH QQ 0 [(0, .ref x0), (1, .int (nI a))] [] [(x0, .inr (6, [.int (nI th), .ref i1, .ref i2, .int (nI sd), .ref i3, .int (nI ln), .ref j1, .ref j2, .ref j3, .ref j4, .ref j5, .ref j6, .int (nI fm), .int (nI rd), .int (nI mt), .int (nI dr), .ref j7, .ref j8, .int (nI tt), .int (bI (wl)), .ref j9, .int (nI lm), .long (hs)])), (j1, .inl (ty 2, 256, .inl (zB F)))] 0 0
  refine g_iload_n C 1 rfl dX8_hasStronger_0 ?_
  refine g_bipush C (nI 64) bp_64 dX8_hasStronger_1 ?_
  refine g_idiv C (nI (a / 64)) (by decide +kernel) dX8_hasStronger_3 (pk_div (by omega) (by omega) (by omega)) ?_
  refine g_bipush C (nI 64) bp_64 dX8_hasStronger_4 ?_
  refine g_imul C (nI ((a / 64) * 64)) dX8_hasStronger_6 (pk_mul _ _) ?_
  refine g_istore_n C [(2, .int (nI ((a / 64) * 64))), (0, .ref x0), (1, .int (nI a))] dX8_hasStronger_7 rfl (by decide) rfl ?_
  refine g_lo [1, 2, 0] [(0, .ref x0), (1, .int (nI a)), (2, .int (nI ((a / 64) * 64)))] rfl ?_
  have L8 : ∀ (fu8 : Nat) (i : Nat) (hi : i ≤ 64) (hn : hsM F a i = false), (64 - i) < fu8 → gW pg l en r_X8_hasStronger s0 mi ag bl mth cd 3 D AA HH QQ 8 [(0, .ref x0), (1, .int (nI a)), (2, .int (nI ((a / 64) * 64 + i)))] [] [(x0, .inr (6, [.int (nI th), .ref i1, .ref i2, .int (nI sd), .ref i3, .int (nI ln), .ref j1, .ref j2, .ref j3, .ref j4, .ref j5, .ref j6, .int (nI fm), .int (nI rd), .int (nI mt), .int (nI dr), .ref j7, .ref j8, .int (nI tt), .int (bI (wl)), .ref j9, .int (nI lm), .long (hs)])), (j1, .inl (ty 2, 256, .inl (zB F)))] 0 0 := by
    intro fu8
    induction fu8 with
    | zero => intro i hi hn hfu; exact absurd hfu (Nat.not_lt_zero _)
    | succ fu8 ih8 =>
      intro i hi hn hfu8
      refine g_iload_n C 2 rfl dX8_hasStronger_8 ?_
      refine g_iload_n C 1 rfl dX8_hasStronger_9 ?_
      refine g_bipush C (nI 64) bp_64 dX8_hasStronger_10 ?_
      refine g_idiv C (nI (a / 64)) (by decide +kernel) dX8_hasStronger_12 (pk_div (by omega) (by omega) (by omega)) ?_
      refine g_bipush C (nI 64) bp_64 dX8_hasStronger_13 ?_
      refine g_imul C (nI ((a / 64) * 64)) dX8_hasStronger_15 (pk_mul _ _) ?_
      refine g_bipush C (nI 64) bp_64 dX8_hasStronger_16 ?_
      refine g_iadd C (nI (((a / 64) * 64) + 64)) dX8_hasStronger_18 (nI_add _ _) ?_
      refine g_icmp_geN C ((a / 64) * 64 + i) (((a / 64) * 64) + 64) 47 rfl rfl (by omega) (by omega) dX8_hasStronger_19 rfl (fun c19 => ?_) (fun c19 => ?_)
      · skip
        refine g_iconst C (nI 0) ic_0 dX8_hasStronger_47 ?_
        exact g_zret E false rfl dX8_hasStronger_48 (by decide) (by decide) ⟨(congrArg (fun z => some (Value.int (bI z))) (by rw [← hsM_wk hF ha hf, ← show i = 64 by omega]; exact hn.symm)), rfl⟩
      · skip
        refine g_aload_n C 0 rfl dX8_hasStronger_22 ?_
        refine g_getf C wu_X8 0 rfl rfl 6 (by decide) wf_X8_19 rfl rfl dX8_hasStronger_23 ?_
        refine g_iload_n C 2 rfl dX8_hasStronger_26 ?_
        refine g_zald C 1 rfl ((a / 64) * 64 + i) rfl (by omega) (by decide) (bI (F ((a / 64) * 64 + i))) rfl dX8_hasStronger_27 ?_
        refine g_if_eqB C (F ((a / 64) * 64 + i)) 41 rfl dX8_hasStronger_28 rfl (fun c28 => ?_) (fun c28 => ?_)
        · skip
          have hn1 : hsM F a (i + 1) = false := by rw [hsM_s, hn, c28]; rfl
          refine g_iinc C (nI (((a / 64) * 64 + i) + 1)) [(2, .int (nI (((a / 64) * 64 + i) + 1))), (0, .ref x0), (1, .int (nI a))] 2 dX8_hasStronger_41 rfl (ii_1 _) (by decide) rfl ?_
          refine g_goto C 8 dX8_hasStronger_44 rfl ?_
          refine g_lo [1, 2, 0] [(0, .ref x0), (1, .int (nI a)), (2, .int (nI (((a / 64) * 64 + i) + 1)))] rfl ?_
          exact ih8 (i + 1) (by omega) hn1 (by omega)
        · skip
          refine g_iload_n C 2 rfl dX8_hasStronger_31 ?_
          refine g_iload_n C 1 rfl dX8_hasStronger_32 ?_
          refine g_callS0 C (nA := 2) (k_X8_isStronger l D ty ((a / 64) * 64 + i) a (by omega) (by omega)) wm_X8_77 ws_X8_isStronger wi_X8 wc_X8_isStronger rfl (by decide +kernel) ⟨(Nat.le_of_ble_eq_true rfl), (Nat.le_of_ble_eq_true rfl)⟩ ⟨rfl, rfl⟩ dX8_hasStronger_33 (fun _ _ h => h.2) (Nat.le_of_ble_eq_true rfl) rfl ⟨Nat.zero_le _, Nat.zero_le _⟩ (fun r hp => ?_)
          obtain ⟨rfl, -⟩ := hp
          refine g_st [.int (bI (spF ((a / 64) * 64 + i) a))] rfl ?_
          refine g_if_eqB C (spF ((a / 64) * 64 + i) a) 41 rfl dX8_hasStronger_36 rfl (fun c36 => ?_) (fun c36 => ?_)
          · skip
            have hn1 : hsM F a (i + 1) = false := by rw [hsM_s, hn, c36, Bool.and_false]; rfl
            refine g_iinc C (nI (((a / 64) * 64 + i) + 1)) [(2, .int (nI (((a / 64) * 64 + i) + 1))), (0, .ref x0), (1, .int (nI a))] 2 dX8_hasStronger_41 rfl (ii_1 _) (by decide) rfl ?_
            refine g_goto C 8 dX8_hasStronger_44 rfl ?_
            refine g_lo [1, 2, 0] [(0, .ref x0), (1, .int (nI a)), (2, .int (nI (((a / 64) * 64 + i) + 1)))] rfl ?_
            exact ih8 (i + 1) (by omega) hn1 (by omega)
          · skip
            refine g_iconst C (nI 1) ic_1 dX8_hasStronger_39 ?_
            exact g_zret E true rfl dX8_hasStronger_40 (by decide) (by decide) ⟨(congrArg (fun z => some (Value.int (bI z))) (by rw [← hsM_wk hF ha hf, show 64 = (i + 1) + (63 - i) by omega, hsM_t (by rw [hsM_s, c28, c36]; simp)])), rfl⟩
  exact L8 (64 - 0 + 1) 0 (by omega) rfl (Nat.lt_succ_self _)
def r_X8_isFollowing : Room := { frames := 2, cells := 0, slots := 0, locals := 48 }
set_option maxRecDepth 100000 in
set_option maxHeartbeats 4000000 in
theorem k_X8_isFollowing (l : Launch) (D : va_G) (ty : Nat → ClassId) (x0 : Nat) (th : Nat) (i1 : Nat) (i2 : Nat) (sd : Nat) (i3 : Nat) (ln : Nat) (j1 : Nat) (j2 : Nat) (j3 : Nat) (j4 : Nat) (j5 : Nat) (j6 : Nat) (fm : Nat) (rd : Nat) (mt : Nat) (dr : Nat) (j7 : Nat) (j8 : Nat) (tt : Nat) (wl : Bool) (j9 : Nat) (lm : Nat) (hs : Int64) (F : Nat → Bool) (a : Nat) (hF : okF F) (ha : a < 256) (hf : isF a = true) : gM l D ty yX8_isFollowing cX8_isFollowing 2 (some (FieldType.boolean : FieldType)) r_X8_isFollowing 0 0 [.ref x0, .int (nI a)] [(x0, .inr (6, [.int (nI th), .ref i1, .ref i2, .int (nI sd), .ref i3, .int (nI ln), .ref j1, .ref j2, .ref j3, .ref j4, .ref j5, .ref j6, .int (nI fm), .int (nI rd), .int (nI mt), .int (nI dr), .ref j7, .ref j8, .int (nI tt), .int (bI (wl)), .ref j9, .int (nI lm), .long (hs)])), (j1, .inl (ty 2, 256, .inl (zB F)))] (fun (zr : Option Value) (zW : va_W) => zr = some (.int (bI (foll F a))) ∧ zW = [(x0, .inr (6, [.int (nI th), .ref i1, .ref i2, .int (nI sd), .ref i3, .int (nI ln), .ref j1, .ref j2, .ref j3, .ref j4, .ref j5, .ref j6, .int (nI fm), .int (nI rd), .int (nI mt), .int (nI dr), .ref j7, .ref j8, .int (nI tt), .int (bI (wl)), .ref j9, .int (nI lm), .long (hs)])), (j1, .inl (ty 2, 256, .inl (zB F)))]) := by
  refine gM_of RX8 rfl (by decide +kernel) (Nat.le_of_ble_eq_true rfl) ?_
  intro pg en s0 mi ag bl mth cd AA HH QQ C E hnm
  show gW pg l en r_X8_isFollowing s0 mi ag bl mth cd 2 D AA HH QQ 0 [(0, .ref x0), (1, .int (nI a))] [] [(x0, .inr (6, [.int (nI th), .ref i1, .ref i2, .int (nI sd), .ref i3, .int (nI ln), .ref j1, .ref j2, .ref j3, .ref j4, .ref j5, .ref j6, .int (nI fm), .int (nI rd), .int (nI mt), .int (nI dr), .ref j7, .ref j8, .int (nI tt), .int (bI (wl)), .ref j9, .int (nI lm), .long (hs)])), (j1, .inl (ty 2, 256, .inl (zB F)))] 0 0
  refine g_aload_n C 0 rfl dX8_isFollowing_0 ?_
  refine g_getf C wu_X8 0 rfl rfl 6 (by decide) wf_X8_19 rfl rfl dX8_isFollowing_1 ?_
  refine g_iload_n C 1 rfl dX8_isFollowing_4 ?_
  refine g_zald C 1 rfl a rfl (by omega) (by decide) (bI (F a)) rfl dX8_isFollowing_5 ?_
  refine g_if_neB C (F a) 17 rfl dX8_isFollowing_6 rfl (fun c6 => ?_) (fun c6 => ?_)
  · skip
    refine g_iconst C (nI 1) ic_1 dX8_isFollowing_17 ?_
    refine g_goto C 22 dX8_isFollowing_18 rfl ?_
    exact g_zret E true rfl dX8_isFollowing_22 (by decide) (by decide) ⟨(congrArg (fun z => some (Value.int (bI z))) (by unfold foll; simp_all)), rfl⟩
  · skip
    refine g_aload_n C 0 rfl dX8_isFollowing_9 ?_
    refine g_iload_n C 1 rfl dX8_isFollowing_10 ?_
    refine g_callV C (nA := 1) (ci := 6) (q0 := 0) (As := [.int (nI a)]) (wr := []) (k_X8_hasStronger l D ty x0 th i1 i2 sd i3 ln j1 j2 j3 j4 j5 j6 fm rd mt dr j7 j8 tt wl j9 lm hs F a (by omega) (by omega) (by omega)) wm_X8_80 wn_X8_hasStronger wv_X8_hasStronger wi_X8 wc_X8_hasStronger rfl (by decide +kernel) ⟨(Nat.le_of_ble_eq_true rfl), (Nat.le_of_ble_eq_true rfl)⟩ ⟨rfl, rfl⟩ dX8_isFollowing_11 ⟨Nat.zero_le _, Nat.zero_le _⟩ rfl rfl rfl [0, 1] [] rfl rfl rfl rfl (by decide) (Nat.le_of_ble_eq_true rfl) rfl (fun r W1 hp => ?_)
    obtain ⟨rfl, rfl⟩ := hp
    refine g_fix [.int (bI (wk F a))] [(x0, .inr (6, [.int (nI th), .ref i1, .ref i2, .int (nI sd), .ref i3, .int (nI ln), .ref j1, .ref j2, .ref j3, .ref j4, .ref j5, .ref j6, .int (nI fm), .int (nI rd), .int (nI mt), .int (nI dr), .ref j7, .ref j8, .int (nI tt), .int (bI (wl)), .ref j9, .int (nI lm), .long (hs)])), (j1, .inl (ty 2, 256, .inl (zB F)))] [0, 1] rfl rfl rfl ?_
    refine g_if_eqB C (wk F a) 21 rfl dX8_isFollowing_14 rfl (fun c14 => ?_) (fun c14 => ?_)
    · skip
      refine g_iconst C (nI 0) ic_0 dX8_isFollowing_21 ?_
      exact g_zret E false rfl dX8_isFollowing_22 (by decide) (by decide) ⟨(congrArg (fun z => some (Value.int (bI z))) (by unfold foll; simp_all)), rfl⟩
    · skip
      refine g_iconst C (nI 1) ic_1 dX8_isFollowing_17 ?_
      refine g_goto C 22 dX8_isFollowing_18 rfl ?_
      exact g_zret E true rfl dX8_isFollowing_22 (by decide) (by decide) ⟨(congrArg (fun z => some (Value.int (bI z))) (by unfold foll; simp_all)), rfl⟩
