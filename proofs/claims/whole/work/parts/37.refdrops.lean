theorem zcnt_grow (p : Nat → Bool) {m n : Nat} (h : m ≤ n) : zcnt p m ≤ zcnt p n := by
  rw [show n = m + (n - m) by omega, zcnt_split]
  omega
def dW (F : Nat → Bool) : Nat → Bool := fun j => F j && wk F j
def dN (F U : Nat → Bool) (m : Nat) : Nat → Bool := fun j => if j < m then dW F j else U j
def dF (F : Nat → Bool) (m : Nat) : Nat → Bool := fun j => if j < m then drp F j else F j
theorem zB_up (g : Nat → Bool) (m : Nat) (b : Bool) : upd (zB g) m (bI b) = zB (fun j => if j = m then b else g j) := by
  funext j
  unfold upd zB
  by_cases h : j = m <;> simp [h]
theorem dN_0 (F U : Nat → Bool) : dN F U 0 = U := by
  funext j
  unfold dN
  rw [if_neg (by omega)]
theorem dN_up (F U : Nat → Bool) (m : Nat) : upd (zB (dN F U m)) m (bI (dW F m)) = zB (dN F U (m + 1)) := by
  rw [zB_up]
  congr 1
  funext j
  unfold dN
  by_cases h : j = m
  · subst h; rw [if_pos rfl, if_pos (by omega)]
  · rw [if_neg h]
    by_cases h2 : j < m
    · rw [if_pos h2, if_pos (by omega)]
    · rw [if_neg h2, if_neg (by omega)]
theorem dF_0 (F : Nat → Bool) : dF F 0 = F := by
  funext j
  unfold dF
  rw [if_neg (by omega)]
theorem drp_W (F : Nat → Bool) (j : Nat) : drp F j = (F j && !dW F j) := by
  unfold drp dW
  cases F j <;> simp
theorem dF_up {F : Nat → Bool} {m : Nat} (h : dW F m = true) : upd (zB (dF F m)) m (bI false) = zB (dF F (m + 1)) := by
  rw [zB_up]
  congr 1
  funext j
  unfold dF
  by_cases h1 : j = m
  · subst h1; rw [if_pos rfl, if_pos (by omega), drp_W, h]; simp
  · rw [if_neg h1]
    by_cases h2 : j < m
    · rw [if_pos h2, if_pos (by omega)]
    · rw [if_neg h2, if_neg (by omega)]
theorem dF_f {F : Nat → Bool} {m : Nat} (h : dW F m = false) : dF F (m + 1) = dF F m := by
  funext j
  unfold dF
  by_cases h1 : j = m
  · subst h1; rw [if_pos (by omega), if_neg (by omega), drp_W, h]; simp
  · by_cases h2 : j < m
    · rw [if_pos h2, if_pos (by omega)]
    · rw [if_neg h2, if_neg (by omega)]
theorem dF_256 {F : Nat → Bool} (hF : okF F) : dF F 256 = drp F := by
  funext j
  unfold dF
  by_cases h : j < 256
  · rw [if_pos h]
  · rw [if_neg h]
    have : F j = false := Bool.eq_false_iff.mpr (fun q => h (hF j q).2)
    rw [drp_W, this]; rfl
theorem dW_cnt (F : Nat → Bool) (n : Nat) : zcnt (dW F) n + zcnt (drp F) n = zcnt F n := by
  induction n with
  | zero => rfl
  | succ n ih =>
    rw [zcnt_1, zcnt_1, zcnt_1, drp_W]
    have : dW F n = true → F n = true := fun h => by unfold dW at h; exact (Bool.and_eq_true _ _ ▸ h).1
    cases h1 : F n <;> cases h2 : dW F n <;> simp_all <;> omega

def r_X8_opensPlaces : Room := { frames := 0, cells := 0, slots := 0, locals := 0 }
set_option maxRecDepth 100000 in
set_option maxHeartbeats 4000000 in
theorem k_X8_opensPlaces (l : Launch) (D : va_G) (ty : Nat → ClassId) (x0 : Nat) (th : Nat) (i1 : Nat) (i2 : Nat) (sd : Nat) (i3 : Nat) (ln : Nat) (j1 : Nat) (j2 : Nat) (j3 : Nat) (j4 : Nat) (j5 : Nat) (j6 : Nat) (fm : Nat) (rd : Nat) (mt : Nat) (dr : Nat) (j7 : Nat) (j8 : Nat) (tt : Nat) (wl : Bool) (j9 : Nat) (lm : Nat) (hs : Int64) (S0 : Nat → Int32) (C0 : Nat → Int32)  : gM l D ty yX8_opensPlaces cX8_opensPlaces 2 none r_X8_opensPlaces 0 0 [.ref x0] [(x0, .inr (6, [.int (nI th), .ref i1, .ref i2, .int (nI sd), .ref i3, .int (nI ln), .ref j1, .ref j2, .ref j3, .ref j4, .ref j5, .ref j6, .int (nI fm), .int (nI rd), .int (nI mt), .int (nI dr), .ref j7, .ref j8, .int (nI tt), .int (bI (wl)), .ref j9, .int (nI lm), .long (hs)])), (j7, .inl (ty 0, 8, .inl (S0))), (j8, .inl (ty 0, 8, .inl (C0)))] (fun (zr : Option Value) (zW : va_W) => zr = none ∧ zW = [(x0, .inr (6, [.int (nI th), .ref i1, .ref i2, .int (nI sd), .ref i3, .int (nI ln), .ref j1, .ref j2, .ref j3, .ref j4, .ref j5, .ref j6, .int (nI fm), .int (nI rd), .int (nI mt), .int (nI dr), .ref j7, .ref j8, .int (nI tt), .int (bI (wl)), .ref j9, .int (nI lm), .long (hs)])), (j7, .inl (ty 0, 8, .inl (tI (fun j => j)))), (j8, .inl (ty 0, 8, .inl (eR (fun _ => 256))))]) := by
  refine gM_of RX8 rfl (by decide +kernel) (Nat.le_of_ble_eq_true rfl) ?_
  intro pg en s0 mi ag bl mth cd AA HH QQ C E hnm
  show gW pg l en r_X8_opensPlaces s0 mi ag bl mth cd 2 D AA HH QQ 0 [(0, .ref x0)] [] [(x0, .inr (6, [.int (nI th), .ref i1, .ref i2, .int (nI sd), .ref i3, .int (nI ln), .ref j1, .ref j2, .ref j3, .ref j4, .ref j5, .ref j6, .int (nI fm), .int (nI rd), .int (nI mt), .int (nI dr), .ref j7, .ref j8, .int (nI tt), .int (bI (wl)), .ref j9, .int (nI lm), .long (hs)])), (j7, .inl (ty 0, 8, .inl (S0))), (j8, .inl (ty 0, 8, .inl (C0)))] 0 0
  refine g_iconst C (nI 0) ic_0 dX8_opensPlaces_0 ?_
  refine g_istore_n C [(1, .int (nI 0)), (0, .ref x0)] dX8_opensPlaces_1 rfl (by decide) rfl ?_
  refine g_lo [1, 0] [(0, .ref x0), (1, .int (nI 0))] rfl ?_
  refine g_ws [(x0, .inr (6, [.int (nI th), .ref i1, .ref i2, .int (nI sd), .ref i3, .int (nI ln), .ref j1, .ref j2, .ref j3, .ref j4, .ref j5, .ref j6, .int (nI fm), .int (nI rd), .int (nI mt), .int (nI dr), .ref j7, .ref j8, .int (nI tt), .int (bI (wl)), .ref j9, .int (nI lm), .long (hs)])), (j7, .inl (ty 0, 8, .inl (zfl (tI (fun j => j)) S0 0))), (j8, .inl (ty 0, 8, .inl (zfl (eR (fun _ => 256)) C0 0)))] (by rw [zfl_0, zfl_0]) ?_
  have L2 : ∀ (fu2 : Nat) (i : Nat) (hi : i ≤ 8), (8 - i) < fu2 → gW pg l en r_X8_opensPlaces s0 mi ag bl mth cd 2 D AA HH QQ 2 [(0, .ref x0), (1, .int (nI i))] [] [(x0, .inr (6, [.int (nI th), .ref i1, .ref i2, .int (nI sd), .ref i3, .int (nI ln), .ref j1, .ref j2, .ref j3, .ref j4, .ref j5, .ref j6, .int (nI fm), .int (nI rd), .int (nI mt), .int (nI dr), .ref j7, .ref j8, .int (nI tt), .int (bI (wl)), .ref j9, .int (nI lm), .long (hs)])), (j7, .inl (ty 0, 8, .inl (zfl (tI (fun j => j)) S0 i))), (j8, .inl (ty 0, 8, .inl (zfl (eR (fun _ => 256)) C0 i)))] 0 0 := by
    intro fu2
    induction fu2 with
    | zero => intro i hi hfu; exact absurd hfu (Nat.not_lt_zero _)
    | succ fu2 ih2 =>
      intro i hi hfu2
      refine g_iload_n C 1 rfl dX8_opensPlaces_2 ?_
      refine g_bipush C (nI 8) bp_8 dX8_opensPlaces_3 ?_
      refine g_icmp_geN C i 8 28 rfl rfl (by omega) (by omega) dX8_opensPlaces_5 rfl (fun c5 => ?_) (fun c5 => ?_)
      · skip
        refine g_extI 1 rfl (tI (fun j => j)) (fun j hj => zfl_in _ _ (show j < i by omega)) [(x0, .inr (6, [.int (nI th), .ref i1, .ref i2, .int (nI sd), .ref i3, .int (nI ln), .ref j1, .ref j2, .ref j3, .ref j4, .ref j5, .ref j6, .int (nI fm), .int (nI rd), .int (nI mt), .int (nI dr), .ref j7, .ref j8, .int (nI tt), .int (bI (wl)), .ref j9, .int (nI lm), .long (hs)])), (j7, .inl (ty 0, 8, .inl (tI (fun j => j)))), (j8, .inl (ty 0, 8, .inl (zfl (eR (fun _ => 256)) C0 i)))] rfl ?_
        refine g_extI 2 rfl (eR (fun _ => 256)) (fun j hj => zfl_in _ _ (show j < i by omega)) [(x0, .inr (6, [.int (nI th), .ref i1, .ref i2, .int (nI sd), .ref i3, .int (nI ln), .ref j1, .ref j2, .ref j3, .ref j4, .ref j5, .ref j6, .int (nI fm), .int (nI rd), .int (nI mt), .int (nI dr), .ref j7, .ref j8, .int (nI tt), .int (bI (wl)), .ref j9, .int (nI lm), .long (hs)])), (j7, .inl (ty 0, 8, .inl (tI (fun j => j)))), (j8, .inl (ty 0, 8, .inl (eR (fun _ => 256))))] rfl ?_
        exact g_vret E dX8_opensPlaces_28 (by decide) (by decide) ⟨rfl, rfl⟩
      · skip
        refine g_aload_n C 0 rfl dX8_opensPlaces_8 ?_
        refine g_getf C wu_X8 0 rfl rfl 16 (by decide) wf_X8_38 rfl rfl dX8_opensPlaces_9 ?_
        refine g_iload_n C 1 rfl dX8_opensPlaces_12 ?_
        refine g_iload_n C 1 rfl dX8_opensPlaces_13 ?_
        refine g_iast C 1 rfl i rfl (by omega) (by decide) dX8_opensPlaces_14 (zfl (tI (fun j => j)) S0 (i + 1)) (zfl_I _ _ _ rfl) [(x0, .inr (6, [.int (nI th), .ref i1, .ref i2, .int (nI sd), .ref i3, .int (nI ln), .ref j1, .ref j2, .ref j3, .ref j4, .ref j5, .ref j6, .int (nI fm), .int (nI rd), .int (nI mt), .int (nI dr), .ref j7, .ref j8, .int (nI tt), .int (bI (wl)), .ref j9, .int (nI lm), .long (hs)])), (j7, .inl (ty 0, 8, .inl (zfl (tI (fun j => j)) S0 (i + 1)))), (j8, .inl (ty 0, 8, .inl (zfl (eR (fun _ => 256)) C0 i)))] rfl ?_
        refine g_aload_n C 0 rfl dX8_opensPlaces_15 ?_
        refine g_getf C wu_X8 0 rfl rfl 17 (by decide) wf_X8_41 rfl rfl dX8_opensPlaces_16 ?_
        refine g_iload_n C 1 rfl dX8_opensPlaces_19 ?_
        refine g_iconst C (-1) ic_m1 dX8_opensPlaces_20 ?_
        refine g_iast C 2 rfl i rfl (by omega) (by decide) dX8_opensPlaces_21 (zfl (eR (fun _ => 256)) C0 (i + 1)) (zfl_I _ _ _ rfl) [(x0, .inr (6, [.int (nI th), .ref i1, .ref i2, .int (nI sd), .ref i3, .int (nI ln), .ref j1, .ref j2, .ref j3, .ref j4, .ref j5, .ref j6, .int (nI fm), .int (nI rd), .int (nI mt), .int (nI dr), .ref j7, .ref j8, .int (nI tt), .int (bI (wl)), .ref j9, .int (nI lm), .long (hs)])), (j7, .inl (ty 0, 8, .inl (zfl (tI (fun j => j)) S0 (i + 1)))), (j8, .inl (ty 0, 8, .inl (zfl (eR (fun _ => 256)) C0 (i + 1))))] rfl ?_
        refine g_iinc C (nI (i + 1)) [(1, .int (nI (i + 1))), (0, .ref x0)] 1 dX8_opensPlaces_22 rfl (ii_1 _) (by decide) rfl ?_
        refine g_goto C 2 dX8_opensPlaces_25 rfl ?_
        refine g_lo [1, 0] [(0, .ref x0), (1, .int (nI (i + 1)))] rfl ?_
        exact ih2 (i + 1) (by omega) (by omega)
  exact L2 (8 - 0 + 1) 0 (by omega) (Nat.lt_succ_self _)
def r_X8_drops : Room := { frames := 2, cells := 0, slots := 0, locals := 48 }
set_option maxRecDepth 100000 in
set_option maxHeartbeats 4000000 in
theorem k_X8_drops (l : Launch) (D : va_G) (ty : Nat → ClassId) (x0 : Nat) (th : Nat) (i1 : Nat) (i2 : Nat) (sd : Nat) (i3 : Nat) (ln : Nat) (j1 : Nat) (j2 : Nat) (j3 : Nat) (j4 : Nat) (j5 : Nat) (j6 : Nat) (fm : Nat) (rd : Nat) (mt : Nat) (dr : Nat) (j7 : Nat) (j8 : Nat) (tt : Nat) (wl : Bool) (j9 : Nat) (lm : Nat) (hs : Int64) (F : Nat → Bool) (U : Nat → Bool) (hF : okF F) (hfm : fm = zcnt F 256) : gM l D ty yX8_drops cX8_drops 2 none r_X8_drops 0 0 [.ref x0] [(x0, .inr (6, [.int (nI th), .ref i1, .ref i2, .int (nI sd), .ref i3, .int (nI ln), .ref j1, .ref j2, .ref j3, .ref j4, .ref j5, .ref j6, .int (nI fm), .int (nI rd), .int (nI mt), .int (nI dr), .ref j7, .ref j8, .int (nI tt), .int (bI (wl)), .ref j9, .int (nI lm), .long (hs)])), (j1, .inl (ty 2, 256, .inl (zB F))), (j4, .inl (ty 2, 256, .inl (zB U)))] (fun (zr : Option Value) (zW : va_W) => ∃ (U9 : Nat → Bool), zr = none ∧ zW = [(x0, .inr (6, [.int (nI th), .ref i1, .ref i2, .int (nI sd), .ref i3, .int (nI ln), .ref j1, .ref j2, .ref j3, .ref j4, .ref j5, .ref j6, .int (nI (zcnt (drp F) 256)), .int (nI rd), .int (nI mt), .int (nI (dr + (zcnt F 256 - zcnt (drp F) 256))), .ref j7, .ref j8, .int (nI tt), .int (bI (wl)), .ref j9, .int (nI lm), .long (hs)])), (j1, .inl (ty 2, 256, .inl (zB (drp F)))), (j4, .inl (ty 2, 256, .inl (zB U9)))]) := by
  have hc := dW_cnt F 256
  have hle : ∀ n, n ≤ 256 → zcnt (dW F) n ≤ zcnt (dW F) 256 := fun n h => zcnt_grow _ h
  have hl2 := zcnt_le F 256
  refine gM_of RX8 rfl (by decide +kernel) (Nat.le_of_ble_eq_true rfl) ?_
  intro pg en s0 mi ag bl mth cd AA HH QQ C E hnm
  show gW pg l en r_X8_drops s0 mi ag bl mth cd 2 D AA HH QQ 0 [(0, .ref x0)] [] [(x0, .inr (6, [.int (nI th), .ref i1, .ref i2, .int (nI sd), .ref i3, .int (nI ln), .ref j1, .ref j2, .ref j3, .ref j4, .ref j5, .ref j6, .int (nI fm), .int (nI rd), .int (nI mt), .int (nI dr), .ref j7, .ref j8, .int (nI tt), .int (bI (wl)), .ref j9, .int (nI lm), .long (hs)])), (j1, .inl (ty 2, 256, .inl (zB F))), (j4, .inl (ty 2, 256, .inl (zB U)))] 0 0
  refine g_iconst C (nI 0) ic_0 dX8_drops_0 ?_
  refine g_istore_n C [(1, .int (nI 0)), (0, .ref x0)] dX8_drops_1 rfl (by decide) rfl ?_
  refine g_lo [1, 0] [(0, .ref x0), (1, .int (nI 0))] rfl ?_
  refine g_ws [(x0, .inr (6, [.int (nI th), .ref i1, .ref i2, .int (nI sd), .ref i3, .int (nI ln), .ref j1, .ref j2, .ref j3, .ref j4, .ref j5, .ref j6, .int (nI fm), .int (nI rd), .int (nI mt), .int (nI dr), .ref j7, .ref j8, .int (nI tt), .int (bI (wl)), .ref j9, .int (nI lm), .long (hs)])), (j1, .inl (ty 2, 256, .inl (zB F))), (j4, .inl (ty 2, 256, .inl (zB (dN F U 0))))] (by rw [dN_0]) ?_
  have L2 : ∀ (fu2 : Nat) (i : Nat) (hi : i ≤ 256), (256 - i) < fu2 → gW pg l en r_X8_drops s0 mi ag bl mth cd 2 D AA HH QQ 2 [(0, .ref x0), (1, .int (nI i))] [] [(x0, .inr (6, [.int (nI th), .ref i1, .ref i2, .int (nI sd), .ref i3, .int (nI ln), .ref j1, .ref j2, .ref j3, .ref j4, .ref j5, .ref j6, .int (nI fm), .int (nI rd), .int (nI mt), .int (nI dr), .ref j7, .ref j8, .int (nI tt), .int (bI (wl)), .ref j9, .int (nI lm), .long (hs)])), (j1, .inl (ty 2, 256, .inl (zB F))), (j4, .inl (ty 2, 256, .inl (zB (dN F U i))))] 0 0 := by
    intro fu2
    induction fu2 with
    | zero => intro i hi hfu; exact absurd hfu (Nat.not_lt_zero _)
    | succ fu2 ih2 =>
      intro i hi hfu2
      refine g_iload_n C 1 rfl dX8_drops_2 ?_
      refine g_sipush C (nI 256) sp_256 dX8_drops_3 ?_
      refine g_icmp_geN C i 256 43 rfl rfl (by omega) (by omega) dX8_drops_6 rfl (fun c6 => ?_) (fun c6 => ?_)
      · skip
        refine g_ws [(x0, .inr (6, [.int (nI th), .ref i1, .ref i2, .int (nI sd), .ref i3, .int (nI ln), .ref j1, .ref j2, .ref j3, .ref j4, .ref j5, .ref j6, .int (nI fm), .int (nI rd), .int (nI mt), .int (nI dr), .ref j7, .ref j8, .int (nI tt), .int (bI (wl)), .ref j9, .int (nI lm), .long (hs)])), (j1, .inl (ty 2, 256, .inl (zB F))), (j4, .inl (ty 2, 256, .inl (zB (dN F U 256))))] (by rw [show i = 256 by omega]) ?_
        refine g_iconst C (nI 0) ic_0 dX8_drops_43 ?_
        refine g_istore_n C [(1, .int (nI 0)), (0, .ref x0)] dX8_drops_44 rfl (by decide) rfl ?_
        refine g_lo [1, 0] [(0, .ref x0), (1, .int (nI 0))] rfl ?_
        refine g_ws [(x0, .inr (6, [.int (nI th), .ref i1, .ref i2, .int (nI sd), .ref i3, .int (nI ln), .ref j1, .ref j2, .ref j3, .ref j4, .ref j5, .ref j6, .int (nI (fm - zcnt (dW F) 0)), .int (nI rd), .int (nI mt), .int (nI (dr + zcnt (dW F) 0)), .ref j7, .ref j8, .int (nI tt), .int (bI (wl)), .ref j9, .int (nI lm), .long (hs)])), (j1, .inl (ty 2, 256, .inl (zB (dF F 0)))), (j4, .inl (ty 2, 256, .inl (zB (dN F U 256))))] (by rw [dF_0]; rfl) ?_
        have L45 : ∀ (fu45 : Nat) (i : Nat) (hi : i ≤ 256), (256 - i) < fu45 → gW pg l en r_X8_drops s0 mi ag bl mth cd 2 D AA HH QQ 45 [(0, .ref x0), (1, .int (nI i))] [] [(x0, .inr (6, [.int (nI th), .ref i1, .ref i2, .int (nI sd), .ref i3, .int (nI ln), .ref j1, .ref j2, .ref j3, .ref j4, .ref j5, .ref j6, .int (nI (fm - zcnt (dW F) i)), .int (nI rd), .int (nI mt), .int (nI (dr + zcnt (dW F) i)), .ref j7, .ref j8, .int (nI tt), .int (bI (wl)), .ref j9, .int (nI lm), .long (hs)])), (j1, .inl (ty 2, 256, .inl (zB (dF F i)))), (j4, .inl (ty 2, 256, .inl (zB (dN F U 256))))] 0 0 := by
          intro fu45
          induction fu45 with
          | zero => intro i hi hfu; exact absurd hfu (Nat.not_lt_zero _)
          | succ fu45 ih45 =>
            intro i hi hfu45
            refine g_iload_n C 1 rfl dX8_drops_45 ?_
            refine g_sipush C (nI 256) sp_256 dX8_drops_46 ?_
            refine g_icmp_geN C i 256 94 rfl rfl (by omega) (by omega) dX8_drops_49 rfl (fun c49 => ?_) (fun c49 => ?_)
            · skip
              refine g_ws [(x0, .inr (6, [.int (nI th), .ref i1, .ref i2, .int (nI sd), .ref i3, .int (nI ln), .ref j1, .ref j2, .ref j3, .ref j4, .ref j5, .ref j6, .int (nI (zcnt (drp F) 256)), .int (nI rd), .int (nI mt), .int (nI (dr + (zcnt F 256 - zcnt (drp F) 256))), .ref j7, .ref j8, .int (nI tt), .int (bI (wl)), .ref j9, .int (nI lm), .long (hs)])), (j1, .inl (ty 2, 256, .inl (zB (drp F)))), (j4, .inl (ty 2, 256, .inl (zB (dN F U 256))))] (by rw [show i = 256 by omega, dF_256 hF, show zcnt (dW F) 256 = zcnt F 256 - zcnt (drp F) 256 by omega, show fm - (zcnt F 256 - zcnt (drp F) 256) = zcnt (drp F) 256 by omega]) ?_
              exact g_vret E dX8_drops_94 (by decide) (by decide) ⟨(dN F U 256), rfl, rfl⟩
            · skip
              refine g_aload_n C 0 rfl dX8_drops_52 ?_
              refine g_getf C wu_X8 0 rfl rfl 9 (by decide) wf_X8_29 rfl rfl dX8_drops_53 ?_
              refine g_iload_n C 1 rfl dX8_drops_56 ?_
              refine g_zald C 2 rfl i rfl (by omega) (by decide) (bI (dW F i)) (by show bI (dN F U 256 i) = _; unfold dN; rw [if_pos (by omega)]) dX8_drops_57 ?_
              refine g_if_eqB C (dW F i) 88 rfl dX8_drops_58 rfl (fun c58 => ?_) (fun c58 => ?_)
              · skip
                refine g_ws [(x0, .inr (6, [.int (nI th), .ref i1, .ref i2, .int (nI sd), .ref i3, .int (nI ln), .ref j1, .ref j2, .ref j3, .ref j4, .ref j5, .ref j6, .int (nI (fm - zcnt (dW F) (i + 1))), .int (nI rd), .int (nI mt), .int (nI (dr + zcnt (dW F) (i + 1))), .ref j7, .ref j8, .int (nI tt), .int (bI (wl)), .ref j9, .int (nI lm), .long (hs)])), (j1, .inl (ty 2, 256, .inl (zB (dF F (i + 1))))), (j4, .inl (ty 2, 256, .inl (zB (dN F U 256))))] (by rw [dF_f c58, zcnt_f c58]) ?_
                refine g_iinc C (nI (i + 1)) [(1, .int (nI (i + 1))), (0, .ref x0)] 1 dX8_drops_88 rfl (ii_1 _) (by decide) rfl ?_
                refine g_goto C 45 dX8_drops_91 rfl ?_
                refine g_lo [1, 0] [(0, .ref x0), (1, .int (nI (i + 1)))] rfl ?_
                exact ih45 (i + 1) (by omega) (by omega)
              · skip
                have hle1 := hle (i + 1) (by omega)
                have hct := zcnt_t (p := dW F) c58
                refine g_aload_n C 0 rfl dX8_drops_61 ?_
                refine g_getf C wu_X8 0 rfl rfl 6 (by decide) wf_X8_19 rfl rfl dX8_drops_62 ?_
                refine g_iload_n C 1 rfl dX8_drops_65 ?_
                refine g_iconst C (nI 0) ic_0 dX8_drops_66 ?_
                refine g_st [.int (bI (false)), .int (nI i), .ref j1] rfl ?_
                refine g_zast C 1 rfl i rfl (by omega) (by decide) false rfl dX8_drops_67 (zB (dF F (i + 1))) (dF_up c58) [(x0, .inr (6, [.int (nI th), .ref i1, .ref i2, .int (nI sd), .ref i3, .int (nI ln), .ref j1, .ref j2, .ref j3, .ref j4, .ref j5, .ref j6, .int (nI (fm - zcnt (dW F) i)), .int (nI rd), .int (nI mt), .int (nI (dr + zcnt (dW F) i)), .ref j7, .ref j8, .int (nI tt), .int (bI (wl)), .ref j9, .int (nI lm), .long (hs)])), (j1, .inl (ty 2, 256, .inl (zB (dF F (i + 1))))), (j4, .inl (ty 2, 256, .inl (zB (dN F U 256))))] rfl ?_
                refine g_aload_n C 0 rfl dX8_drops_68 ?_
                refine g_dup C rfl dX8_drops_69 ?_
                refine g_getf C wu_X8 0 rfl rfl 15 (by decide) wf_X8_83 rfl rfl dX8_drops_70 ?_
                refine g_iconst C (nI 1) ic_1 dX8_drops_73 ?_
                refine g_iadd C (nI (dr + zcnt (dW F) (i + 1))) dX8_drops_74 (by rw [hct]; exact nI_add _ _) ?_
                refine g_putf C wu_X8 tyX8 tyX8_ok nmX8 0 rfl rfl 15 (by decide) wf_X8_83 rfl rfl rfl rfl (Nat.le_of_ble_eq_true rfl) dX8_drops_75 [(x0, .inr (6, [.int (nI th), .ref i1, .ref i2, .int (nI sd), .ref i3, .int (nI ln), .ref j1, .ref j2, .ref j3, .ref j4, .ref j5, .ref j6, .int (nI (fm - zcnt (dW F) i)), .int (nI rd), .int (nI mt), .int (nI (dr + zcnt (dW F) (i + 1))), .ref j7, .ref j8, .int (nI tt), .int (bI (wl)), .ref j9, .int (nI lm), .long (hs)])), (j1, .inl (ty 2, 256, .inl (zB (dF F (i + 1))))), (j4, .inl (ty 2, 256, .inl (zB (dN F U 256))))] rfl ?_
                refine g_aload_n C 0 rfl dX8_drops_78 ?_
                refine g_dup C rfl dX8_drops_79 ?_
                refine g_getf C wu_X8 0 rfl rfl 12 (by decide) wf_X8_86 rfl rfl dX8_drops_80 ?_
                refine g_iconst C (nI 1) ic_1 dX8_drops_83 ?_
                refine g_isub C (nI (fm - zcnt (dW F) (i + 1))) dX8_drops_84 (by rw [show fm - zcnt (dW F) (i + 1) = fm - zcnt (dW F) i - 1 by omega]; exact pk_sub (by omega)) ?_
                refine g_putf C wu_X8 tyX8 tyX8_ok nmX8 0 rfl rfl 12 (by decide) wf_X8_86 rfl rfl rfl rfl (Nat.le_of_ble_eq_true rfl) dX8_drops_85 [(x0, .inr (6, [.int (nI th), .ref i1, .ref i2, .int (nI sd), .ref i3, .int (nI ln), .ref j1, .ref j2, .ref j3, .ref j4, .ref j5, .ref j6, .int (nI (fm - zcnt (dW F) (i + 1))), .int (nI rd), .int (nI mt), .int (nI (dr + zcnt (dW F) (i + 1))), .ref j7, .ref j8, .int (nI tt), .int (bI (wl)), .ref j9, .int (nI lm), .long (hs)])), (j1, .inl (ty 2, 256, .inl (zB (dF F (i + 1))))), (j4, .inl (ty 2, 256, .inl (zB (dN F U 256))))] rfl ?_
                refine g_iinc C (nI (i + 1)) [(1, .int (nI (i + 1))), (0, .ref x0)] 1 dX8_drops_88 rfl (ii_1 _) (by decide) rfl ?_
                refine g_goto C 45 dX8_drops_91 rfl ?_
                refine g_lo [1, 0] [(0, .ref x0), (1, .int (nI (i + 1)))] rfl ?_
                exact ih45 (i + 1) (by omega) (by omega)
        exact L45 (256 - 0 + 1) 0 (by omega) (Nat.lt_succ_self _)
      · skip
        refine g_aload_n C 0 rfl dX8_drops_9 ?_
        refine g_getf C wu_X8 0 rfl rfl 9 (by decide) wf_X8_29 rfl rfl dX8_drops_10 ?_
        refine g_iload_n C 1 rfl dX8_drops_13 ?_
        refine g_aload_n C 0 rfl dX8_drops_14 ?_
        refine g_getf C wu_X8 0 rfl rfl 6 (by decide) wf_X8_19 rfl rfl dX8_drops_15 ?_
        refine g_iload_n C 1 rfl dX8_drops_18 ?_
        refine g_zald C 1 rfl i rfl (by omega) (by decide) (bI (F i)) rfl dX8_drops_19 ?_
        refine g_if_eqB C (F i) 35 rfl dX8_drops_20 rfl (fun c20 => ?_) (fun c20 => ?_)
        · skip
          refine g_iconst C (nI 0) ic_0 dX8_drops_35 ?_
          refine g_st [.int (bI (dW F i)), .int (nI i), .ref j4] (by first | (rw [show dW F i = (F i && wk F i) from rfl, c20, c28]; rfl) | (rw [show dW F i = (F i && wk F i) from rfl, c20]; rfl)) ?_
          refine g_zast C 2 rfl i rfl (by omega) (by decide) (dW F i) rfl dX8_drops_36 (zB (dN F U (i + 1))) (dN_up _ _ _) [(x0, .inr (6, [.int (nI th), .ref i1, .ref i2, .int (nI sd), .ref i3, .int (nI ln), .ref j1, .ref j2, .ref j3, .ref j4, .ref j5, .ref j6, .int (nI fm), .int (nI rd), .int (nI mt), .int (nI dr), .ref j7, .ref j8, .int (nI tt), .int (bI (wl)), .ref j9, .int (nI lm), .long (hs)])), (j1, .inl (ty 2, 256, .inl (zB F))), (j4, .inl (ty 2, 256, .inl (zB (dN F U (i + 1)))))] rfl ?_
          refine g_iinc C (nI (i + 1)) [(1, .int (nI (i + 1))), (0, .ref x0)] 1 dX8_drops_37 rfl (ii_1 _) (by decide) rfl ?_
          refine g_goto C 2 dX8_drops_40 rfl ?_
          refine g_lo [1, 0] [(0, .ref x0), (1, .int (nI (i + 1)))] rfl ?_
          exact ih2 (i + 1) (by omega) (by omega)
        · skip
          refine g_aload_n C 0 rfl dX8_drops_23 ?_
          refine g_iload_n C 1 rfl dX8_drops_24 ?_
          refine g_callV C (nA := 1) (ci := 6) (q0 := 0) (As := [.int (nI i)]) (wr := [(j4, .inl (ty 2, 256, .inl (zB (dN F U i))))]) (k_X8_hasStronger l D ty x0 th i1 i2 sd i3 ln j1 j2 j3 j4 j5 j6 fm rd mt dr j7 j8 tt wl j9 lm hs F i (by omega) (by omega) (hF _ c20).1) wm_X8_80 wn_X8_hasStronger wv_X8_hasStronger wi_X8 wc_X8_hasStronger rfl (by decide +kernel) ⟨(Nat.le_of_ble_eq_true rfl), (Nat.le_of_ble_eq_true rfl)⟩ ⟨rfl, rfl⟩ dX8_drops_25 ⟨Nat.zero_le _, Nat.zero_le _⟩ rfl rfl rfl [0, 1] [2] rfl rfl rfl rfl (by decide) (Nat.le_of_ble_eq_true rfl) rfl (fun r W1 hp => ?_)
          obtain ⟨rfl, rfl⟩ := hp
          refine g_fix [.int (bI (wk F i)), .int (nI i), .ref j4] [(x0, .inr (6, [.int (nI th), .ref i1, .ref i2, .int (nI sd), .ref i3, .int (nI ln), .ref j1, .ref j2, .ref j3, .ref j4, .ref j5, .ref j6, .int (nI fm), .int (nI rd), .int (nI mt), .int (nI dr), .ref j7, .ref j8, .int (nI tt), .int (bI (wl)), .ref j9, .int (nI lm), .long (hs)])), (j1, .inl (ty 2, 256, .inl (zB F))), (j4, .inl (ty 2, 256, .inl (zB (dN F U i))))] [1, 2, 0] rfl rfl rfl ?_
          refine g_if_eqB C (wk F i) 35 rfl dX8_drops_28 rfl (fun c28 => ?_) (fun c28 => ?_)
          · skip
            refine g_iconst C (nI 0) ic_0 dX8_drops_35 ?_
            refine g_st [.int (bI (dW F i)), .int (nI i), .ref j4] (by first | (rw [show dW F i = (F i && wk F i) from rfl, c20, c28]; rfl) | (rw [show dW F i = (F i && wk F i) from rfl, c20]; rfl)) ?_
            refine g_zast C 2 rfl i rfl (by omega) (by decide) (dW F i) rfl dX8_drops_36 (zB (dN F U (i + 1))) (dN_up _ _ _) [(x0, .inr (6, [.int (nI th), .ref i1, .ref i2, .int (nI sd), .ref i3, .int (nI ln), .ref j1, .ref j2, .ref j3, .ref j4, .ref j5, .ref j6, .int (nI fm), .int (nI rd), .int (nI mt), .int (nI dr), .ref j7, .ref j8, .int (nI tt), .int (bI (wl)), .ref j9, .int (nI lm), .long (hs)])), (j1, .inl (ty 2, 256, .inl (zB F))), (j4, .inl (ty 2, 256, .inl (zB (dN F U (i + 1)))))] rfl ?_
            refine g_iinc C (nI (i + 1)) [(1, .int (nI (i + 1))), (0, .ref x0)] 1 dX8_drops_37 rfl (ii_1 _) (by decide) rfl ?_
            refine g_goto C 2 dX8_drops_40 rfl ?_
            refine g_lo [1, 0] [(0, .ref x0), (1, .int (nI (i + 1)))] rfl ?_
            exact ih2 (i + 1) (by omega) (by omega)
          · skip
            refine g_iconst C (nI 1) ic_1 dX8_drops_31 ?_
            refine g_goto C 36 dX8_drops_32 rfl ?_
            refine g_st [.int (bI (dW F i)), .int (nI i), .ref j4] (by first | (rw [show dW F i = (F i && wk F i) from rfl, c20, c28]; rfl) | (rw [show dW F i = (F i && wk F i) from rfl, c20]; rfl)) ?_
            refine g_zast C 2 rfl i rfl (by omega) (by decide) (dW F i) rfl dX8_drops_36 (zB (dN F U (i + 1))) (dN_up _ _ _) [(x0, .inr (6, [.int (nI th), .ref i1, .ref i2, .int (nI sd), .ref i3, .int (nI ln), .ref j1, .ref j2, .ref j3, .ref j4, .ref j5, .ref j6, .int (nI fm), .int (nI rd), .int (nI mt), .int (nI dr), .ref j7, .ref j8, .int (nI tt), .int (bI (wl)), .ref j9, .int (nI lm), .long (hs)])), (j1, .inl (ty 2, 256, .inl (zB F))), (j4, .inl (ty 2, 256, .inl (zB (dN F U (i + 1)))))] rfl ?_
            refine g_iinc C (nI (i + 1)) [(1, .int (nI (i + 1))), (0, .ref x0)] 1 dX8_drops_37 rfl (ii_1 _) (by decide) rfl ?_
            refine g_goto C 2 dX8_drops_40 rfl ?_
            refine g_lo [1, 0] [(0, .ref x0), (1, .int (nI (i + 1)))] rfl ?_
            exact ih2 (i + 1) (by omega) (by omega)
  exact L2 (256 - 0 + 1) 0 (by omega) (Nat.lt_succ_self _)
