/-! the reference's state: saved states, changes -/
def okR (V : Nat → LT) (m : Nat) (R : Nat → Int32) : Prop := ∀ k, k < m → ∀ j, j < 275 → R (275 * k + j) = eA (sM (V k).1 (V k).2.1 (V k).2.2 j)
def svR (R : Nat → Int32) (m : Nat) (S : Nat → Nat) (i : Nat) : Nat → Int32 := fun j => if 275 * m ≤ j ∧ j < 275 * m + i then eA (S (j - 275 * m)) else R j
theorem svR_0 (R : Nat → Int32) (m : Nat) (S : Nat → Nat) : svR R m S 0 = R := by
  funext j
  unfold svR
  rw [if_neg (by omega)]
theorem svR_up (R : Nat → Int32) (m : Nat) (S : Nat → Nat) (i : Nat) : upd (svR R m S i) (275 * m + i) (eA (S i)) = svR R m S (i + 1) := by
  funext j
  unfold upd svR
  by_cases h : j = 275 * m + i
  · rw [if_pos h, if_pos (by omega), h, show 275 * m + i - 275 * m = i by omega]
  · rw [if_neg h]
    by_cases h2 : 275 * m ≤ j ∧ j < 275 * m + i
    · rw [if_pos h2, if_pos (by omega)]
    · rw [if_neg h2, if_neg (by omega)]
theorem svV_lt {V : Nat → LT} {sc k : Nat} {X : LT} (h : sc < 6) (hk : k < sc) : svV V sc X k = V k := by unfold svV; rw [if_pos h, if_neg (by omega)]
theorem svV_6 {V : Nat → LT} {sc k : Nat} {X : LT} (h : sc = 6) (hk : k < 5) : svV V sc X k = V (k + 1) := by unfold svV; rw [if_neg (by omega), if_pos hk]
theorem svV_X {V : Nat → LT} {sc m : Nat} {X : LT} (h : (sc < 6 ∧ m = sc) ∨ (sc = 6 ∧ m = 5)) : svV V sc X m = X := by
  unfold svV
  rcases h with ⟨h1, h2⟩ | ⟨h1, h2⟩
  · rw [if_pos h1, if_pos h2]
  · rw [if_neg (by omega), if_neg (by omega), if_pos h2]
theorem svC_m {sc m : Nat} (h : (sc < 6 ∧ m = sc) ∨ (sc = 6 ∧ m = 5)) : svC sc = m + 1 := by
  unfold svC
  rcases h with ⟨h1, h2⟩ | ⟨h1, h2⟩
  · rw [if_pos h1, h2]
  · rw [if_neg (by omega), h2]
theorem okR_sv {V : Nat → LT} {sc m : Nat} {R : Nat → Int32} {T : Nat → Bool} {q : Nat → Nat} {nr : Nat} (h : (sc < 6 ∧ m = sc) ∨ (sc = 6 ∧ m = 5)) (hR : okR (svV V sc (T, q, nr)) m R) : okR (svV V sc (T, q, nr)) (svC sc) (svR R m (sM T q nr) 275) := by
  intro k hk j hj
  rw [svC_m h] at hk
  by_cases e : k = m
  · subst e
    rw [svV_X h]
    unfold svR
    rw [if_pos (by omega), show 275 * k + j - 275 * k = j by omega]
  · have := hR k (by omega) j hj
    unfold svR
    rw [if_neg (by omega)]
    exact this
theorem sM_put (T : Nat → Bool) (q : Nat → Nat) (nr : Nat) {a : Nat} (ha : a < 256) : upd (eR (sM T q nr)) a (nI 1) = eR (sM (zPut T a) q nr) := by
  funext j
  unfold upd eR sM zPut
  by_cases h : j = a
  · rw [if_pos h, if_pos (by omega), if_pos h, if_pos rfl]; rfl
  · rw [if_neg h, if_neg h]
theorem sM_take (T : Nat → Bool) (q : Nat → Nat) (nr : Nat) {a : Nat} (ha : a < 256) : upd (eR (sM T q nr)) a (nI 0) = eR (sM (zTake T a) q nr) := by
  funext j
  unfold upd eR sM zTake
  by_cases h : j = a
  · rw [if_pos h, if_pos (by omega), if_pos h]; rfl
  · rw [if_neg h, if_neg h]
theorem sM_rule (T : Nat → Bool) (q : Nat → Nat) {nr h a b : Nat} (hn : nr < 6) (hh : h < 256) (ha : a < 256) : upd (upd (upd (upd (eR (sM T q nr)) (257 + 3 * nr) (nI h)) (257 + 3 * nr + 1) (nI a)) (257 + 3 * nr + 2) (eA b)) 256 (nI (nr + 1)) = eR (sM T (aR q nr h a b) (nr + 1)) := by
  funext j
  unfold upd eR sM aR
  by_cases h1 : j = 256
  · rw [if_pos h1, if_neg (by omega), if_pos h1, eA_n (by omega)]
  · rw [if_neg h1]
    by_cases h0 : j < 256
    · rw [if_neg (by omega), if_neg (by omega), if_neg (by omega), if_pos h0, if_pos h0]
    · rw [if_neg h0, if_neg h0, if_neg h1, if_neg h1]
      by_cases e2 : j = 257 + 3 * nr + 2
      · rw [if_pos e2, if_neg (by omega), if_neg (by omega), if_pos (by omega)]
      · rw [if_neg e2]
        by_cases e1 : j = 257 + 3 * nr + 1
        · rw [if_pos e1, if_neg (by omega), if_pos (by omega), eA_n (by omega)]
        · rw [if_neg e1]
          by_cases e0 : j = 257 + 3 * nr
          · rw [if_pos e0, if_pos (by omega), eA_n (by omega)]
          · rw [if_neg e0, if_neg (by omega), if_neg (by omega), if_neg (by omega)]
theorem sM_256 (T : Nat → Bool) (q : Nat → Nat) {nr : Nat} {h' a' b' : Int32} (hn : nr ≤ 6) : upd (upd (upd (eR (sM T q nr)) (257 + 3 * nr) h') (257 + 3 * nr + 1) a') (257 + 3 * nr + 2) b' 256 = nI nr := by
  unfold upd
  rw [if_neg (by omega), if_neg (by omega), if_neg (by omega)]
  exact sM_n hn
theorem inI_b : ∀ b, b < 257 → inI (eA b) (-1) (nI 255) = true := by decide +kernel
theorem inI_A (z : Int32) : inI z (nI 0) (nI 255) = isA z := by
  unfold inI isA
  have e0 : (nI 0).toInt = 0 := by decide +kernel
  have e5 : (nI 255).toInt = 255 := by decide +kernel
  have e6 : (nI 256).toInt = 256 := by decide +kernel
  have z0 : (0 : Int32).toInt = 0 := by decide +kernel
  have c1 : z < nI 0 ↔ z.toInt < 0 := by rw [Int32.lt_iff_toInt_lt, e0]
  have c2 : nI 255 < z ↔ 255 < z.toInt := by rw [Int32.lt_iff_toInt_lt, e5]
  have c3 : nI 256 ≤ z ↔ 256 ≤ z.toInt := by rw [Int32.le_iff_toInt_le, e6]
  have c4 : z < 0 ↔ z.toInt < 0 := by rw [Int32.lt_iff_toInt_lt, z0]
  by_cases h1 : z < nI 0
  · rw [if_pos h1, decide_eq_false (fun q => q.1 (c4.mpr (c1.mp h1)))]
  · rw [if_neg h1]
    by_cases h2 : nI 255 < z
    · rw [if_pos h2, decide_eq_false (fun q => q.2 (c3.mpr (by have := c2.mp h2; omega)))]
    · rw [if_neg h2, decide_eq_true ⟨fun q => h1 (c1.mpr (c4.mp q)), fun q => h2 (c2.mpr (by have := c3.mp q; omega))⟩]
theorem inI_m {z : Int32} (h : ¬ z = -1) : inI z (-1) (nI 255) = isA z := by
  rw [← inI_A]
  unfold inI
  have e0 : (nI 0).toInt = 0 := by decide +kernel
  have em : (-1 : Int32).toInt = -1 := by decide +kernel
  have c1 : z < nI 0 ↔ z.toInt < 0 := by rw [Int32.lt_iff_toInt_lt, e0]
  have c2 : z < -1 ↔ z.toInt < -1 := by rw [Int32.lt_iff_toInt_lt, em]
  have c3 : ¬ z.toInt = -1 := fun q => h (Int32.toInt_inj.mp (q.trans em.symm))
  by_cases h1 : z < nI 0
  · rw [if_pos h1, if_pos (c2.mpr (by have := c1.mp h1; omega))]
  · rw [if_neg h1, if_neg (fun q => h1 (c1.mpr (by have := c2.mp q; omega)))]
theorem nI_s1 : ∀ n, n < 7 → (nI n - nI 1).toInt = (n : Int) - 1 := by decide +kernel
theorem inI_R (z : Int32) {nr : Nat} (h : nr ≤ 6) : inI z (nI 0) (nI nr - nI 1) = hR z nr := by
  unfold inI hR
  have e0 : (nI 0).toInt = 0 := by decide +kernel
  have z0 : (0 : Int32).toInt = 0 := by decide +kernel
  have en := nI_toInt (show nr < 2 ^ 31 by omega)
  have es := nI_s1 nr (by omega)
  have c1 : z < nI 0 ↔ z.toInt < 0 := by rw [Int32.lt_iff_toInt_lt, e0]
  have c2 : nI nr - nI 1 < z ↔ (nr : Int) - 1 < z.toInt := by rw [Int32.lt_iff_toInt_lt, es]
  have c3 : nI nr ≤ z ↔ (nr : Int) ≤ z.toInt := by rw [Int32.le_iff_toInt_le, en]
  have c4 : z < 0 ↔ z.toInt < 0 := by rw [Int32.lt_iff_toInt_lt, z0]
  by_cases h1 : z < nI 0
  · rw [if_pos h1, if_pos (c4.mpr (c1.mp h1))]
  · rw [if_neg h1, if_neg (fun q => h1 (c1.mpr (c4.mp q)))]
    by_cases h2 : nI nr - nI 1 < z
    · rw [if_pos h2, if_pos (c3.mpr (by have := c2.mp h2; omega))]
    · rw [if_neg h2, if_neg (fun q => h2 (c2.mpr (by have := c3.mp q; omega)))]
theorem sM_dR (T : Nat → Bool) (q : Nat → Nat) {nr r i : Nat} (h : 3 * r ≤ i) (hi : i < 15) : upd (eR (sM T (dRi q r i) nr)) (257 + i) (eA (q (i + 3))) = eR (sM T (dRi q r (i + 1)) nr) := by
  funext j
  unfold upd eR sM dRi
  by_cases e : j = 257 + i
  · rw [if_pos e, if_neg (by omega), if_neg (by omega), if_pos (by omega), show j - 257 + 3 = i + 3 by omega]
  · rw [if_neg e]
    by_cases h0 : j < 256
    · rw [if_pos h0, if_pos h0]
    · rw [if_neg h0, if_neg h0]
      by_cases h1 : j = 256
      · rw [if_pos h1, if_pos h1]
      · rw [if_neg h1, if_neg h1]
        by_cases h2 : 3 * r ≤ j - 257 ∧ j - 257 < i
        · rw [if_pos h2, if_pos (by omega)]
        · rw [if_neg h2, if_neg (by omega)]
def zQ (q : Nat → Nat) (n i : Nat) : Nat → Nat := fun j => if 3 * n ≤ j ∧ j < 3 * n + i then 0 else q j
theorem zQ_0 (q : Nat → Nat) (n : Nat) : zQ q n 0 = q := by
  funext j
  unfold zQ
  rw [if_neg (by omega)]
theorem sM_zQ (T : Nat → Bool) (q : Nat → Nat) (nr n i : Nat) : upd (eR (sM T (zQ q n i) nr)) (257 + 3 * n + i) (nI 0) = eR (sM T (zQ q n (i + 1)) nr) := by
  funext j
  unfold upd eR sM zQ
  by_cases e : j = 257 + 3 * n + i
  · rw [if_pos e, if_neg (by omega), if_neg (by omega), if_pos (by omega)]; rfl
  · rw [if_neg e]
    by_cases h0 : j < 256
    · rw [if_pos h0, if_pos h0]
    · rw [if_neg h0, if_neg h0]
      by_cases h1 : j = 256
      · rw [if_pos h1, if_pos h1]
      · rw [if_neg h1, if_neg h1]
        by_cases h2 : 3 * n ≤ j - 257 ∧ j - 257 < 3 * n + i
        · rw [if_pos h2, if_pos (by omega)]
        · rw [if_neg h2, if_neg (by omega)]
theorem sM_nr (T : Nat → Bool) (q : Nat → Nat) (nr : Nat) {m : Nat} (hm : m ≤ 6) : upd (eR (sM T q nr)) 256 (nI m) = eR (sM T q m) := by
  funext j
  unfold upd eR sM
  by_cases e : j = 256
  · rw [if_pos e, if_neg (by omega), if_pos e, eA_n (by omega)]
  · rw [if_neg e, if_neg e, if_neg e]
def tmx (F T : Nat → Bool) (i : Nat) : Nat → Bool := fun j => if j < i then F j else T j
theorem sM_mx (F T : Nat → Bool) (q : Nat → Nat) (nr : Nat) {i : Nat} (hi : i < 256) : upd (eR (sM (tmx F T i) q nr)) i (nI (if F i = true then 1 else 0)) = eR (sM (tmx F T (i + 1)) q nr) := by
  funext j
  unfold upd eR sM tmx
  by_cases e : j = i
  · subst e
    have e1 : j < j + 1 := Nat.lt_succ_self j
    simp only [if_true, hi, e1]
    cases F j <;> rfl
  · by_cases h0 : j < 256
    · by_cases h1 : j < i
      · have e1 : j < i + 1 := by omega
        simp only [e, h0, h1, e1, if_true, if_false]
      · have e1 : ¬ j < i + 1 := by omega
        simp only [e, h0, h1, e1, if_true, if_false]
    · simp only [e, h0, if_false]
theorem sM_m0 (F T : Nat → Bool) (q : Nat → Nat) (nr : Nat) : eR (sM (tmx F T 0) q nr) = eR (sM T q nr) := by
  congr 1
theorem sM_m9 (F T : Nat → Bool) (q : Nat → Nat) (nr : Nat) : eR (sM (tmx F T 256) q nr) = eR (sM F q nr) := by
  funext j
  unfold eR sM tmx
  by_cases h0 : j < 256
  · rw [if_pos h0, if_pos h0, if_pos h0]
  · rw [if_neg h0, if_neg h0]

def r_X8_saves : Room := { frames := 0, cells := 0, slots := 0, locals := 0 }
set_option maxRecDepth 100000 in
set_option maxHeartbeats 4000000 in
theorem k_X8_saves (l : Launch) (D : va_G) (ty : Nat → ClassId) (x0 : Nat) (th : Nat) (i1 : Nat) (i2 : Nat) (sd : Nat) (i3 : Nat) (ln : Nat) (j1 : Nat) (j2 : Nat) (j3 : Nat) (j4 : Nat) (j5 : Nat) (j6 : Nat) (fm : Nat) (rd : Nat) (mt : Nat) (dr : Nat) (j7 : Nat) (j8 : Nat) (tt : Nat) (wl : Bool) (j9 : Nat) (lm : Nat) (hs : Int64) (T : Nat → Bool) (q : Nat → Nat) (nr : Nat) (R : Nat → Int32) (V : Nat → LT) (hsd : sd ≤ 6) (hR : okR V sd R) : gM l D ty yX8_saves cX8_saves 2 none r_X8_saves 0 0 [.ref x0] [(x0, .inr (6, [.int (nI th), .ref i1, .ref i2, .int (nI sd), .ref i3, .int (nI ln), .ref j1, .ref j2, .ref j3, .ref j4, .ref j5, .ref j6, .int (nI fm), .int (nI rd), .int (nI mt), .int (nI dr), .ref j7, .ref j8, .int (nI tt), .int (bI (wl)), .ref j9, .int (nI lm), .long (hs)])), (i1, .inl (ty 0, 275, .inl (eR (sM T q nr)))), (i2, .inl (ty 0, 1650, .inl (R)))] (fun (zr : Option Value) (zW : va_W) => ∃ (R9 : Nat → Int32), okR (svV V sd (T, q, nr)) (svC sd) R9 ∧ zr = none ∧ zW = [(x0, .inr (6, [.int (nI th), .ref i1, .ref i2, .int (nI (svC sd)), .ref i3, .int (nI ln), .ref j1, .ref j2, .ref j3, .ref j4, .ref j5, .ref j6, .int (nI fm), .int (nI rd), .int (nI mt), .int (nI dr), .ref j7, .ref j8, .int (nI tt), .int (bI (wl)), .ref j9, .int (nI lm), .long (hs)])), (i1, .inl (ty 0, 275, .inl (eR (sM T q nr)))), (i2, .inl (ty 0, 1650, .inl (R9)))]) := by
  refine gM_of RX8 rfl (by decide +kernel) (Nat.le_of_ble_eq_true rfl) ?_
  intro pg en s0 mi ag bl mth cd AA HH QQ C E hnm
  show gW pg l en r_X8_saves s0 mi ag bl mth cd 2 D AA HH QQ 0 [(0, .ref x0)] [] [(x0, .inr (6, [.int (nI th), .ref i1, .ref i2, .int (nI sd), .ref i3, .int (nI ln), .ref j1, .ref j2, .ref j3, .ref j4, .ref j5, .ref j6, .int (nI fm), .int (nI rd), .int (nI mt), .int (nI dr), .ref j7, .ref j8, .int (nI tt), .int (bI (wl)), .ref j9, .int (nI lm), .long (hs)])), (i1, .inl (ty 0, 275, .inl (eR (sM T q nr)))), (i2, .inl (ty 0, 1650, .inl (R)))] 0 0
  refine g_aload_n C 0 rfl dX8_saves_0 ?_
  refine g_getf C wu_X8 0 rfl rfl 3 (by decide) wf_X8_51 rfl rfl dX8_saves_1 ?_
  refine g_bipush C (nI 6) bp_6 dX8_saves_4 ?_
  refine g_icmp_neN C sd 6 50 rfl rfl (by omega) (by omega) dX8_saves_6 rfl (fun c6 => ?_) (fun c6 => ?_)
  · skip
    refine g_iconst C (nI 0) ic_0 dX8_saves_50 ?_
    refine g_istore_n C [(1, .int (nI 0)), (0, .ref x0)] dX8_saves_51 rfl (by decide) rfl ?_
    refine g_lo [1, 0] [(0, .ref x0), (1, .int (nI 0))] rfl ?_
    refine g_ws [(x0, .inr (6, [.int (nI th), .ref i1, .ref i2, .int (nI sd), .ref i3, .int (nI ln), .ref j1, .ref j2, .ref j3, .ref j4, .ref j5, .ref j6, .int (nI fm), .int (nI rd), .int (nI mt), .int (nI dr), .ref j7, .ref j8, .int (nI tt), .int (bI (wl)), .ref j9, .int (nI lm), .long (hs)])), (i1, .inl (ty 0, 275, .inl (eR (sM T q nr)))), (i2, .inl (ty 0, 1650, .inl (svR (R) (sd) (sM T q nr) 0)))] (by rw [svR_0]) ?_
    have L52 : ∀ (fu52 : Nat) (i : Nat) (m : Nat) (R2 : Nat → Int32) (hi : i ≤ 275) (hm : ((sd < 6 ∧ m = sd) ∨ (sd = 6 ∧ m = 5))) (hok : okR (svV V sd (T, q, nr)) m R2), (275 - i) < fu52 → gW pg l en r_X8_saves s0 mi ag bl mth cd 2 D AA HH QQ 52 [(0, .ref x0), (1, .int (nI i))] [] [(x0, .inr (6, [.int (nI th), .ref i1, .ref i2, .int (nI m), .ref i3, .int (nI ln), .ref j1, .ref j2, .ref j3, .ref j4, .ref j5, .ref j6, .int (nI fm), .int (nI rd), .int (nI mt), .int (nI dr), .ref j7, .ref j8, .int (nI tt), .int (bI (wl)), .ref j9, .int (nI lm), .long (hs)])), (i1, .inl (ty 0, 275, .inl (eR (sM T q nr)))), (i2, .inl (ty 0, 1650, .inl (svR R2 m (sM T q nr) i)))] 0 0 := by
      intro fu52
      induction fu52 with
      | zero => intro i m R2 hi hm hok hfu; exact absurd hfu (Nat.not_lt_zero _)
      | succ fu52 ih52 =>
        intro i m R2 hi hm hok hfu52
        refine g_iload_n C 1 rfl dX8_saves_52 ?_
        refine g_sipush C (nI 275) sp_275 dX8_saves_53 ?_
        refine g_icmp_geN C i 275 86 rfl rfl (by omega) (by omega) dX8_saves_56 rfl (fun c56 => ?_) (fun c56 => ?_)
        · skip
          refine g_ws [(x0, .inr (6, [.int (nI th), .ref i1, .ref i2, .int (nI m), .ref i3, .int (nI ln), .ref j1, .ref j2, .ref j3, .ref j4, .ref j5, .ref j6, .int (nI fm), .int (nI rd), .int (nI mt), .int (nI dr), .ref j7, .ref j8, .int (nI tt), .int (bI (wl)), .ref j9, .int (nI lm), .long (hs)])), (i1, .inl (ty 0, 275, .inl (eR (sM T q nr)))), (i2, .inl (ty 0, 1650, .inl (svR R2 m (sM T q nr) 275)))] (by rw [show i = 275 by omega]) ?_
          refine g_aload_n C 0 rfl dX8_saves_86 ?_
          refine g_dup C rfl dX8_saves_87 ?_
          refine g_getf C wu_X8 0 rfl rfl 3 (by decide) wf_X8_51 rfl rfl dX8_saves_88 ?_
          refine g_iconst C (nI 1) ic_1 dX8_saves_91 ?_
          refine g_iadd C (nI (m + 1)) dX8_saves_92 (nI_add _ _) ?_
          refine g_putf C wu_X8 tyX8 tyX8_ok nmX8 0 rfl rfl 3 (by decide) wf_X8_51 rfl rfl rfl rfl (Nat.le_of_ble_eq_true rfl) dX8_saves_93 [(x0, .inr (6, [.int (nI th), .ref i1, .ref i2, .int (nI (m + 1)), .ref i3, .int (nI ln), .ref j1, .ref j2, .ref j3, .ref j4, .ref j5, .ref j6, .int (nI fm), .int (nI rd), .int (nI mt), .int (nI dr), .ref j7, .ref j8, .int (nI tt), .int (bI (wl)), .ref j9, .int (nI lm), .long (hs)])), (i1, .inl (ty 0, 275, .inl (eR (sM T q nr)))), (i2, .inl (ty 0, 1650, .inl (svR R2 m (sM T q nr) 275)))] rfl ?_
          refine g_ws [(x0, .inr (6, [.int (nI th), .ref i1, .ref i2, .int (nI (svC sd)), .ref i3, .int (nI ln), .ref j1, .ref j2, .ref j3, .ref j4, .ref j5, .ref j6, .int (nI fm), .int (nI rd), .int (nI mt), .int (nI dr), .ref j7, .ref j8, .int (nI tt), .int (bI (wl)), .ref j9, .int (nI lm), .long (hs)])), (i1, .inl (ty 0, 275, .inl (eR (sM T q nr)))), (i2, .inl (ty 0, 1650, .inl (svR R2 m (sM T q nr) 275)))] (by rw [svC_m hm]) ?_
          exact g_vret E dX8_saves_96 (by decide) (by decide) ⟨svR R2 m (sM T q nr) 275, (okR_sv hm hok), rfl, rfl⟩
        · skip
          refine g_aload_n C 0 rfl dX8_saves_59 ?_
          refine g_getf C wu_X8 0 rfl rfl 2 (by decide) wf_X8_13 rfl rfl dX8_saves_60 ?_
          refine g_sipush C (nI 275) sp_275 dX8_saves_63 ?_
          refine g_aload_n C 0 rfl dX8_saves_66 ?_
          refine g_getf C wu_X8 0 rfl rfl 3 (by decide) wf_X8_51 rfl rfl dX8_saves_67 ?_
          refine g_imul C (nI (275 * m)) dX8_saves_70 (pk_mul _ _) ?_
          refine g_iload_n C 1 rfl dX8_saves_71 ?_
          refine g_iadd C (nI ((275 * m) + i)) dX8_saves_72 (nI_add _ _) ?_
          refine g_aload_n C 0 rfl dX8_saves_73 ?_
          refine g_getf C wu_X8 0 rfl rfl 1 (by decide) wf_X8_7 rfl rfl dX8_saves_74 ?_
          refine g_iload_n C 1 rfl dX8_saves_77 ?_
          refine g_iald C 1 rfl i rfl (by omega) (by decide) (eA ((sM T q nr) i)) rfl dX8_saves_78 ?_
          refine g_iast C 2 rfl ((275 * m) + i) rfl (by omega) (by decide) dX8_saves_79 (svR R2 m (sM T q nr) (i + 1)) (svR_up _ _ _ _) [(x0, .inr (6, [.int (nI th), .ref i1, .ref i2, .int (nI m), .ref i3, .int (nI ln), .ref j1, .ref j2, .ref j3, .ref j4, .ref j5, .ref j6, .int (nI fm), .int (nI rd), .int (nI mt), .int (nI dr), .ref j7, .ref j8, .int (nI tt), .int (bI (wl)), .ref j9, .int (nI lm), .long (hs)])), (i1, .inl (ty 0, 275, .inl (eR (sM T q nr)))), (i2, .inl (ty 0, 1650, .inl (svR R2 m (sM T q nr) (i + 1))))] rfl ?_
          refine g_iinc C (nI (i + 1)) [(1, .int (nI (i + 1))), (0, .ref x0)] 1 dX8_saves_80 rfl (ii_1 _) (by decide) rfl ?_
          refine g_goto C 52 dX8_saves_83 rfl ?_
          refine g_lo [1, 0] [(0, .ref x0), (1, .int (nI (i + 1)))] rfl ?_
          exact ih52 (i + 1) m R2 (by omega) hm hok (by omega)
    exact L52 (275 - 0 + 1) 0 sd R (by omega) (by omega) (by first | exact (fun k hk j hj => by rw [svV_lt (by omega) (by omega)]; exact hR k hk j hj) | exact (fun k hk j hj => by rw [svV_6 (by omega) (by omega), zfl_in _ _ (by omega), show 275 * k + j + 275 = 275 * (k + 1) + j by omega]; exact hR (k + 1) (by omega) j hj)) (Nat.lt_succ_self _)
  · skip
    refine g_iconst C (nI 0) ic_0 dX8_saves_9 ?_
    refine g_istore_n C [(1, .int (nI 0)), (0, .ref x0)] dX8_saves_10 rfl (by decide) rfl ?_
    refine g_lo [1, 0] [(0, .ref x0), (1, .int (nI 0))] rfl ?_
    refine g_ws [(x0, .inr (6, [.int (nI th), .ref i1, .ref i2, .int (nI sd), .ref i3, .int (nI ln), .ref j1, .ref j2, .ref j3, .ref j4, .ref j5, .ref j6, .int (nI fm), .int (nI rd), .int (nI mt), .int (nI dr), .ref j7, .ref j8, .int (nI tt), .int (bI (wl)), .ref j9, .int (nI lm), .long (hs)])), (i1, .inl (ty 0, 275, .inl (eR (sM T q nr)))), (i2, .inl (ty 0, 1650, .inl (zfl (fun j => R (j + 275)) R 0)))] (by rw [zfl_0]) ?_
    have L11 : ∀ (fu11 : Nat) (i : Nat) (hi : i ≤ 1375), (1375 - i) < fu11 → gW pg l en r_X8_saves s0 mi ag bl mth cd 2 D AA HH QQ 11 [(0, .ref x0), (1, .int (nI i))] [] [(x0, .inr (6, [.int (nI th), .ref i1, .ref i2, .int (nI sd), .ref i3, .int (nI ln), .ref j1, .ref j2, .ref j3, .ref j4, .ref j5, .ref j6, .int (nI fm), .int (nI rd), .int (nI mt), .int (nI dr), .ref j7, .ref j8, .int (nI tt), .int (bI (wl)), .ref j9, .int (nI lm), .long (hs)])), (i1, .inl (ty 0, 275, .inl (eR (sM T q nr)))), (i2, .inl (ty 0, 1650, .inl (zfl (fun j => R (j + 275)) R i)))] 0 0 := by
      intro fu11
      induction fu11 with
      | zero => intro i hi hfu; exact absurd hfu (Nat.not_lt_zero _)
      | succ fu11 ih11 =>
        intro i hi hfu11
        refine g_iload_n C 1 rfl dX8_saves_11 ?_
        refine g_sipush C (nI 1375) sp_1375 dX8_saves_12 ?_
        refine g_icmp_geN C i 1375 40 rfl rfl (by omega) (by omega) dX8_saves_15 rfl (fun c15 => ?_) (fun c15 => ?_)
        · skip
          refine g_ws [(x0, .inr (6, [.int (nI th), .ref i1, .ref i2, .int (nI sd), .ref i3, .int (nI ln), .ref j1, .ref j2, .ref j3, .ref j4, .ref j5, .ref j6, .int (nI fm), .int (nI rd), .int (nI mt), .int (nI dr), .ref j7, .ref j8, .int (nI tt), .int (bI (wl)), .ref j9, .int (nI lm), .long (hs)])), (i1, .inl (ty 0, 275, .inl (eR (sM T q nr)))), (i2, .inl (ty 0, 1650, .inl (zfl (fun j => R (j + 275)) R 1375)))] (by rw [show i = 1375 by omega]) ?_
          refine g_aload_n C 0 rfl dX8_saves_40 ?_
          refine g_dup C rfl dX8_saves_41 ?_
          refine g_getf C wu_X8 0 rfl rfl 3 (by decide) wf_X8_51 rfl rfl dX8_saves_42 ?_
          refine g_iconst C (nI 1) ic_1 dX8_saves_45 ?_
          refine g_isub C (nI (sd - 1)) dX8_saves_46 (pk_sub (by omega)) ?_
          refine g_putf C wu_X8 tyX8 tyX8_ok nmX8 0 rfl rfl 3 (by decide) wf_X8_51 rfl rfl rfl rfl (Nat.le_of_ble_eq_true rfl) dX8_saves_47 [(x0, .inr (6, [.int (nI th), .ref i1, .ref i2, .int (nI (sd - 1)), .ref i3, .int (nI ln), .ref j1, .ref j2, .ref j3, .ref j4, .ref j5, .ref j6, .int (nI fm), .int (nI rd), .int (nI mt), .int (nI dr), .ref j7, .ref j8, .int (nI tt), .int (bI (wl)), .ref j9, .int (nI lm), .long (hs)])), (i1, .inl (ty 0, 275, .inl (eR (sM T q nr)))), (i2, .inl (ty 0, 1650, .inl (zfl (fun j => R (j + 275)) R 1375)))] rfl ?_
          refine g_iconst C (nI 0) ic_0 dX8_saves_50 ?_
          refine g_istore_n C [(1, .int (nI 0)), (0, .ref x0)] dX8_saves_51 rfl (by decide) rfl ?_
          refine g_lo [1, 0] [(0, .ref x0), (1, .int (nI 0))] rfl ?_
          refine g_ws [(x0, .inr (6, [.int (nI th), .ref i1, .ref i2, .int (nI (sd - 1)), .ref i3, .int (nI ln), .ref j1, .ref j2, .ref j3, .ref j4, .ref j5, .ref j6, .int (nI fm), .int (nI rd), .int (nI mt), .int (nI dr), .ref j7, .ref j8, .int (nI tt), .int (bI (wl)), .ref j9, .int (nI lm), .long (hs)])), (i1, .inl (ty 0, 275, .inl (eR (sM T q nr)))), (i2, .inl (ty 0, 1650, .inl (svR (zfl (fun j => R (j + 275)) R 1375) (sd - 1) (sM T q nr) 0)))] (by rw [svR_0]) ?_
          have L52 : ∀ (fu52 : Nat) (i : Nat) (m : Nat) (R2 : Nat → Int32) (hi : i ≤ 275) (hm : ((sd < 6 ∧ m = sd) ∨ (sd = 6 ∧ m = 5))) (hok : okR (svV V sd (T, q, nr)) m R2), (275 - i) < fu52 → gW pg l en r_X8_saves s0 mi ag bl mth cd 2 D AA HH QQ 52 [(0, .ref x0), (1, .int (nI i))] [] [(x0, .inr (6, [.int (nI th), .ref i1, .ref i2, .int (nI m), .ref i3, .int (nI ln), .ref j1, .ref j2, .ref j3, .ref j4, .ref j5, .ref j6, .int (nI fm), .int (nI rd), .int (nI mt), .int (nI dr), .ref j7, .ref j8, .int (nI tt), .int (bI (wl)), .ref j9, .int (nI lm), .long (hs)])), (i1, .inl (ty 0, 275, .inl (eR (sM T q nr)))), (i2, .inl (ty 0, 1650, .inl (svR R2 m (sM T q nr) i)))] 0 0 := by
            intro fu52
            induction fu52 with
            | zero => intro i m R2 hi hm hok hfu; exact absurd hfu (Nat.not_lt_zero _)
            | succ fu52 ih52 =>
              intro i m R2 hi hm hok hfu52
              refine g_iload_n C 1 rfl dX8_saves_52 ?_
              refine g_sipush C (nI 275) sp_275 dX8_saves_53 ?_
              refine g_icmp_geN C i 275 86 rfl rfl (by omega) (by omega) dX8_saves_56 rfl (fun c56 => ?_) (fun c56 => ?_)
              · skip
                refine g_ws [(x0, .inr (6, [.int (nI th), .ref i1, .ref i2, .int (nI m), .ref i3, .int (nI ln), .ref j1, .ref j2, .ref j3, .ref j4, .ref j5, .ref j6, .int (nI fm), .int (nI rd), .int (nI mt), .int (nI dr), .ref j7, .ref j8, .int (nI tt), .int (bI (wl)), .ref j9, .int (nI lm), .long (hs)])), (i1, .inl (ty 0, 275, .inl (eR (sM T q nr)))), (i2, .inl (ty 0, 1650, .inl (svR R2 m (sM T q nr) 275)))] (by rw [show i = 275 by omega]) ?_
                refine g_aload_n C 0 rfl dX8_saves_86 ?_
                refine g_dup C rfl dX8_saves_87 ?_
                refine g_getf C wu_X8 0 rfl rfl 3 (by decide) wf_X8_51 rfl rfl dX8_saves_88 ?_
                refine g_iconst C (nI 1) ic_1 dX8_saves_91 ?_
                refine g_iadd C (nI (m + 1)) dX8_saves_92 (nI_add _ _) ?_
                refine g_putf C wu_X8 tyX8 tyX8_ok nmX8 0 rfl rfl 3 (by decide) wf_X8_51 rfl rfl rfl rfl (Nat.le_of_ble_eq_true rfl) dX8_saves_93 [(x0, .inr (6, [.int (nI th), .ref i1, .ref i2, .int (nI (m + 1)), .ref i3, .int (nI ln), .ref j1, .ref j2, .ref j3, .ref j4, .ref j5, .ref j6, .int (nI fm), .int (nI rd), .int (nI mt), .int (nI dr), .ref j7, .ref j8, .int (nI tt), .int (bI (wl)), .ref j9, .int (nI lm), .long (hs)])), (i1, .inl (ty 0, 275, .inl (eR (sM T q nr)))), (i2, .inl (ty 0, 1650, .inl (svR R2 m (sM T q nr) 275)))] rfl ?_
                refine g_ws [(x0, .inr (6, [.int (nI th), .ref i1, .ref i2, .int (nI (svC sd)), .ref i3, .int (nI ln), .ref j1, .ref j2, .ref j3, .ref j4, .ref j5, .ref j6, .int (nI fm), .int (nI rd), .int (nI mt), .int (nI dr), .ref j7, .ref j8, .int (nI tt), .int (bI (wl)), .ref j9, .int (nI lm), .long (hs)])), (i1, .inl (ty 0, 275, .inl (eR (sM T q nr)))), (i2, .inl (ty 0, 1650, .inl (svR R2 m (sM T q nr) 275)))] (by rw [svC_m hm]) ?_
                exact g_vret E dX8_saves_96 (by decide) (by decide) ⟨svR R2 m (sM T q nr) 275, (okR_sv hm hok), rfl, rfl⟩
              · skip
                refine g_aload_n C 0 rfl dX8_saves_59 ?_
                refine g_getf C wu_X8 0 rfl rfl 2 (by decide) wf_X8_13 rfl rfl dX8_saves_60 ?_
                refine g_sipush C (nI 275) sp_275 dX8_saves_63 ?_
                refine g_aload_n C 0 rfl dX8_saves_66 ?_
                refine g_getf C wu_X8 0 rfl rfl 3 (by decide) wf_X8_51 rfl rfl dX8_saves_67 ?_
                refine g_imul C (nI (275 * m)) dX8_saves_70 (pk_mul _ _) ?_
                refine g_iload_n C 1 rfl dX8_saves_71 ?_
                refine g_iadd C (nI ((275 * m) + i)) dX8_saves_72 (nI_add _ _) ?_
                refine g_aload_n C 0 rfl dX8_saves_73 ?_
                refine g_getf C wu_X8 0 rfl rfl 1 (by decide) wf_X8_7 rfl rfl dX8_saves_74 ?_
                refine g_iload_n C 1 rfl dX8_saves_77 ?_
                refine g_iald C 1 rfl i rfl (by omega) (by decide) (eA ((sM T q nr) i)) rfl dX8_saves_78 ?_
                refine g_iast C 2 rfl ((275 * m) + i) rfl (by omega) (by decide) dX8_saves_79 (svR R2 m (sM T q nr) (i + 1)) (svR_up _ _ _ _) [(x0, .inr (6, [.int (nI th), .ref i1, .ref i2, .int (nI m), .ref i3, .int (nI ln), .ref j1, .ref j2, .ref j3, .ref j4, .ref j5, .ref j6, .int (nI fm), .int (nI rd), .int (nI mt), .int (nI dr), .ref j7, .ref j8, .int (nI tt), .int (bI (wl)), .ref j9, .int (nI lm), .long (hs)])), (i1, .inl (ty 0, 275, .inl (eR (sM T q nr)))), (i2, .inl (ty 0, 1650, .inl (svR R2 m (sM T q nr) (i + 1))))] rfl ?_
                refine g_iinc C (nI (i + 1)) [(1, .int (nI (i + 1))), (0, .ref x0)] 1 dX8_saves_80 rfl (ii_1 _) (by decide) rfl ?_
                refine g_goto C 52 dX8_saves_83 rfl ?_
                refine g_lo [1, 0] [(0, .ref x0), (1, .int (nI (i + 1)))] rfl ?_
                exact ih52 (i + 1) m R2 (by omega) hm hok (by omega)
          exact L52 (275 - 0 + 1) 0 (sd - 1) (zfl (fun j => R (j + 275)) R 1375) (by omega) (by omega) (by first | exact (fun k hk j hj => by rw [svV_lt (by omega) (by omega)]; exact hR k hk j hj) | exact (fun k hk j hj => by rw [svV_6 (by omega) (by omega), zfl_in _ _ (by omega), show 275 * k + j + 275 = 275 * (k + 1) + j by omega]; exact hR (k + 1) (by omega) j hj)) (Nat.lt_succ_self _)
        · skip
          refine g_aload_n C 0 rfl dX8_saves_18 ?_
          refine g_getf C wu_X8 0 rfl rfl 2 (by decide) wf_X8_13 rfl rfl dX8_saves_19 ?_
          refine g_iload_n C 1 rfl dX8_saves_22 ?_
          refine g_aload_n C 0 rfl dX8_saves_23 ?_
          refine g_getf C wu_X8 0 rfl rfl 2 (by decide) wf_X8_13 rfl rfl dX8_saves_24 ?_
          refine g_iload_n C 1 rfl dX8_saves_27 ?_
          refine g_sipush C (nI 275) sp_275 dX8_saves_28 ?_
          refine g_iadd C (nI (i + 275)) dX8_saves_31 (nI_add _ _) ?_
          refine g_iald C 2 rfl (i + 275) rfl (by omega) (by decide) (R (i + 275)) (zfl_out _ _ (by omega)) dX8_saves_32 ?_
          refine g_iast C 2 rfl i rfl (by omega) (by decide) dX8_saves_33 (zfl (fun j => R (j + 275)) R (i + 1)) (zfl_I _ _ _ rfl) [(x0, .inr (6, [.int (nI th), .ref i1, .ref i2, .int (nI sd), .ref i3, .int (nI ln), .ref j1, .ref j2, .ref j3, .ref j4, .ref j5, .ref j6, .int (nI fm), .int (nI rd), .int (nI mt), .int (nI dr), .ref j7, .ref j8, .int (nI tt), .int (bI (wl)), .ref j9, .int (nI lm), .long (hs)])), (i1, .inl (ty 0, 275, .inl (eR (sM T q nr)))), (i2, .inl (ty 0, 1650, .inl (zfl (fun j => R (j + 275)) R (i + 1))))] rfl ?_
          refine g_iinc C (nI (i + 1)) [(1, .int (nI (i + 1))), (0, .ref x0)] 1 dX8_saves_34 rfl (ii_1 _) (by decide) rfl ?_
          refine g_goto C 11 dX8_saves_37 rfl ?_
          refine g_lo [1, 0] [(0, .ref x0), (1, .int (nI (i + 1)))] rfl ?_
          exact ih11 (i + 1) (by omega) (by omega)
    exact L11 (1375 - 0 + 1) 0 (by omega) (Nat.lt_succ_self _)
def r_X8_tell_ok : Room := { frames := 2, cells := 0, slots := 0, locals := 44 }
set_option maxRecDepth 100000 in
set_option maxHeartbeats 4000000 in
theorem k_X8_tell_ok (l : Launch) (D : va_G) (ty : Nat → ClassId) (x0 : Nat) (th : Nat) (i1 : Nat) (i2 : Nat) (sd : Nat) (i3 : Nat) (ln : Nat) (j1 : Nat) (j2 : Nat) (j3 : Nat) (j4 : Nat) (j5 : Nat) (j6 : Nat) (fm : Nat) (rd : Nat) (mt : Nat) (dr : Nat) (j7 : Nat) (j8 : Nat) (tt : Nat) (wl : Bool) (j9 : Nat) (lm : Nat) (hs : Int64) (T : Nat → Bool) (q : Nat → Nat) (nr : Nat) (R : Nat → Int32) (V : Nat → LT) (a : Nat) (hsd : sd ≤ 6) (hR : okR V sd R) (ha : a < 256) (hf : isF a = true) (h12 : zcnt T 256 ≤ 12) (hok : T a = true ∨ zcnt T 256 < 12) : gM l D ty yX8_tell cX8_tell 5 (some (FieldType.int : FieldType)) r_X8_tell_ok 0 0 [.ref x0, .int (nI (a / 64)), .int (nI (a / 8 % 8)), .int (nI (a % 8))] [(x0, .inr (6, [.int (nI th), .ref i1, .ref i2, .int (nI sd), .ref i3, .int (nI ln), .ref j1, .ref j2, .ref j3, .ref j4, .ref j5, .ref j6, .int (nI fm), .int (nI rd), .int (nI mt), .int (nI dr), .ref j7, .ref j8, .int (nI tt), .int (bI (wl)), .ref j9, .int (nI lm), .long (hs)])), (i1, .inl (ty 0, 275, .inl (eR (sM T q nr)))), (i2, .inl (ty 0, 1650, .inl (R)))] (fun (zr : Option Value) (zW : va_W) => ∃ (R9 : Nat → Int32), okR (svV V sd (T, q, nr)) (svC sd) R9 ∧ zr = some (.int (nI (zcnt (zPut T a) 256))) ∧ zW = [(x0, .inr (6, [.int (nI 0), .ref i1, .ref i2, .int (nI (svC sd)), .ref i3, .int (nI ln), .ref j1, .ref j2, .ref j3, .ref j4, .ref j5, .ref j6, .int (nI fm), .int (nI rd), .int (nI mt), .int (nI dr), .ref j7, .ref j8, .int (nI tt), .int (bI (wl)), .ref j9, .int (nI lm), .long (hs)])), (i1, .inl (ty 0, 275, .inl (eR (sM (zPut T a) q nr)))), (i2, .inl (ty 0, 1650, .inl (R9)))]) := by
  refine gM_of RX8 rfl (by decide +kernel) (Nat.le_of_ble_eq_true rfl) ?_
  intro pg en s0 mi ag bl mth cd AA HH QQ C E hnm
  show gW pg l en r_X8_tell_ok s0 mi ag bl mth cd 5 D AA HH QQ 0 [(0, .ref x0), (1, .int (nI (a / 64))), (2, .int (nI (a / 8 % 8))), (3, .int (nI (a % 8)))] [] [(x0, .inr (6, [.int (nI th), .ref i1, .ref i2, .int (nI sd), .ref i3, .int (nI ln), .ref j1, .ref j2, .ref j3, .ref j4, .ref j5, .ref j6, .int (nI fm), .int (nI rd), .int (nI mt), .int (nI dr), .ref j7, .ref j8, .int (nI tt), .int (bI (wl)), .ref j9, .int (nI lm), .long (hs)])), (i1, .inl (ty 0, 275, .inl (eR (sM T q nr)))), (i2, .inl (ty 0, 1650, .inl (R)))] 0 0
  refine g_aload_n C 0 rfl dX8_tell_0 ?_
  refine g_iconst C (nI 0) ic_0 dX8_tell_1 ?_
  refine g_putf C wu_X8 tyX8 tyX8_ok nmX8 0 rfl rfl 0 (by decide) wf_X8_47 rfl rfl rfl rfl (Nat.le_of_ble_eq_true rfl) dX8_tell_2 [(x0, .inr (6, [.int (nI 0), .ref i1, .ref i2, .int (nI sd), .ref i3, .int (nI ln), .ref j1, .ref j2, .ref j3, .ref j4, .ref j5, .ref j6, .int (nI fm), .int (nI rd), .int (nI mt), .int (nI dr), .ref j7, .ref j8, .int (nI tt), .int (bI (wl)), .ref j9, .int (nI lm), .long (hs)])), (i1, .inl (ty 0, 275, .inl (eR (sM T q nr)))), (i2, .inl (ty 0, 1650, .inl (R)))] rfl ?_
  refine g_iload_n C 1 rfl dX8_tell_5 ?_
  refine g_iload_n C 2 rfl dX8_tell_6 ?_
  refine g_iload_n C 3 rfl dX8_tell_7 ?_
  refine g_callS0 C (nA := 3) (k_X8_isOfFact l D ty ((nI (a / 64))) ((nI (a / 8 % 8))) ((nI (a % 8))) ) wm_X8_128 ws_X8_isOfFact wi_X8 wc_X8_isOfFact rfl (by decide +kernel) ⟨(Nat.le_of_ble_eq_true rfl), (Nat.le_of_ble_eq_true rfl)⟩ ⟨rfl, rfl⟩ dX8_tell_8 (fun _ _ h => h.2) (Nat.le_of_ble_eq_true rfl) rfl ⟨Nat.zero_le _, Nat.zero_le _⟩ (fun r hp => ?_)
  obtain ⟨rfl, -⟩ := hp
  refine g_st [.int (bI (isFi ((nI (a / 64))) ((nI (a / 8 % 8))) ((nI (a % 8)))))] rfl ?_
  refine g_if_neB C (isFi ((nI (a / 64))) ((nI (a / 8 % 8))) ((nI (a % 8)))) 20 rfl dX8_tell_11 rfl (fun c11 => ?_) (fun c11 => ?_)
  · skip
    refine g_bipush C (nI 64) bp_64 dX8_tell_20 ?_
    refine g_iload_n C 1 rfl dX8_tell_22 ?_
    refine g_imul C (nI (64 * (a / 64))) dX8_tell_23 (pk_mul _ _) ?_
    refine g_bipush C (nI 8) bp_8 dX8_tell_24 ?_
    refine g_iload_n C 2 rfl dX8_tell_26 ?_
    refine g_imul C (nI (8 * (a / 8 % 8))) dX8_tell_27 (pk_mul _ _) ?_
    refine g_iadd C (nI ((64 * (a / 64)) + (8 * (a / 8 % 8)))) dX8_tell_28 (nI_add _ _) ?_
    refine g_iload_n C 3 rfl dX8_tell_29 ?_
    refine g_iadd C (nI (((64 * (a / 64)) + (8 * (a / 8 % 8))) + (a % 8))) dX8_tell_30 (nI_add _ _) ?_
    refine g_st [.int (nI a)] (by rw [show 64 * (a / 64) + 8 * (a / 8 % 8) + a % 8 = a by omega]) ?_
    refine g_istore C [(4, .int (nI a)), (0, .ref x0), (1, .int (nI (a / 64))), (2, .int (nI (a / 8 % 8))), (3, .int (nI (a % 8)))] dX8_tell_31 (by decide) rfl ?_
    refine g_aload_n C 1 rfl dX8_tell_33 ?_
    refine g_getf C wu_X8 0 rfl rfl 1 (by decide) wf_X8_7 rfl rfl dX8_tell_34 ?_
    refine g_iload C 0 rfl dX8_tell_37 ?_
    refine g_iald C 1 rfl a rfl (by omega) (by decide) (nI (if T a = true then 1 else 0)) (sM_T ha) dX8_tell_39 ?_
    refine g_if_neN C (if T a = true then 1 else 0) 58 rfl (by split <;> decide) dX8_tell_40 rfl (fun c40 => ?_) (fun c40 => ?_)
    · skip
      refine g_aload_n C 1 rfl dX8_tell_58 ?_
      refine g_callV C (nA := 0) (ci := 6) (q0 := 0) (As := []) (wr := []) (k_X8_saves l D ty x0 0 i1 i2 sd i3 ln j1 j2 j3 j4 j5 j6 fm rd mt dr j7 j8 tt wl j9 lm hs T q nr R V hsd hR) wm_X8_138 wn_X8_saves wv_X8_saves wi_X8 wc_X8_saves rfl (by decide +kernel) ⟨(Nat.le_of_ble_eq_true rfl), (Nat.le_of_ble_eq_true rfl)⟩ ⟨rfl, rfl⟩ dX8_tell_59 ⟨Nat.zero_le _, Nat.zero_le _⟩ rfl rfl rfl [0, 1, 2] [] rfl rfl rfl rfl (by decide) (Nat.le_of_ble_eq_true rfl) rfl (fun r W1 hp => ?_)
      obtain ⟨R5, hR5, rfl, rfl⟩ := hp
      refine g_fix [] [(x0, .inr (6, [.int (nI 0), .ref i1, .ref i2, .int (nI (svC sd)), .ref i3, .int (nI ln), .ref j1, .ref j2, .ref j3, .ref j4, .ref j5, .ref j6, .int (nI fm), .int (nI rd), .int (nI mt), .int (nI dr), .ref j7, .ref j8, .int (nI tt), .int (bI (wl)), .ref j9, .int (nI lm), .long (hs)])), (i1, .inl (ty 0, 275, .inl (eR (sM T q nr)))), (i2, .inl (ty 0, 1650, .inl (R5)))] [0, 1, 2] rfl rfl rfl ?_
      refine g_aload_n C 1 rfl dX8_tell_62 ?_
      refine g_getf C wu_X8 0 rfl rfl 1 (by decide) wf_X8_7 rfl rfl dX8_tell_63 ?_
      refine g_iload C 0 rfl dX8_tell_66 ?_
      refine g_iconst C (nI 1) ic_1 dX8_tell_68 ?_
      refine g_iast C 1 rfl a rfl (by omega) (by decide) dX8_tell_69 (eR (sM (zPut T a) q nr)) (sM_put _ _ _ ha) [(x0, .inr (6, [.int (nI 0), .ref i1, .ref i2, .int (nI (svC sd)), .ref i3, .int (nI ln), .ref j1, .ref j2, .ref j3, .ref j4, .ref j5, .ref j6, .int (nI fm), .int (nI rd), .int (nI mt), .int (nI dr), .ref j7, .ref j8, .int (nI tt), .int (bI (wl)), .ref j9, .int (nI lm), .long (hs)])), (i1, .inl (ty 0, 275, .inl (eR (sM (zPut T a) q nr)))), (i2, .inl (ty 0, 1650, .inl (R5)))] rfl ?_
      refine g_aload_n C 1 rfl dX8_tell_70 ?_
      refine g_callV C (nA := 0) (ci := 6) (q0 := 0) (As := []) (wr := [(i2, .inl (ty 0, 1650, .inl (R5)))]) (k_X8_toldMany l D ty x0 0 i1 i2 (svC sd) i3 ln j1 j2 j3 j4 j5 j6 fm rd mt dr j7 j8 tt wl j9 lm hs (zPut T a) q nr ) wm_X8_134 wn_X8_toldMany wv_X8_toldMany wi_X8 wc_X8_toldMany rfl (by decide +kernel) ⟨(Nat.le_of_ble_eq_true rfl), (Nat.le_of_ble_eq_true rfl)⟩ ⟨rfl, rfl⟩ dX8_tell_71 ⟨Nat.zero_le _, Nat.zero_le _⟩ rfl rfl rfl [0, 1] [2] rfl rfl rfl rfl (by decide) (Nat.le_of_ble_eq_true rfl) rfl (fun r W1 hp => ?_)
      obtain ⟨rfl, rfl⟩ := hp
      refine g_fix [.int (nI (zcnt (zPut T a) 256))] [(x0, .inr (6, [.int (nI 0), .ref i1, .ref i2, .int (nI ((svC sd))), .ref i3, .int (nI ln), .ref j1, .ref j2, .ref j3, .ref j4, .ref j5, .ref j6, .int (nI fm), .int (nI rd), .int (nI mt), .int (nI dr), .ref j7, .ref j8, .int (nI tt), .int (bI (wl)), .ref j9, .int (nI lm), .long (hs)])), (i1, .inl (ty 0, 275, .inl (eR (sM (zPut T a) q nr)))), (i2, .inl (ty 0, 1650, .inl (R5)))] [1, 2, 0] rfl rfl rfl ?_
      exact g_iret E dX8_tell_74 (by decide) (by decide) ⟨R5, hR5, rfl, rfl⟩
    · skip
      refine g_aload_n C 1 rfl dX8_tell_43 ?_
      refine g_callV C (nA := 0) (ci := 6) (q0 := 0) (As := []) (wr := [(i2, .inl (ty 0, 1650, .inl (R)))]) (k_X8_toldMany l D ty x0 0 i1 i2 sd i3 ln j1 j2 j3 j4 j5 j6 fm rd mt dr j7 j8 tt wl j9 lm hs T q nr ) wm_X8_134 wn_X8_toldMany wv_X8_toldMany wi_X8 wc_X8_toldMany rfl (by decide +kernel) ⟨(Nat.le_of_ble_eq_true rfl), (Nat.le_of_ble_eq_true rfl)⟩ ⟨rfl, rfl⟩ dX8_tell_44 ⟨Nat.zero_le _, Nat.zero_le _⟩ rfl rfl rfl [0, 1] [2] rfl rfl rfl rfl (by decide) (Nat.le_of_ble_eq_true rfl) rfl (fun r W1 hp => ?_)
      obtain ⟨rfl, rfl⟩ := hp
      refine g_fix [.int (nI (zcnt T 256))] [(x0, .inr (6, [.int (nI 0), .ref i1, .ref i2, .int (nI sd), .ref i3, .int (nI ln), .ref j1, .ref j2, .ref j3, .ref j4, .ref j5, .ref j6, .int (nI fm), .int (nI rd), .int (nI mt), .int (nI dr), .ref j7, .ref j8, .int (nI tt), .int (bI (wl)), .ref j9, .int (nI lm), .long (hs)])), (i1, .inl (ty 0, 275, .inl (eR (sM T q nr)))), (i2, .inl (ty 0, 1650, .inl (R)))] [1, 2, 0] rfl rfl rfl ?_
      refine g_bipush C (nI 12) bp_12 dX8_tell_47 ?_
      refine g_icmp_neN C (zcnt T 256) 12 58 rfl rfl (by have := zcnt_le T 256; omega) (by omega) dX8_tell_49 rfl (fun c49 => ?_) (fun c49 => ?_)
      · skip
        refine g_aload_n C 1 rfl dX8_tell_58 ?_
        refine g_callV C (nA := 0) (ci := 6) (q0 := 0) (As := []) (wr := []) (k_X8_saves l D ty x0 0 i1 i2 sd i3 ln j1 j2 j3 j4 j5 j6 fm rd mt dr j7 j8 tt wl j9 lm hs T q nr R V hsd hR) wm_X8_138 wn_X8_saves wv_X8_saves wi_X8 wc_X8_saves rfl (by decide +kernel) ⟨(Nat.le_of_ble_eq_true rfl), (Nat.le_of_ble_eq_true rfl)⟩ ⟨rfl, rfl⟩ dX8_tell_59 ⟨Nat.zero_le _, Nat.zero_le _⟩ rfl rfl rfl [0, 1, 2] [] rfl rfl rfl rfl (by decide) (Nat.le_of_ble_eq_true rfl) rfl (fun r W1 hp => ?_)
        obtain ⟨R5, hR5, rfl, rfl⟩ := hp
        refine g_fix [] [(x0, .inr (6, [.int (nI 0), .ref i1, .ref i2, .int (nI (svC sd)), .ref i3, .int (nI ln), .ref j1, .ref j2, .ref j3, .ref j4, .ref j5, .ref j6, .int (nI fm), .int (nI rd), .int (nI mt), .int (nI dr), .ref j7, .ref j8, .int (nI tt), .int (bI (wl)), .ref j9, .int (nI lm), .long (hs)])), (i1, .inl (ty 0, 275, .inl (eR (sM T q nr)))), (i2, .inl (ty 0, 1650, .inl (R5)))] [0, 1, 2] rfl rfl rfl ?_
        refine g_aload_n C 1 rfl dX8_tell_62 ?_
        refine g_getf C wu_X8 0 rfl rfl 1 (by decide) wf_X8_7 rfl rfl dX8_tell_63 ?_
        refine g_iload C 0 rfl dX8_tell_66 ?_
        refine g_iconst C (nI 1) ic_1 dX8_tell_68 ?_
        refine g_iast C 1 rfl a rfl (by omega) (by decide) dX8_tell_69 (eR (sM (zPut T a) q nr)) (sM_put _ _ _ ha) [(x0, .inr (6, [.int (nI 0), .ref i1, .ref i2, .int (nI (svC sd)), .ref i3, .int (nI ln), .ref j1, .ref j2, .ref j3, .ref j4, .ref j5, .ref j6, .int (nI fm), .int (nI rd), .int (nI mt), .int (nI dr), .ref j7, .ref j8, .int (nI tt), .int (bI (wl)), .ref j9, .int (nI lm), .long (hs)])), (i1, .inl (ty 0, 275, .inl (eR (sM (zPut T a) q nr)))), (i2, .inl (ty 0, 1650, .inl (R5)))] rfl ?_
        refine g_aload_n C 1 rfl dX8_tell_70 ?_
        refine g_callV C (nA := 0) (ci := 6) (q0 := 0) (As := []) (wr := [(i2, .inl (ty 0, 1650, .inl (R5)))]) (k_X8_toldMany l D ty x0 0 i1 i2 (svC sd) i3 ln j1 j2 j3 j4 j5 j6 fm rd mt dr j7 j8 tt wl j9 lm hs (zPut T a) q nr ) wm_X8_134 wn_X8_toldMany wv_X8_toldMany wi_X8 wc_X8_toldMany rfl (by decide +kernel) ⟨(Nat.le_of_ble_eq_true rfl), (Nat.le_of_ble_eq_true rfl)⟩ ⟨rfl, rfl⟩ dX8_tell_71 ⟨Nat.zero_le _, Nat.zero_le _⟩ rfl rfl rfl [0, 1] [2] rfl rfl rfl rfl (by decide) (Nat.le_of_ble_eq_true rfl) rfl (fun r W1 hp => ?_)
        obtain ⟨rfl, rfl⟩ := hp
        refine g_fix [.int (nI (zcnt (zPut T a) 256))] [(x0, .inr (6, [.int (nI 0), .ref i1, .ref i2, .int (nI ((svC sd))), .ref i3, .int (nI ln), .ref j1, .ref j2, .ref j3, .ref j4, .ref j5, .ref j6, .int (nI fm), .int (nI rd), .int (nI mt), .int (nI dr), .ref j7, .ref j8, .int (nI tt), .int (bI (wl)), .ref j9, .int (nI lm), .long (hs)])), (i1, .inl (ty 0, 275, .inl (eR (sM (zPut T a) q nr)))), (i2, .inl (ty 0, 1650, .inl (R5)))] [1, 2, 0] rfl rfl rfl ?_
        exact g_iret E dX8_tell_74 (by decide) (by decide) ⟨R5, hR5, rfl, rfl⟩
      · skip
        exact absurd hok (by rw [show T a = false from by cases hh : T a with | false => rfl | true => rw [hh] at c40; exact absurd c40 (by decide)]; simp; omega)
  · skip
    exact absurd c11 (by rw [isFi_N a ha, hf]; decide)
def r_X8_tell_x2 : Room := { frames := 2, cells := 0, slots := 0, locals := 44 }
set_option maxRecDepth 100000 in
set_option maxHeartbeats 4000000 in
theorem k_X8_tell_x2 (l : Launch) (D : va_G) (ty : Nat → ClassId) (x0 : Nat) (th : Nat) (i1 : Nat) (i2 : Nat) (sd : Nat) (i3 : Nat) (ln : Nat) (j1 : Nat) (j2 : Nat) (j3 : Nat) (j4 : Nat) (j5 : Nat) (j6 : Nat) (fm : Nat) (rd : Nat) (mt : Nat) (dr : Nat) (j7 : Nat) (j8 : Nat) (tt : Nat) (wl : Bool) (j9 : Nat) (lm : Nat) (hs : Int64) (T : Nat → Bool) (q : Nat → Nat) (nr : Nat) (a : Nat) (ha : a < 256) (hf : isF a = true) (hno : T a = false) (h12 : zcnt T 256 = 12) : gM l D ty yX8_tell cX8_tell 5 (some (FieldType.int : FieldType)) r_X8_tell_x2 0 0 [.ref x0, .int (nI (a / 64)), .int (nI (a / 8 % 8)), .int (nI (a % 8))] [(x0, .inr (6, [.int (nI th), .ref i1, .ref i2, .int (nI sd), .ref i3, .int (nI ln), .ref j1, .ref j2, .ref j3, .ref j4, .ref j5, .ref j6, .int (nI fm), .int (nI rd), .int (nI mt), .int (nI dr), .ref j7, .ref j8, .int (nI tt), .int (bI (wl)), .ref j9, .int (nI lm), .long (hs)])), (i1, .inl (ty 0, 275, .inl (eR (sM T q nr))))] (fun (zr : Option Value) (zW : va_W) => zr = some (.int (nI 0)) ∧ zW = [(x0, .inr (6, [.int (nI 2), .ref i1, .ref i2, .int (nI sd), .ref i3, .int (nI ln), .ref j1, .ref j2, .ref j3, .ref j4, .ref j5, .ref j6, .int (nI fm), .int (nI rd), .int (nI mt), .int (nI dr), .ref j7, .ref j8, .int (nI tt), .int (bI (wl)), .ref j9, .int (nI lm), .long (hs)])), (i1, .inl (ty 0, 275, .inl (eR (sM T q nr))))]) := by
  refine gM_of RX8 rfl (by decide +kernel) (Nat.le_of_ble_eq_true rfl) ?_
  intro pg en s0 mi ag bl mth cd AA HH QQ C E hnm
  show gW pg l en r_X8_tell_x2 s0 mi ag bl mth cd 5 D AA HH QQ 0 [(0, .ref x0), (1, .int (nI (a / 64))), (2, .int (nI (a / 8 % 8))), (3, .int (nI (a % 8)))] [] [(x0, .inr (6, [.int (nI th), .ref i1, .ref i2, .int (nI sd), .ref i3, .int (nI ln), .ref j1, .ref j2, .ref j3, .ref j4, .ref j5, .ref j6, .int (nI fm), .int (nI rd), .int (nI mt), .int (nI dr), .ref j7, .ref j8, .int (nI tt), .int (bI (wl)), .ref j9, .int (nI lm), .long (hs)])), (i1, .inl (ty 0, 275, .inl (eR (sM T q nr))))] 0 0
  refine g_aload_n C 0 rfl dX8_tell_0 ?_
  refine g_iconst C (nI 0) ic_0 dX8_tell_1 ?_
  refine g_putf C wu_X8 tyX8 tyX8_ok nmX8 0 rfl rfl 0 (by decide) wf_X8_47 rfl rfl rfl rfl (Nat.le_of_ble_eq_true rfl) dX8_tell_2 [(x0, .inr (6, [.int (nI 0), .ref i1, .ref i2, .int (nI sd), .ref i3, .int (nI ln), .ref j1, .ref j2, .ref j3, .ref j4, .ref j5, .ref j6, .int (nI fm), .int (nI rd), .int (nI mt), .int (nI dr), .ref j7, .ref j8, .int (nI tt), .int (bI (wl)), .ref j9, .int (nI lm), .long (hs)])), (i1, .inl (ty 0, 275, .inl (eR (sM T q nr))))] rfl ?_
  refine g_iload_n C 1 rfl dX8_tell_5 ?_
  refine g_iload_n C 2 rfl dX8_tell_6 ?_
  refine g_iload_n C 3 rfl dX8_tell_7 ?_
  refine g_callS0 C (nA := 3) (k_X8_isOfFact l D ty ((nI (a / 64))) ((nI (a / 8 % 8))) ((nI (a % 8))) ) wm_X8_128 ws_X8_isOfFact wi_X8 wc_X8_isOfFact rfl (by decide +kernel) ⟨(Nat.le_of_ble_eq_true rfl), (Nat.le_of_ble_eq_true rfl)⟩ ⟨rfl, rfl⟩ dX8_tell_8 (fun _ _ h => h.2) (Nat.le_of_ble_eq_true rfl) rfl ⟨Nat.zero_le _, Nat.zero_le _⟩ (fun r hp => ?_)
  obtain ⟨rfl, -⟩ := hp
  refine g_st [.int (bI (isFi ((nI (a / 64))) ((nI (a / 8 % 8))) ((nI (a % 8)))))] rfl ?_
  refine g_if_neB C (isFi ((nI (a / 64))) ((nI (a / 8 % 8))) ((nI (a % 8)))) 20 rfl dX8_tell_11 rfl (fun c11 => ?_) (fun c11 => ?_)
  · skip
    refine g_bipush C (nI 64) bp_64 dX8_tell_20 ?_
    refine g_iload_n C 1 rfl dX8_tell_22 ?_
    refine g_imul C (nI (64 * (a / 64))) dX8_tell_23 (pk_mul _ _) ?_
    refine g_bipush C (nI 8) bp_8 dX8_tell_24 ?_
    refine g_iload_n C 2 rfl dX8_tell_26 ?_
    refine g_imul C (nI (8 * (a / 8 % 8))) dX8_tell_27 (pk_mul _ _) ?_
    refine g_iadd C (nI ((64 * (a / 64)) + (8 * (a / 8 % 8)))) dX8_tell_28 (nI_add _ _) ?_
    refine g_iload_n C 3 rfl dX8_tell_29 ?_
    refine g_iadd C (nI (((64 * (a / 64)) + (8 * (a / 8 % 8))) + (a % 8))) dX8_tell_30 (nI_add _ _) ?_
    refine g_st [.int (nI a)] (by rw [show 64 * (a / 64) + 8 * (a / 8 % 8) + a % 8 = a by omega]) ?_
    refine g_istore C [(4, .int (nI a)), (0, .ref x0), (1, .int (nI (a / 64))), (2, .int (nI (a / 8 % 8))), (3, .int (nI (a % 8)))] dX8_tell_31 (by decide) rfl ?_
    refine g_aload_n C 1 rfl dX8_tell_33 ?_
    refine g_getf C wu_X8 0 rfl rfl 1 (by decide) wf_X8_7 rfl rfl dX8_tell_34 ?_
    refine g_iload C 0 rfl dX8_tell_37 ?_
    refine g_iald C 1 rfl a rfl (by omega) (by decide) (nI (if T a = true then 1 else 0)) (sM_T ha) dX8_tell_39 ?_
    refine g_if_neN C (if T a = true then 1 else 0) 58 rfl (by split <;> decide) dX8_tell_40 rfl (fun c40 => ?_) (fun c40 => ?_)
    · skip
      exact absurd (by rw [hno]; rfl) c40
    · skip
      refine g_aload_n C 1 rfl dX8_tell_43 ?_
      refine g_callV C (nA := 0) (ci := 6) (q0 := 0) (As := []) (wr := []) (k_X8_toldMany l D ty x0 0 i1 i2 sd i3 ln j1 j2 j3 j4 j5 j6 fm rd mt dr j7 j8 tt wl j9 lm hs T q nr ) wm_X8_134 wn_X8_toldMany wv_X8_toldMany wi_X8 wc_X8_toldMany rfl (by decide +kernel) ⟨(Nat.le_of_ble_eq_true rfl), (Nat.le_of_ble_eq_true rfl)⟩ ⟨rfl, rfl⟩ dX8_tell_44 ⟨Nat.zero_le _, Nat.zero_le _⟩ rfl rfl rfl [0, 1] [] rfl rfl rfl rfl (by decide) (Nat.le_of_ble_eq_true rfl) rfl (fun r W1 hp => ?_)
      obtain ⟨rfl, rfl⟩ := hp
      refine g_fix [.int (nI (zcnt T 256))] [(x0, .inr (6, [.int (nI 0), .ref i1, .ref i2, .int (nI sd), .ref i3, .int (nI ln), .ref j1, .ref j2, .ref j3, .ref j4, .ref j5, .ref j6, .int (nI fm), .int (nI rd), .int (nI mt), .int (nI dr), .ref j7, .ref j8, .int (nI tt), .int (bI (wl)), .ref j9, .int (nI lm), .long (hs)])), (i1, .inl (ty 0, 275, .inl (eR (sM T q nr))))] [0, 1] rfl rfl rfl ?_
      refine g_bipush C (nI 12) bp_12 dX8_tell_47 ?_
      refine g_icmp_neN C (zcnt T 256) 12 58 rfl rfl (by have := zcnt_le T 256; omega) (by omega) dX8_tell_49 rfl (fun c49 => ?_) (fun c49 => ?_)
      · skip
        exact absurd h12 c49
      · skip
        refine g_aload_n C 1 rfl dX8_tell_52 ?_
        refine g_iconst C (nI 2) ic_2 dX8_tell_53 ?_
        refine g_callV C (nA := 1) (ci := 6) (q0 := 0) (As := [.int (nI 2)]) (wr := [(i1, .inl (ty 0, 275, .inl (eR (sM T q nr))))]) (k_X8_fails l D ty x0 0 i1 i2 sd i3 ln j1 j2 j3 j4 j5 j6 fm rd mt dr j7 j8 tt wl j9 lm hs 2 ) wm_X8_131 wn_X8_fails wv_X8_fails wi_X8 wc_X8_fails rfl (by decide +kernel) ⟨(Nat.le_of_ble_eq_true rfl), (Nat.le_of_ble_eq_true rfl)⟩ ⟨rfl, rfl⟩ dX8_tell_54 ⟨Nat.zero_le _, Nat.zero_le _⟩ rfl rfl rfl [0] [1] rfl rfl rfl rfl (by decide) (Nat.le_of_ble_eq_true rfl) rfl (fun r W1 hp => ?_)
        obtain ⟨rfl, rfl⟩ := hp
        refine g_fix [.int (nI 0)] [(x0, .inr (6, [.int (nI 2), .ref i1, .ref i2, .int (nI sd), .ref i3, .int (nI ln), .ref j1, .ref j2, .ref j3, .ref j4, .ref j5, .ref j6, .int (nI fm), .int (nI rd), .int (nI mt), .int (nI dr), .ref j7, .ref j8, .int (nI tt), .int (bI (wl)), .ref j9, .int (nI lm), .long (hs)])), (i1, .inl (ty 0, 275, .inl (eR (sM T q nr))))] [1, 0] rfl rfl rfl ?_
        exact g_iret E dX8_tell_57 (by decide) (by decide) ⟨rfl, rfl⟩
  · skip
    exact absurd c11 (by rw [isFi_N a ha, hf]; decide)
def r_X8_tell_x1 : Room := { frames := 2, cells := 0, slots := 0, locals := 44 }
set_option maxRecDepth 100000 in
set_option maxHeartbeats 4000000 in
theorem k_X8_tell_x1 (l : Launch) (D : va_G) (ty : Nat → ClassId) (x0 : Nat) (th : Nat) (i1 : Nat) (i2 : Nat) (sd : Nat) (i3 : Nat) (ln : Nat) (j1 : Nat) (j2 : Nat) (j3 : Nat) (j4 : Nat) (j5 : Nat) (j6 : Nat) (fm : Nat) (rd : Nat) (mt : Nat) (dr : Nat) (j7 : Nat) (j8 : Nat) (tt : Nat) (wl : Bool) (j9 : Nat) (lm : Nat) (hs : Int64) (z1 : Int32) (z2 : Int32) (z3 : Int32) (hf : isFi z1 z2 z3 = false) : gM l D ty yX8_tell cX8_tell 5 (some (FieldType.int : FieldType)) r_X8_tell_x1 0 0 [.ref x0, .int (z1), .int (z2), .int (z3)] [(x0, .inr (6, [.int (nI th), .ref i1, .ref i2, .int (nI sd), .ref i3, .int (nI ln), .ref j1, .ref j2, .ref j3, .ref j4, .ref j5, .ref j6, .int (nI fm), .int (nI rd), .int (nI mt), .int (nI dr), .ref j7, .ref j8, .int (nI tt), .int (bI (wl)), .ref j9, .int (nI lm), .long (hs)]))] (fun (zr : Option Value) (zW : va_W) => zr = some (.int (nI 0)) ∧ zW = [(x0, .inr (6, [.int (nI 1), .ref i1, .ref i2, .int (nI sd), .ref i3, .int (nI ln), .ref j1, .ref j2, .ref j3, .ref j4, .ref j5, .ref j6, .int (nI fm), .int (nI rd), .int (nI mt), .int (nI dr), .ref j7, .ref j8, .int (nI tt), .int (bI (wl)), .ref j9, .int (nI lm), .long (hs)]))]) := by
  refine gM_of RX8 rfl (by decide +kernel) (Nat.le_of_ble_eq_true rfl) ?_
  intro pg en s0 mi ag bl mth cd AA HH QQ C E hnm
  show gW pg l en r_X8_tell_x1 s0 mi ag bl mth cd 5 D AA HH QQ 0 [(0, .ref x0), (1, .int (z1)), (2, .int (z2)), (3, .int (z3))] [] [(x0, .inr (6, [.int (nI th), .ref i1, .ref i2, .int (nI sd), .ref i3, .int (nI ln), .ref j1, .ref j2, .ref j3, .ref j4, .ref j5, .ref j6, .int (nI fm), .int (nI rd), .int (nI mt), .int (nI dr), .ref j7, .ref j8, .int (nI tt), .int (bI (wl)), .ref j9, .int (nI lm), .long (hs)]))] 0 0
  refine g_aload_n C 0 rfl dX8_tell_0 ?_
  refine g_iconst C (nI 0) ic_0 dX8_tell_1 ?_
  refine g_putf C wu_X8 tyX8 tyX8_ok nmX8 0 rfl rfl 0 (by decide) wf_X8_47 rfl rfl rfl rfl (Nat.le_of_ble_eq_true rfl) dX8_tell_2 [(x0, .inr (6, [.int (nI 0), .ref i1, .ref i2, .int (nI sd), .ref i3, .int (nI ln), .ref j1, .ref j2, .ref j3, .ref j4, .ref j5, .ref j6, .int (nI fm), .int (nI rd), .int (nI mt), .int (nI dr), .ref j7, .ref j8, .int (nI tt), .int (bI (wl)), .ref j9, .int (nI lm), .long (hs)]))] rfl ?_
  refine g_iload_n C 1 rfl dX8_tell_5 ?_
  refine g_iload_n C 2 rfl dX8_tell_6 ?_
  refine g_iload_n C 3 rfl dX8_tell_7 ?_
  refine g_callS0 C (nA := 3) (k_X8_isOfFact l D ty z1 z2 z3 ) wm_X8_128 ws_X8_isOfFact wi_X8 wc_X8_isOfFact rfl (by decide +kernel) ⟨(Nat.le_of_ble_eq_true rfl), (Nat.le_of_ble_eq_true rfl)⟩ ⟨rfl, rfl⟩ dX8_tell_8 (fun _ _ h => h.2) (Nat.le_of_ble_eq_true rfl) rfl ⟨Nat.zero_le _, Nat.zero_le _⟩ (fun r hp => ?_)
  obtain ⟨rfl, -⟩ := hp
  refine g_st [.int (bI (isFi z1 z2 z3))] rfl ?_
  refine g_if_neB C (isFi z1 z2 z3) 20 rfl dX8_tell_11 rfl (fun c11 => ?_) (fun c11 => ?_)
  · skip
    exact absurd (c11.symm.trans hf) (by decide)
  · skip
    refine g_aload_n C 0 rfl dX8_tell_14 ?_
    refine g_iconst C (nI 1) ic_1 dX8_tell_15 ?_
    refine g_callV C (nA := 1) (ci := 6) (q0 := 0) (As := [.int (nI 1)]) (wr := []) (k_X8_fails l D ty x0 0 i1 i2 sd i3 ln j1 j2 j3 j4 j5 j6 fm rd mt dr j7 j8 tt wl j9 lm hs 1 ) wm_X8_131 wn_X8_fails wv_X8_fails wi_X8 wc_X8_fails rfl (by decide +kernel) ⟨(Nat.le_of_ble_eq_true rfl), (Nat.le_of_ble_eq_true rfl)⟩ ⟨rfl, rfl⟩ dX8_tell_16 ⟨Nat.zero_le _, Nat.zero_le _⟩ rfl rfl rfl [0] [] rfl rfl rfl rfl (by decide) (Nat.le_of_ble_eq_true rfl) rfl (fun r W1 hp => ?_)
    obtain ⟨rfl, rfl⟩ := hp
    refine g_fix [.int (nI 0)] [(x0, .inr (6, [.int (nI 1), .ref i1, .ref i2, .int (nI sd), .ref i3, .int (nI ln), .ref j1, .ref j2, .ref j3, .ref j4, .ref j5, .ref j6, .int (nI fm), .int (nI rd), .int (nI mt), .int (nI dr), .ref j7, .ref j8, .int (nI tt), .int (bI (wl)), .ref j9, .int (nI lm), .long (hs)]))] [0] rfl rfl rfl ?_
    exact g_iret E dX8_tell_19 (by decide) (by decide) ⟨rfl, rfl⟩
def r_X8_untell_x1 : Room := { frames := 2, cells := 0, slots := 0, locals := 44 }
set_option maxRecDepth 100000 in
set_option maxHeartbeats 4000000 in
theorem k_X8_untell_x1 (l : Launch) (D : va_G) (ty : Nat → ClassId) (x0 : Nat) (th : Nat) (i1 : Nat) (i2 : Nat) (sd : Nat) (i3 : Nat) (ln : Nat) (j1 : Nat) (j2 : Nat) (j3 : Nat) (j4 : Nat) (j5 : Nat) (j6 : Nat) (fm : Nat) (rd : Nat) (mt : Nat) (dr : Nat) (j7 : Nat) (j8 : Nat) (tt : Nat) (wl : Bool) (j9 : Nat) (lm : Nat) (hs : Int64) (z1 : Int32) (z2 : Int32) (z3 : Int32) (hf : isFi z1 z2 z3 = false) : gM l D ty yX8_untell cX8_untell 6 (some (FieldType.int : FieldType)) r_X8_untell_x1 0 0 [.ref x0, .int (z1), .int (z2), .int (z3)] [(x0, .inr (6, [.int (nI th), .ref i1, .ref i2, .int (nI sd), .ref i3, .int (nI ln), .ref j1, .ref j2, .ref j3, .ref j4, .ref j5, .ref j6, .int (nI fm), .int (nI rd), .int (nI mt), .int (nI dr), .ref j7, .ref j8, .int (nI tt), .int (bI (wl)), .ref j9, .int (nI lm), .long (hs)]))] (fun (zr : Option Value) (zW : va_W) => zr = some (.int (nI 0)) ∧ zW = [(x0, .inr (6, [.int (nI 1), .ref i1, .ref i2, .int (nI sd), .ref i3, .int (nI ln), .ref j1, .ref j2, .ref j3, .ref j4, .ref j5, .ref j6, .int (nI fm), .int (nI rd), .int (nI mt), .int (nI dr), .ref j7, .ref j8, .int (nI tt), .int (bI (wl)), .ref j9, .int (nI lm), .long (hs)]))]) := by
  refine gM_of RX8 rfl (by decide +kernel) (Nat.le_of_ble_eq_true rfl) ?_
  intro pg en s0 mi ag bl mth cd AA HH QQ C E hnm
  show gW pg l en r_X8_untell_x1 s0 mi ag bl mth cd 6 D AA HH QQ 0 [(0, .ref x0), (1, .int (z1)), (2, .int (z2)), (3, .int (z3))] [] [(x0, .inr (6, [.int (nI th), .ref i1, .ref i2, .int (nI sd), .ref i3, .int (nI ln), .ref j1, .ref j2, .ref j3, .ref j4, .ref j5, .ref j6, .int (nI fm), .int (nI rd), .int (nI mt), .int (nI dr), .ref j7, .ref j8, .int (nI tt), .int (bI (wl)), .ref j9, .int (nI lm), .long (hs)]))] 0 0
  refine g_aload_n C 0 rfl dX8_untell_0 ?_
  refine g_iconst C (nI 0) ic_0 dX8_untell_1 ?_
  refine g_putf C wu_X8 tyX8 tyX8_ok nmX8 0 rfl rfl 0 (by decide) wf_X8_47 rfl rfl rfl rfl (Nat.le_of_ble_eq_true rfl) dX8_untell_2 [(x0, .inr (6, [.int (nI 0), .ref i1, .ref i2, .int (nI sd), .ref i3, .int (nI ln), .ref j1, .ref j2, .ref j3, .ref j4, .ref j5, .ref j6, .int (nI fm), .int (nI rd), .int (nI mt), .int (nI dr), .ref j7, .ref j8, .int (nI tt), .int (bI (wl)), .ref j9, .int (nI lm), .long (hs)]))] rfl ?_
  refine g_iload_n C 1 rfl dX8_untell_5 ?_
  refine g_iload_n C 2 rfl dX8_untell_6 ?_
  refine g_iload_n C 3 rfl dX8_untell_7 ?_
  refine g_callS0 C (nA := 3) (k_X8_isOfFact l D ty z1 z2 z3 ) wm_X8_128 ws_X8_isOfFact wi_X8 wc_X8_isOfFact rfl (by decide +kernel) ⟨(Nat.le_of_ble_eq_true rfl), (Nat.le_of_ble_eq_true rfl)⟩ ⟨rfl, rfl⟩ dX8_untell_8 (fun _ _ h => h.2) (Nat.le_of_ble_eq_true rfl) rfl ⟨Nat.zero_le _, Nat.zero_le _⟩ (fun r hp => ?_)
  obtain ⟨rfl, -⟩ := hp
  refine g_st [.int (bI (isFi z1 z2 z3))] rfl ?_
  refine g_if_neB C (isFi z1 z2 z3) 20 rfl dX8_untell_11 rfl (fun c11 => ?_) (fun c11 => ?_)
  · skip
    exact absurd (c11.symm.trans hf) (by decide)
  · skip
    refine g_aload_n C 0 rfl dX8_untell_14 ?_
    refine g_iconst C (nI 1) ic_1 dX8_untell_15 ?_
    refine g_callV C (nA := 1) (ci := 6) (q0 := 0) (As := [.int (nI 1)]) (wr := []) (k_X8_fails l D ty x0 0 i1 i2 sd i3 ln j1 j2 j3 j4 j5 j6 fm rd mt dr j7 j8 tt wl j9 lm hs 1 ) wm_X8_131 wn_X8_fails wv_X8_fails wi_X8 wc_X8_fails rfl (by decide +kernel) ⟨(Nat.le_of_ble_eq_true rfl), (Nat.le_of_ble_eq_true rfl)⟩ ⟨rfl, rfl⟩ dX8_untell_16 ⟨Nat.zero_le _, Nat.zero_le _⟩ rfl rfl rfl [0] [] rfl rfl rfl rfl (by decide) (Nat.le_of_ble_eq_true rfl) rfl (fun r W1 hp => ?_)
    obtain ⟨rfl, rfl⟩ := hp
    refine g_fix [.int (nI 0)] [(x0, .inr (6, [.int (nI 1), .ref i1, .ref i2, .int (nI sd), .ref i3, .int (nI ln), .ref j1, .ref j2, .ref j3, .ref j4, .ref j5, .ref j6, .int (nI fm), .int (nI rd), .int (nI mt), .int (nI dr), .ref j7, .ref j8, .int (nI tt), .int (bI (wl)), .ref j9, .int (nI lm), .long (hs)]))] [0] rfl rfl rfl ?_
    exact g_iret E dX8_untell_19 (by decide) (by decide) ⟨rfl, rfl⟩
def r_X8_follows_x1 : Room := { frames := 10, cells := 0, slots := 0, locals := 228 }
set_option maxRecDepth 100000 in
set_option maxHeartbeats 4000000 in
theorem k_X8_follows_x1 (l : Launch) (D : va_G) (ty : Nat → ClassId) (x0 : Nat) (th : Nat) (i1 : Nat) (i2 : Nat) (sd : Nat) (i3 : Nat) (ln : Nat) (j1 : Nat) (j2 : Nat) (j3 : Nat) (j4 : Nat) (j5 : Nat) (j6 : Nat) (fm : Nat) (rd : Nat) (mt : Nat) (dr : Nat) (j7 : Nat) (j8 : Nat) (tt : Nat) (wl : Bool) (j9 : Nat) (lm : Nat) (hs : Int64) (z1 : Int32) (z2 : Int32) (z3 : Int32) (hf : isFi z1 z2 z3 = false) : gM l D ty yX8_follows cX8_follows 4 (some (FieldType.int : FieldType)) r_X8_follows_x1 0 0 [.ref x0, .int (z1), .int (z2), .int (z3)] [(x0, .inr (6, [.int (nI th), .ref i1, .ref i2, .int (nI sd), .ref i3, .int (nI ln), .ref j1, .ref j2, .ref j3, .ref j4, .ref j5, .ref j6, .int (nI fm), .int (nI rd), .int (nI mt), .int (nI dr), .ref j7, .ref j8, .int (nI tt), .int (bI (wl)), .ref j9, .int (nI lm), .long (hs)]))] (fun (zr : Option Value) (zW : va_W) => zr = some (.int (nI 0)) ∧ zW = [(x0, .inr (6, [.int (nI 1), .ref i1, .ref i2, .int (nI sd), .ref i3, .int (nI ln), .ref j1, .ref j2, .ref j3, .ref j4, .ref j5, .ref j6, .int (nI fm), .int (nI rd), .int (nI mt), .int (nI dr), .ref j7, .ref j8, .int (nI tt), .int (bI (wl)), .ref j9, .int (nI lm), .long (hs)]))]) := by
  refine gM_of RX8 rfl (by decide +kernel) (Nat.le_of_ble_eq_true rfl) ?_
  intro pg en s0 mi ag bl mth cd AA HH QQ C E hnm
  show gW pg l en r_X8_follows_x1 s0 mi ag bl mth cd 4 D AA HH QQ 0 [(0, .ref x0), (1, .int (z1)), (2, .int (z2)), (3, .int (z3))] [] [(x0, .inr (6, [.int (nI th), .ref i1, .ref i2, .int (nI sd), .ref i3, .int (nI ln), .ref j1, .ref j2, .ref j3, .ref j4, .ref j5, .ref j6, .int (nI fm), .int (nI rd), .int (nI mt), .int (nI dr), .ref j7, .ref j8, .int (nI tt), .int (bI (wl)), .ref j9, .int (nI lm), .long (hs)]))] 0 0
  refine g_aload_n C 0 rfl dX8_follows_0 ?_
  refine g_iconst C (nI 0) ic_0 dX8_follows_1 ?_
  refine g_putf C wu_X8 tyX8 tyX8_ok nmX8 0 rfl rfl 0 (by decide) wf_X8_47 rfl rfl rfl rfl (Nat.le_of_ble_eq_true rfl) dX8_follows_2 [(x0, .inr (6, [.int (nI 0), .ref i1, .ref i2, .int (nI sd), .ref i3, .int (nI ln), .ref j1, .ref j2, .ref j3, .ref j4, .ref j5, .ref j6, .int (nI fm), .int (nI rd), .int (nI mt), .int (nI dr), .ref j7, .ref j8, .int (nI tt), .int (bI (wl)), .ref j9, .int (nI lm), .long (hs)]))] rfl ?_
  refine g_iload_n C 1 rfl dX8_follows_5 ?_
  refine g_iload_n C 2 rfl dX8_follows_6 ?_
  refine g_iload_n C 3 rfl dX8_follows_7 ?_
  refine g_callS0 C (nA := 3) (k_X8_isOfFact l D ty z1 z2 z3 ) wm_X8_128 ws_X8_isOfFact wi_X8 wc_X8_isOfFact rfl (by decide +kernel) ⟨(Nat.le_of_ble_eq_true rfl), (Nat.le_of_ble_eq_true rfl)⟩ ⟨rfl, rfl⟩ dX8_follows_8 (fun _ _ h => h.2) (Nat.le_of_ble_eq_true rfl) rfl ⟨Nat.zero_le _, Nat.zero_le _⟩ (fun r hp => ?_)
  obtain ⟨rfl, -⟩ := hp
  refine g_st [.int (bI (isFi z1 z2 z3))] rfl ?_
  refine g_if_eqB C (isFi z1 z2 z3) 32 rfl dX8_follows_11 rfl (fun c11 => ?_) (fun c11 => ?_)
  · skip
    refine g_aload_n C 0 rfl dX8_follows_32 ?_
    refine g_iconst C (nI 1) ic_1 dX8_follows_33 ?_
    refine g_callV C (nA := 1) (ci := 6) (q0 := 0) (As := [.int (nI 1)]) (wr := []) (k_X8_fails l D ty x0 0 i1 i2 sd i3 ln j1 j2 j3 j4 j5 j6 fm rd mt dr j7 j8 tt wl j9 lm hs 1 ) wm_X8_131 wn_X8_fails wv_X8_fails wi_X8 wc_X8_fails rfl (by decide +kernel) ⟨(Nat.le_of_ble_eq_true rfl), (Nat.le_of_ble_eq_true rfl)⟩ ⟨rfl, rfl⟩ dX8_follows_34 ⟨Nat.zero_le _, Nat.zero_le _⟩ rfl rfl rfl [0] [] rfl rfl rfl rfl (by decide) (Nat.le_of_ble_eq_true rfl) rfl (fun r W1 hp => ?_)
    obtain ⟨rfl, rfl⟩ := hp
    refine g_fix [.int (nI 0)] [(x0, .inr (6, [.int (nI 1), .ref i1, .ref i2, .int (nI sd), .ref i3, .int (nI ln), .ref j1, .ref j2, .ref j3, .ref j4, .ref j5, .ref j6, .int (nI fm), .int (nI rd), .int (nI mt), .int (nI dr), .ref j7, .ref j8, .int (nI tt), .int (bI (wl)), .ref j9, .int (nI lm), .long (hs)]))] [0] rfl rfl rfl ?_
    exact g_iret E dX8_follows_37 (by decide) (by decide) ⟨rfl, rfl⟩
  · skip
    exact absurd (c11.symm.trans hf) (by decide)
def r_X8_instances_x1 : Room := { frames := 10, cells := 0, slots := 0, locals := 231 }
set_option maxRecDepth 100000 in
set_option maxHeartbeats 4000000 in
theorem k_X8_instances_x1 (l : Launch) (D : va_G) (ty : Nat → ClassId) (x0 : Nat) (th : Nat) (i1 : Nat) (i2 : Nat) (sd : Nat) (i3 : Nat) (ln : Nat) (j1 : Nat) (j2 : Nat) (j3 : Nat) (j4 : Nat) (j5 : Nat) (j6 : Nat) (fm : Nat) (rd : Nat) (mt : Nat) (dr : Nat) (j7 : Nat) (j8 : Nat) (tt : Nat) (wl : Bool) (j9 : Nat) (lm : Nat) (hs : Int64) (z1 : Int32) (z2 : Int32) (z3 : Int32) (hf : isFi z1 z2 z3 = false) : gM l D ty yX8_instances cX8_instances 4 (some (FieldType.int : FieldType)) r_X8_instances_x1 0 0 [.ref x0, .int (z1), .int (z2), .int (z3)] [(x0, .inr (6, [.int (nI th), .ref i1, .ref i2, .int (nI sd), .ref i3, .int (nI ln), .ref j1, .ref j2, .ref j3, .ref j4, .ref j5, .ref j6, .int (nI fm), .int (nI rd), .int (nI mt), .int (nI dr), .ref j7, .ref j8, .int (nI tt), .int (bI (wl)), .ref j9, .int (nI lm), .long (hs)]))] (fun (zr : Option Value) (zW : va_W) => zr = some (.int (nI 0)) ∧ zW = [(x0, .inr (6, [.int (nI 1), .ref i1, .ref i2, .int (nI sd), .ref i3, .int (nI ln), .ref j1, .ref j2, .ref j3, .ref j4, .ref j5, .ref j6, .int (nI fm), .int (nI rd), .int (nI mt), .int (nI dr), .ref j7, .ref j8, .int (nI tt), .int (bI (wl)), .ref j9, .int (nI lm), .long (hs)]))]) := by
  refine gM_of RX8 rfl (by decide +kernel) (Nat.le_of_ble_eq_true rfl) ?_
  intro pg en s0 mi ag bl mth cd AA HH QQ C E hnm
  show gW pg l en r_X8_instances_x1 s0 mi ag bl mth cd 4 D AA HH QQ 0 [(0, .ref x0), (1, .int (z1)), (2, .int (z2)), (3, .int (z3))] [] [(x0, .inr (6, [.int (nI th), .ref i1, .ref i2, .int (nI sd), .ref i3, .int (nI ln), .ref j1, .ref j2, .ref j3, .ref j4, .ref j5, .ref j6, .int (nI fm), .int (nI rd), .int (nI mt), .int (nI dr), .ref j7, .ref j8, .int (nI tt), .int (bI (wl)), .ref j9, .int (nI lm), .long (hs)]))] 0 0
  refine g_aload_n C 0 rfl dX8_instances_0 ?_
  refine g_iconst C (nI 0) ic_0 dX8_instances_1 ?_
  refine g_putf C wu_X8 tyX8 tyX8_ok nmX8 0 rfl rfl 0 (by decide) wf_X8_47 rfl rfl rfl rfl (Nat.le_of_ble_eq_true rfl) dX8_instances_2 [(x0, .inr (6, [.int (nI 0), .ref i1, .ref i2, .int (nI sd), .ref i3, .int (nI ln), .ref j1, .ref j2, .ref j3, .ref j4, .ref j5, .ref j6, .int (nI fm), .int (nI rd), .int (nI mt), .int (nI dr), .ref j7, .ref j8, .int (nI tt), .int (bI (wl)), .ref j9, .int (nI lm), .long (hs)]))] rfl ?_
  refine g_iload_n C 1 rfl dX8_instances_5 ?_
  refine g_iload_n C 2 rfl dX8_instances_6 ?_
  refine g_iload_n C 3 rfl dX8_instances_7 ?_
  refine g_callS0 C (nA := 3) (k_X8_isOfFact l D ty z1 z2 z3 ) wm_X8_128 ws_X8_isOfFact wi_X8 wc_X8_isOfFact rfl (by decide +kernel) ⟨(Nat.le_of_ble_eq_true rfl), (Nat.le_of_ble_eq_true rfl)⟩ ⟨rfl, rfl⟩ dX8_instances_8 (fun _ _ h => h.2) (Nat.le_of_ble_eq_true rfl) rfl ⟨Nat.zero_le _, Nat.zero_le _⟩ (fun r hp => ?_)
  obtain ⟨rfl, -⟩ := hp
  refine g_st [.int (bI (isFi z1 z2 z3))] rfl ?_
  refine g_if_eqB C (isFi z1 z2 z3) 32 rfl dX8_instances_11 rfl (fun c11 => ?_) (fun c11 => ?_)
  · skip
    refine g_aload_n C 0 rfl dX8_instances_32 ?_
    refine g_iconst C (nI 1) ic_1 dX8_instances_33 ?_
    refine g_callV C (nA := 1) (ci := 6) (q0 := 0) (As := [.int (nI 1)]) (wr := []) (k_X8_fails l D ty x0 0 i1 i2 sd i3 ln j1 j2 j3 j4 j5 j6 fm rd mt dr j7 j8 tt wl j9 lm hs 1 ) wm_X8_131 wn_X8_fails wv_X8_fails wi_X8 wc_X8_fails rfl (by decide +kernel) ⟨(Nat.le_of_ble_eq_true rfl), (Nat.le_of_ble_eq_true rfl)⟩ ⟨rfl, rfl⟩ dX8_instances_34 ⟨Nat.zero_le _, Nat.zero_le _⟩ rfl rfl rfl [0] [] rfl rfl rfl rfl (by decide) (Nat.le_of_ble_eq_true rfl) rfl (fun r W1 hp => ?_)
    obtain ⟨rfl, rfl⟩ := hp
    refine g_fix [.int (nI 0)] [(x0, .inr (6, [.int (nI 1), .ref i1, .ref i2, .int (nI sd), .ref i3, .int (nI ln), .ref j1, .ref j2, .ref j3, .ref j4, .ref j5, .ref j6, .int (nI fm), .int (nI rd), .int (nI mt), .int (nI dr), .ref j7, .ref j8, .int (nI tt), .int (bI (wl)), .ref j9, .int (nI lm), .long (hs)]))] [0] rfl rfl rfl ?_
    exact g_iret E dX8_instances_37 (by decide) (by decide) ⟨rfl, rfl⟩
  · skip
    exact absurd (c11.symm.trans hf) (by decide)
def r_X8_untell_ok : Room := { frames := 2, cells := 0, slots := 0, locals := 44 }
set_option maxRecDepth 100000 in
set_option maxHeartbeats 4000000 in
theorem k_X8_untell_ok (l : Launch) (D : va_G) (ty : Nat → ClassId) (x0 : Nat) (th : Nat) (i1 : Nat) (i2 : Nat) (sd : Nat) (i3 : Nat) (ln : Nat) (j1 : Nat) (j2 : Nat) (j3 : Nat) (j4 : Nat) (j5 : Nat) (j6 : Nat) (fm : Nat) (rd : Nat) (mt : Nat) (dr : Nat) (j7 : Nat) (j8 : Nat) (tt : Nat) (wl : Bool) (j9 : Nat) (lm : Nat) (hs : Int64) (T : Nat → Bool) (q : Nat → Nat) (nr : Nat) (R : Nat → Int32) (V : Nat → LT) (a : Nat) (hsd : sd ≤ 6) (hR : okR V sd R) (ha : a < 256) (hf : isF a = true) : gM l D ty yX8_untell cX8_untell 6 (some (FieldType.int : FieldType)) r_X8_untell_ok 0 0 [.ref x0, .int (nI (a / 64)), .int (nI (a / 8 % 8)), .int (nI (a % 8))] [(x0, .inr (6, [.int (nI th), .ref i1, .ref i2, .int (nI sd), .ref i3, .int (nI ln), .ref j1, .ref j2, .ref j3, .ref j4, .ref j5, .ref j6, .int (nI fm), .int (nI rd), .int (nI mt), .int (nI dr), .ref j7, .ref j8, .int (nI tt), .int (bI (wl)), .ref j9, .int (nI lm), .long (hs)])), (i1, .inl (ty 0, 275, .inl (eR (sM T q nr)))), (i2, .inl (ty 0, 1650, .inl (R)))] (fun (zr : Option Value) (zW : va_W) => ∃ (R9 : Nat → Int32), okR (svV V sd (T, q, nr)) (svC sd) R9 ∧ zr = some (.int (nI (if T a = true then 1 else 0))) ∧ zW = [(x0, .inr (6, [.int (nI 0), .ref i1, .ref i2, .int (nI (svC sd)), .ref i3, .int (nI ln), .ref j1, .ref j2, .ref j3, .ref j4, .ref j5, .ref j6, .int (nI fm), .int (nI rd), .int (nI mt), .int (nI dr), .ref j7, .ref j8, .int (nI tt), .int (bI (wl)), .ref j9, .int (nI lm), .long (hs)])), (i1, .inl (ty 0, 275, .inl (eR (sM (zTake T a) q nr)))), (i2, .inl (ty 0, 1650, .inl (R9)))]) := by
  refine gM_of RX8 rfl (by decide +kernel) (Nat.le_of_ble_eq_true rfl) ?_
  intro pg en s0 mi ag bl mth cd AA HH QQ C E hnm
  show gW pg l en r_X8_untell_ok s0 mi ag bl mth cd 6 D AA HH QQ 0 [(0, .ref x0), (1, .int (nI (a / 64))), (2, .int (nI (a / 8 % 8))), (3, .int (nI (a % 8)))] [] [(x0, .inr (6, [.int (nI th), .ref i1, .ref i2, .int (nI sd), .ref i3, .int (nI ln), .ref j1, .ref j2, .ref j3, .ref j4, .ref j5, .ref j6, .int (nI fm), .int (nI rd), .int (nI mt), .int (nI dr), .ref j7, .ref j8, .int (nI tt), .int (bI (wl)), .ref j9, .int (nI lm), .long (hs)])), (i1, .inl (ty 0, 275, .inl (eR (sM T q nr)))), (i2, .inl (ty 0, 1650, .inl (R)))] 0 0
  refine g_aload_n C 0 rfl dX8_untell_0 ?_
  refine g_iconst C (nI 0) ic_0 dX8_untell_1 ?_
  refine g_putf C wu_X8 tyX8 tyX8_ok nmX8 0 rfl rfl 0 (by decide) wf_X8_47 rfl rfl rfl rfl (Nat.le_of_ble_eq_true rfl) dX8_untell_2 [(x0, .inr (6, [.int (nI 0), .ref i1, .ref i2, .int (nI sd), .ref i3, .int (nI ln), .ref j1, .ref j2, .ref j3, .ref j4, .ref j5, .ref j6, .int (nI fm), .int (nI rd), .int (nI mt), .int (nI dr), .ref j7, .ref j8, .int (nI tt), .int (bI (wl)), .ref j9, .int (nI lm), .long (hs)])), (i1, .inl (ty 0, 275, .inl (eR (sM T q nr)))), (i2, .inl (ty 0, 1650, .inl (R)))] rfl ?_
  refine g_iload_n C 1 rfl dX8_untell_5 ?_
  refine g_iload_n C 2 rfl dX8_untell_6 ?_
  refine g_iload_n C 3 rfl dX8_untell_7 ?_
  refine g_callS0 C (nA := 3) (k_X8_isOfFact l D ty ((nI (a / 64))) ((nI (a / 8 % 8))) ((nI (a % 8))) ) wm_X8_128 ws_X8_isOfFact wi_X8 wc_X8_isOfFact rfl (by decide +kernel) ⟨(Nat.le_of_ble_eq_true rfl), (Nat.le_of_ble_eq_true rfl)⟩ ⟨rfl, rfl⟩ dX8_untell_8 (fun _ _ h => h.2) (Nat.le_of_ble_eq_true rfl) rfl ⟨Nat.zero_le _, Nat.zero_le _⟩ (fun r hp => ?_)
  obtain ⟨rfl, -⟩ := hp
  refine g_st [.int (bI (isFi ((nI (a / 64))) ((nI (a / 8 % 8))) ((nI (a % 8)))))] rfl ?_
  refine g_if_neB C (isFi ((nI (a / 64))) ((nI (a / 8 % 8))) ((nI (a % 8)))) 20 rfl dX8_untell_11 rfl (fun c11 => ?_) (fun c11 => ?_)
  · skip
    refine g_aload_n C 0 rfl dX8_untell_20 ?_
    refine g_callV C (nA := 0) (ci := 6) (q0 := 0) (As := []) (wr := []) (k_X8_saves l D ty x0 0 i1 i2 sd i3 ln j1 j2 j3 j4 j5 j6 fm rd mt dr j7 j8 tt wl j9 lm hs T q nr R V hsd hR) wm_X8_138 wn_X8_saves wv_X8_saves wi_X8 wc_X8_saves rfl (by decide +kernel) ⟨(Nat.le_of_ble_eq_true rfl), (Nat.le_of_ble_eq_true rfl)⟩ ⟨rfl, rfl⟩ dX8_untell_21 ⟨Nat.zero_le _, Nat.zero_le _⟩ rfl rfl rfl [0, 1, 2] [] rfl rfl rfl rfl (by decide) (Nat.le_of_ble_eq_true rfl) rfl (fun r W1 hp => ?_)
    obtain ⟨R5, hR5, rfl, rfl⟩ := hp
    refine g_fix [] [(x0, .inr (6, [.int (nI 0), .ref i1, .ref i2, .int (nI (svC sd)), .ref i3, .int (nI ln), .ref j1, .ref j2, .ref j3, .ref j4, .ref j5, .ref j6, .int (nI fm), .int (nI rd), .int (nI mt), .int (nI dr), .ref j7, .ref j8, .int (nI tt), .int (bI (wl)), .ref j9, .int (nI lm), .long (hs)])), (i1, .inl (ty 0, 275, .inl (eR (sM T q nr)))), (i2, .inl (ty 0, 1650, .inl (R5)))] [0, 1, 2] rfl rfl rfl ?_
    refine g_bipush C (nI 64) bp_64 dX8_untell_24 ?_
    refine g_iload_n C 1 rfl dX8_untell_26 ?_
    refine g_imul C (nI (64 * (a / 64))) dX8_untell_27 (pk_mul _ _) ?_
    refine g_bipush C (nI 8) bp_8 dX8_untell_28 ?_
    refine g_iload_n C 2 rfl dX8_untell_30 ?_
    refine g_imul C (nI (8 * (a / 8 % 8))) dX8_untell_31 (pk_mul _ _) ?_
    refine g_iadd C (nI ((64 * (a / 64)) + (8 * (a / 8 % 8)))) dX8_untell_32 (nI_add _ _) ?_
    refine g_iload_n C 3 rfl dX8_untell_33 ?_
    refine g_iadd C (nI (((64 * (a / 64)) + (8 * (a / 8 % 8))) + (a % 8))) dX8_untell_34 (nI_add _ _) ?_
    refine g_st [.int (nI a)] (by rw [show 64 * (a / 64) + 8 * (a / 8 % 8) + a % 8 = a by omega]) ?_
    refine g_istore C [(4, .int (nI a)), (0, .ref x0), (1, .int (nI (a / 64))), (2, .int (nI (a / 8 % 8))), (3, .int (nI (a % 8)))] dX8_untell_35 (by decide) rfl ?_
    refine g_aload_n C 1 rfl dX8_untell_37 ?_
    refine g_getf C wu_X8 0 rfl rfl 1 (by decide) wf_X8_7 rfl rfl dX8_untell_38 ?_
    refine g_iload C 0 rfl dX8_untell_41 ?_
    refine g_iald C 1 rfl a rfl (by omega) (by decide) (nI (if T a = true then 1 else 0)) (sM_T ha) dX8_untell_43 ?_
    refine g_istore C [(5, .int (nI (if T a = true then 1 else 0))), (4, .int (nI a)), (0, .ref x0), (1, .int (nI (a / 64))), (2, .int (nI (a / 8 % 8))), (3, .int (nI (a % 8)))] dX8_untell_44 (by decide) rfl ?_
    refine g_aload_n C 2 rfl dX8_untell_46 ?_
    refine g_getf C wu_X8 0 rfl rfl 1 (by decide) wf_X8_7 rfl rfl dX8_untell_47 ?_
    refine g_iload C 1 rfl dX8_untell_50 ?_
    refine g_iconst C (nI 0) ic_0 dX8_untell_52 ?_
    refine g_iast C 1 rfl a rfl (by omega) (by decide) dX8_untell_53 (eR (sM (zTake T a) q nr)) (sM_take _ _ _ ha) [(x0, .inr (6, [.int (nI 0), .ref i1, .ref i2, .int (nI (svC sd)), .ref i3, .int (nI ln), .ref j1, .ref j2, .ref j3, .ref j4, .ref j5, .ref j6, .int (nI fm), .int (nI rd), .int (nI mt), .int (nI dr), .ref j7, .ref j8, .int (nI tt), .int (bI (wl)), .ref j9, .int (nI lm), .long (hs)])), (i1, .inl (ty 0, 275, .inl (eR (sM (zTake T a) q nr)))), (i2, .inl (ty 0, 1650, .inl (R5)))] rfl ?_
    refine g_iload C 0 rfl dX8_untell_54 ?_
    exact g_iret E dX8_untell_56 (by decide) (by decide) ⟨R5, hR5, rfl, rfl⟩
  · skip
    exact absurd c11 (by rw [isFi_N a ha, hf]; decide)
def r_X8_comesRule : Room := { frames := 0, cells := 0, slots := 0, locals := 0 }
set_option maxRecDepth 100000 in
set_option maxHeartbeats 4000000 in
theorem k_X8_comesRule (l : Launch) (D : va_G) (ty : Nat → ClassId) (x0 : Nat) (th : Nat) (i1 : Nat) (i2 : Nat) (sd : Nat) (i3 : Nat) (ln : Nat) (j1 : Nat) (j2 : Nat) (j3 : Nat) (j4 : Nat) (j5 : Nat) (j6 : Nat) (fm : Nat) (rd : Nat) (mt : Nat) (dr : Nat) (j7 : Nat) (j8 : Nat) (tt : Nat) (wl : Bool) (j9 : Nat) (lm : Nat) (hs : Int64) (T : Nat → Bool) (q : Nat → Nat) (nr : Nat) (h : Nat) (a : Nat) (b : Nat) (hn : nr < 6) (hh : h < 256) (ha : a < 256) : gM l D ty yX8_comesRule cX8_comesRule 5 none r_X8_comesRule 0 0 [.ref x0, .int (nI h), .int (nI a), .int (eA b)] [(x0, .inr (6, [.int (nI th), .ref i1, .ref i2, .int (nI sd), .ref i3, .int (nI ln), .ref j1, .ref j2, .ref j3, .ref j4, .ref j5, .ref j6, .int (nI fm), .int (nI rd), .int (nI mt), .int (nI dr), .ref j7, .ref j8, .int (nI tt), .int (bI (wl)), .ref j9, .int (nI lm), .long (hs)])), (i1, .inl (ty 0, 275, .inl (eR (sM T q nr))))] (fun (zr : Option Value) (zW : va_W) => zr = none ∧ zW = [(x0, .inr (6, [.int (nI th), .ref i1, .ref i2, .int (nI sd), .ref i3, .int (nI ln), .ref j1, .ref j2, .ref j3, .ref j4, .ref j5, .ref j6, .int (nI fm), .int (nI rd), .int (nI mt), .int (nI dr), .ref j7, .ref j8, .int (nI tt), .int (bI (wl)), .ref j9, .int (nI lm), .long (hs)])), (i1, .inl (ty 0, 275, .inl (eR (sM T (aR q nr h a b) (nr + 1)))))]) := by
  refine gM_of RX8 rfl (by decide +kernel) (Nat.le_of_ble_eq_true rfl) ?_
  intro pg en s0 mi ag bl mth cd AA HH QQ C E hnm
  show gW pg l en r_X8_comesRule s0 mi ag bl mth cd 5 D AA HH QQ 0 [(0, .ref x0), (1, .int (nI h)), (2, .int (nI a)), (3, .int (eA b))] [] [(x0, .inr (6, [.int (nI th), .ref i1, .ref i2, .int (nI sd), .ref i3, .int (nI ln), .ref j1, .ref j2, .ref j3, .ref j4, .ref j5, .ref j6, .int (nI fm), .int (nI rd), .int (nI mt), .int (nI dr), .ref j7, .ref j8, .int (nI tt), .int (bI (wl)), .ref j9, .int (nI lm), .long (hs)])), (i1, .inl (ty 0, 275, .inl (eR (sM T q nr))))] 0 0
  refine g_sipush C (nI 257) sp_257 dX8_comesRule_0 ?_
  refine g_iconst C (nI 3) ic_3 dX8_comesRule_3 ?_
  refine g_aload_n C 0 rfl dX8_comesRule_4 ?_
  refine g_getf C wu_X8 0 rfl rfl 1 (by decide) wf_X8_7 rfl rfl dX8_comesRule_5 ?_
  refine g_sipush C (nI 256) sp_256 dX8_comesRule_8 ?_
  refine g_iald C 1 rfl 256 rfl (by omega) (by decide) (nI nr) (sM_n (by omega)) dX8_comesRule_11 ?_
  refine g_imul C (nI (3 * nr)) dX8_comesRule_12 (pk_mul _ _) ?_
  refine g_iadd C (nI (257 + (3 * nr))) dX8_comesRule_13 (nI_add _ _) ?_
  refine g_istore C [(4, .int (nI (257 + (3 * nr)))), (0, .ref x0), (1, .int (nI h)), (2, .int (nI a)), (3, .int (eA b))] dX8_comesRule_14 (by decide) rfl ?_
  refine g_aload_n C 1 rfl dX8_comesRule_16 ?_
  refine g_getf C wu_X8 0 rfl rfl 1 (by decide) wf_X8_7 rfl rfl dX8_comesRule_17 ?_
  refine g_iload C 0 rfl dX8_comesRule_20 ?_
  refine g_iload_n C 2 rfl dX8_comesRule_22 ?_
  refine g_iast C 1 rfl (257 + (3 * nr)) rfl (by omega) (by decide) dX8_comesRule_23 (upd (eR (sM T q nr)) (257 + (3 * nr)) (nI h)) rfl [(x0, .inr (6, [.int (nI th), .ref i1, .ref i2, .int (nI sd), .ref i3, .int (nI ln), .ref j1, .ref j2, .ref j3, .ref j4, .ref j5, .ref j6, .int (nI fm), .int (nI rd), .int (nI mt), .int (nI dr), .ref j7, .ref j8, .int (nI tt), .int (bI (wl)), .ref j9, .int (nI lm), .long (hs)])), (i1, .inl (ty 0, 275, .inl (upd (eR (sM T q nr)) (257 + (3 * nr)) (nI h))))] rfl ?_
  refine g_aload_n C 1 rfl dX8_comesRule_24 ?_
  refine g_getf C wu_X8 0 rfl rfl 1 (by decide) wf_X8_7 rfl rfl dX8_comesRule_25 ?_
  refine g_iload C 0 rfl dX8_comesRule_28 ?_
  refine g_iconst C (nI 1) ic_1 dX8_comesRule_30 ?_
  refine g_iadd C (nI ((257 + (3 * nr)) + 1)) dX8_comesRule_31 (nI_add _ _) ?_
  refine g_iload_n C 3 rfl dX8_comesRule_32 ?_
  refine g_iast C 1 rfl ((257 + (3 * nr)) + 1) rfl (by omega) (by decide) dX8_comesRule_33 (upd (upd (eR (sM T q nr)) (257 + (3 * nr)) (nI h)) ((257 + (3 * nr)) + 1) (nI a)) rfl [(x0, .inr (6, [.int (nI th), .ref i1, .ref i2, .int (nI sd), .ref i3, .int (nI ln), .ref j1, .ref j2, .ref j3, .ref j4, .ref j5, .ref j6, .int (nI fm), .int (nI rd), .int (nI mt), .int (nI dr), .ref j7, .ref j8, .int (nI tt), .int (bI (wl)), .ref j9, .int (nI lm), .long (hs)])), (i1, .inl (ty 0, 275, .inl (upd (upd (eR (sM T q nr)) (257 + (3 * nr)) (nI h)) ((257 + (3 * nr)) + 1) (nI a))))] rfl ?_
  refine g_aload_n C 1 rfl dX8_comesRule_34 ?_
  refine g_getf C wu_X8 0 rfl rfl 1 (by decide) wf_X8_7 rfl rfl dX8_comesRule_35 ?_
  refine g_iload C 0 rfl dX8_comesRule_38 ?_
  refine g_iconst C (nI 2) ic_2 dX8_comesRule_40 ?_
  refine g_iadd C (nI ((257 + (3 * nr)) + 2)) dX8_comesRule_41 (nI_add _ _) ?_
  refine g_iload_n C 4 rfl dX8_comesRule_42 ?_
  refine g_iast C 1 rfl ((257 + (3 * nr)) + 2) rfl (by omega) (by decide) dX8_comesRule_43 (upd (upd (upd (eR (sM T q nr)) (257 + (3 * nr)) (nI h)) ((257 + (3 * nr)) + 1) (nI a)) ((257 + (3 * nr)) + 2) (eA b)) rfl [(x0, .inr (6, [.int (nI th), .ref i1, .ref i2, .int (nI sd), .ref i3, .int (nI ln), .ref j1, .ref j2, .ref j3, .ref j4, .ref j5, .ref j6, .int (nI fm), .int (nI rd), .int (nI mt), .int (nI dr), .ref j7, .ref j8, .int (nI tt), .int (bI (wl)), .ref j9, .int (nI lm), .long (hs)])), (i1, .inl (ty 0, 275, .inl (upd (upd (upd (eR (sM T q nr)) (257 + (3 * nr)) (nI h)) ((257 + (3 * nr)) + 1) (nI a)) ((257 + (3 * nr)) + 2) (eA b))))] rfl ?_
  refine g_aload_n C 1 rfl dX8_comesRule_44 ?_
  refine g_getf C wu_X8 0 rfl rfl 1 (by decide) wf_X8_7 rfl rfl dX8_comesRule_45 ?_
  refine g_sipush C (nI 256) sp_256 dX8_comesRule_48 ?_
  refine g_dup2 C rfl rfl dX8_comesRule_51 ?_
  refine g_iald C 1 rfl 256 rfl (by omega) (by decide) (nI nr) (sM_256 _ _ (by omega)) dX8_comesRule_52 ?_
  refine g_iconst C (nI 1) ic_1 dX8_comesRule_53 ?_
  refine g_iadd C (nI (nr + 1)) dX8_comesRule_54 (nI_add _ _) ?_
  refine g_iast C 1 rfl 256 rfl (by omega) (by decide) dX8_comesRule_55 (eR (sM T (aR q nr h a b) (nr + 1))) (sM_rule _ _ hn hh ha) [(x0, .inr (6, [.int (nI th), .ref i1, .ref i2, .int (nI sd), .ref i3, .int (nI ln), .ref j1, .ref j2, .ref j3, .ref j4, .ref j5, .ref j6, .int (nI fm), .int (nI rd), .int (nI mt), .int (nI dr), .ref j7, .ref j8, .int (nI tt), .int (bI (wl)), .ref j9, .int (nI lm), .long (hs)])), (i1, .inl (ty 0, 275, .inl (eR (sM T (aR q nr h a b) (nr + 1)))))] rfl ?_
  exact g_vret E dX8_comesRule_56 (by decide) (by decide) ⟨rfl, rfl⟩
def r_X8_adds_ok : Room := { frames := 1, cells := 0, slots := 0, locals := 24 }
set_option maxRecDepth 100000 in
set_option maxHeartbeats 4000000 in
theorem k_X8_adds_ok (l : Launch) (D : va_G) (ty : Nat → ClassId) (x0 : Nat) (th : Nat) (i1 : Nat) (i2 : Nat) (sd : Nat) (i3 : Nat) (ln : Nat) (j1 : Nat) (j2 : Nat) (j3 : Nat) (j4 : Nat) (j5 : Nat) (j6 : Nat) (fm : Nat) (rd : Nat) (mt : Nat) (dr : Nat) (j7 : Nat) (j8 : Nat) (tt : Nat) (wl : Bool) (j9 : Nat) (lm : Nat) (hs : Int64) (T : Nat → Bool) (q : Nat → Nat) (nr : Nat) (R : Nat → Int32) (V : Nat → LT) (h : Nat) (a : Nat) (b : Nat) (hsd : sd ≤ 6) (hR : okR V sd R) (hn : nr < 6) (hh : h < 256) (ha : a < 256) (hb : b ≤ 256) : gM l D ty yX8_adds cX8_adds 4 (some (FieldType.int : FieldType)) r_X8_adds_ok 0 0 [.ref x0, .int (nI h), .int (nI a), .int (eA b)] [(x0, .inr (6, [.int (nI th), .ref i1, .ref i2, .int (nI sd), .ref i3, .int (nI ln), .ref j1, .ref j2, .ref j3, .ref j4, .ref j5, .ref j6, .int (nI fm), .int (nI rd), .int (nI mt), .int (nI dr), .ref j7, .ref j8, .int (nI tt), .int (bI (wl)), .ref j9, .int (nI lm), .long (hs)])), (i1, .inl (ty 0, 275, .inl (eR (sM T q nr)))), (i2, .inl (ty 0, 1650, .inl (R)))] (fun (zr : Option Value) (zW : va_W) => ∃ (R9 : Nat → Int32), okR (svV V sd (T, q, nr)) (svC sd) R9 ∧ zr = some (.int (nI nr)) ∧ zW = [(x0, .inr (6, [.int (nI th), .ref i1, .ref i2, .int (nI (svC sd)), .ref i3, .int (nI ln), .ref j1, .ref j2, .ref j3, .ref j4, .ref j5, .ref j6, .int (nI fm), .int (nI rd), .int (nI mt), .int (nI dr), .ref j7, .ref j8, .int (nI tt), .int (bI (wl)), .ref j9, .int (nI lm), .long (hs)])), (i1, .inl (ty 0, 275, .inl (eR (sM T (aR q nr h a b) (nr + 1))))), (i2, .inl (ty 0, 1650, .inl (R9)))]) := by
  refine gM_of RX8 rfl (by decide +kernel) (Nat.le_of_ble_eq_true rfl) ?_
  intro pg en s0 mi ag bl mth cd AA HH QQ C E hnm
  show gW pg l en r_X8_adds_ok s0 mi ag bl mth cd 4 D AA HH QQ 0 [(0, .ref x0), (1, .int (nI h)), (2, .int (nI a)), (3, .int (eA b))] [] [(x0, .inr (6, [.int (nI th), .ref i1, .ref i2, .int (nI sd), .ref i3, .int (nI ln), .ref j1, .ref j2, .ref j3, .ref j4, .ref j5, .ref j6, .int (nI fm), .int (nI rd), .int (nI mt), .int (nI dr), .ref j7, .ref j8, .int (nI tt), .int (bI (wl)), .ref j9, .int (nI lm), .long (hs)])), (i1, .inl (ty 0, 275, .inl (eR (sM T q nr)))), (i2, .inl (ty 0, 1650, .inl (R)))] 0 0
  refine g_iload_n C 1 rfl dX8_adds_0 ?_
  refine g_iconst C (nI 0) ic_0 dX8_adds_1 ?_
  refine g_sipush C (nI 255) sp_255 dX8_adds_2 ?_
  refine g_callS0 C (nA := 3) (k_X8_in l D ty ((nI h)) ((nI 0)) ((nI 255)) ) wm_X8_54 ws_X8_in wi_X8 wc_X8_in rfl (by decide +kernel) ⟨(Nat.le_of_ble_eq_true rfl), (Nat.le_of_ble_eq_true rfl)⟩ ⟨rfl, rfl⟩ dX8_adds_5 (fun _ _ h => h.2) (Nat.le_of_ble_eq_true rfl) rfl ⟨Nat.zero_le _, Nat.zero_le _⟩ (fun r hp => ?_)
  obtain ⟨rfl, -⟩ := hp
  refine g_st [.int (bI (inI ((nI h)) ((nI 0)) ((nI 255))))] rfl ?_
  refine g_if_eqB C (inI ((nI h)) ((nI 0)) ((nI 255))) 33 rfl dX8_adds_8 rfl (fun c8 => ?_) (fun c8 => ?_)
  · skip
    exact absurd c8 (by rw [inI_A, isA_N hh]; decide)
  · skip
    refine g_iload_n C 2 rfl dX8_adds_11 ?_
    refine g_iconst C (nI 0) ic_0 dX8_adds_12 ?_
    refine g_sipush C (nI 255) sp_255 dX8_adds_13 ?_
    refine g_callS0 C (nA := 3) (k_X8_in l D ty ((nI a)) ((nI 0)) ((nI 255)) ) wm_X8_54 ws_X8_in wi_X8 wc_X8_in rfl (by decide +kernel) ⟨(Nat.le_of_ble_eq_true rfl), (Nat.le_of_ble_eq_true rfl)⟩ ⟨rfl, rfl⟩ dX8_adds_16 (fun _ _ h => h.2) (Nat.le_of_ble_eq_true rfl) rfl ⟨Nat.zero_le _, Nat.zero_le _⟩ (fun r hp => ?_)
    obtain ⟨rfl, -⟩ := hp
    refine g_st [.int (bI (inI ((nI a)) ((nI 0)) ((nI 255))))] rfl ?_
    refine g_if_eqB C (inI ((nI a)) ((nI 0)) ((nI 255))) 33 rfl dX8_adds_19 rfl (fun c19 => ?_) (fun c19 => ?_)
    · skip
      exact absurd c19 (by rw [inI_A, isA_N ha]; decide)
    · skip
      refine g_iload_n C 3 rfl dX8_adds_22 ?_
      refine g_iconst C (-1) ic_m1 dX8_adds_23 ?_
      refine g_sipush C (nI 255) sp_255 dX8_adds_24 ?_
      refine g_callS0 C (nA := 3) (k_X8_in l D ty (eA b) (- 1) ((nI 255)) ) wm_X8_54 ws_X8_in wi_X8 wc_X8_in rfl (by decide +kernel) ⟨(Nat.le_of_ble_eq_true rfl), (Nat.le_of_ble_eq_true rfl)⟩ ⟨rfl, rfl⟩ dX8_adds_27 (fun _ _ h => h.2) (Nat.le_of_ble_eq_true rfl) rfl ⟨Nat.zero_le _, Nat.zero_le _⟩ (fun r hp => ?_)
      obtain ⟨rfl, -⟩ := hp
      refine g_st [.int (bI (inI (eA b) (- 1) ((nI 255))))] rfl ?_
      refine g_if_neB C (inI (eA b) (- 1) ((nI 255))) 39 rfl dX8_adds_30 rfl (fun c30 => ?_) (fun c30 => ?_)
      · skip
        refine g_aload_n C 0 rfl dX8_adds_39 ?_
        refine g_getf C wu_X8 0 rfl rfl 1 (by decide) wf_X8_7 rfl rfl dX8_adds_40 ?_
        refine g_sipush C (nI 256) sp_256 dX8_adds_43 ?_
        refine g_iald C 1 rfl 256 rfl (by omega) (by decide) (nI nr) (sM_n (by omega)) dX8_adds_46 ?_
        refine g_bipush C (nI 6) bp_6 dX8_adds_47 ?_
        refine g_icmp_neN C nr 6 58 rfl rfl (by omega) (by omega) dX8_adds_49 rfl (fun c49 => ?_) (fun c49 => ?_)
        · skip
          refine g_aload_n C 0 rfl dX8_adds_58 ?_
          refine g_callV C (nA := 0) (ci := 6) (q0 := 0) (As := []) (wr := []) (k_X8_saves l D ty x0 th i1 i2 sd i3 ln j1 j2 j3 j4 j5 j6 fm rd mt dr j7 j8 tt wl j9 lm hs T q nr R V hsd hR) wm_X8_138 wn_X8_saves wv_X8_saves wi_X8 wc_X8_saves rfl (by decide +kernel) ⟨(Nat.le_of_ble_eq_true rfl), (Nat.le_of_ble_eq_true rfl)⟩ ⟨rfl, rfl⟩ dX8_adds_59 ⟨Nat.zero_le _, Nat.zero_le _⟩ rfl rfl rfl [0, 1, 2] [] rfl rfl rfl rfl (by decide) (Nat.le_of_ble_eq_true rfl) rfl (fun r W1 hp => ?_)
          obtain ⟨R5, hR5, rfl, rfl⟩ := hp
          refine g_fix [] [(x0, .inr (6, [.int (nI th), .ref i1, .ref i2, .int (nI (svC sd)), .ref i3, .int (nI ln), .ref j1, .ref j2, .ref j3, .ref j4, .ref j5, .ref j6, .int (nI fm), .int (nI rd), .int (nI mt), .int (nI dr), .ref j7, .ref j8, .int (nI tt), .int (bI (wl)), .ref j9, .int (nI lm), .long (hs)])), (i1, .inl (ty 0, 275, .inl (eR (sM T q nr)))), (i2, .inl (ty 0, 1650, .inl (R5)))] [0, 1, 2] rfl rfl rfl ?_
          refine g_aload_n C 0 rfl dX8_adds_62 ?_
          refine g_iload_n C 1 rfl dX8_adds_63 ?_
          refine g_iload_n C 2 rfl dX8_adds_64 ?_
          refine g_iload_n C 3 rfl dX8_adds_65 ?_
          refine g_callV C (nA := 3) (ci := 6) (q0 := 0) (As := [.int (nI h), .int (nI a), .int (eA b)]) (wr := [(i2, .inl (ty 0, 1650, .inl (R5)))]) (k_X8_comesRule l D ty x0 th i1 i2 (svC sd) i3 ln j1 j2 j3 j4 j5 j6 fm rd mt dr j7 j8 tt wl j9 lm hs T q nr h a b (by omega) (by omega) (by omega)) wm_X8_141 wn_X8_comesRule wv_X8_comesRule wi_X8 wc_X8_comesRule rfl (by decide +kernel) ⟨(Nat.le_of_ble_eq_true rfl), (Nat.le_of_ble_eq_true rfl)⟩ ⟨rfl, rfl⟩ dX8_adds_66 ⟨Nat.zero_le _, Nat.zero_le _⟩ rfl rfl rfl [0, 1] [2] rfl rfl rfl rfl (by decide) (Nat.le_of_ble_eq_true rfl) rfl (fun r W1 hp => ?_)
          obtain ⟨rfl, rfl⟩ := hp
          refine g_fix [] [(x0, .inr (6, [.int (nI th), .ref i1, .ref i2, .int (nI ((svC sd))), .ref i3, .int (nI ln), .ref j1, .ref j2, .ref j3, .ref j4, .ref j5, .ref j6, .int (nI fm), .int (nI rd), .int (nI mt), .int (nI dr), .ref j7, .ref j8, .int (nI tt), .int (bI (wl)), .ref j9, .int (nI lm), .long (hs)])), (i1, .inl (ty 0, 275, .inl (eR (sM T (aR q nr h a b) (nr + 1))))), (i2, .inl (ty 0, 1650, .inl (R5)))] [1, 2, 0] rfl rfl rfl ?_
          refine g_aload_n C 0 rfl dX8_adds_69 ?_
          refine g_getf C wu_X8 0 rfl rfl 1 (by decide) wf_X8_7 rfl rfl dX8_adds_70 ?_
          refine g_sipush C (nI 256) sp_256 dX8_adds_73 ?_
          refine g_iald C 1 rfl 256 rfl (by omega) (by decide) (nI (nr + 1)) (sM_n (by omega)) dX8_adds_76 ?_
          refine g_iconst C (nI 1) ic_1 dX8_adds_77 ?_
          refine g_isub C (nI ((nr + 1) - 1)) dX8_adds_78 (pk_sub (by omega)) ?_
          exact g_iret E dX8_adds_79 (by decide) (by decide) ⟨R5, hR5, rfl, rfl⟩
        · skip
          exact absurd c49 (by omega)
      · skip
        exact absurd c30 (by rw [inI_b b (by omega)]; decide)
def r_X8_adds_x2 : Room := { frames := 1, cells := 0, slots := 0, locals := 24 }
set_option maxRecDepth 100000 in
set_option maxHeartbeats 4000000 in
theorem k_X8_adds_x2 (l : Launch) (D : va_G) (ty : Nat → ClassId) (x0 : Nat) (th : Nat) (i1 : Nat) (i2 : Nat) (sd : Nat) (i3 : Nat) (ln : Nat) (j1 : Nat) (j2 : Nat) (j3 : Nat) (j4 : Nat) (j5 : Nat) (j6 : Nat) (fm : Nat) (rd : Nat) (mt : Nat) (dr : Nat) (j7 : Nat) (j8 : Nat) (tt : Nat) (wl : Bool) (j9 : Nat) (lm : Nat) (hs : Int64) (T : Nat → Bool) (q : Nat → Nat) (nr : Nat) (h : Nat) (a : Nat) (b : Nat) (hn : nr = 6) (hh : h < 256) (ha : a < 256) (hb : b ≤ 256) : gM l D ty yX8_adds cX8_adds 4 (some (FieldType.int : FieldType)) r_X8_adds_x2 0 0 [.ref x0, .int (nI h), .int (nI a), .int (eA b)] [(x0, .inr (6, [.int (nI th), .ref i1, .ref i2, .int (nI sd), .ref i3, .int (nI ln), .ref j1, .ref j2, .ref j3, .ref j4, .ref j5, .ref j6, .int (nI fm), .int (nI rd), .int (nI mt), .int (nI dr), .ref j7, .ref j8, .int (nI tt), .int (bI (wl)), .ref j9, .int (nI lm), .long (hs)])), (i1, .inl (ty 0, 275, .inl (eR (sM T q nr))))] (fun (zr : Option Value) (zW : va_W) => zr = some (.int (nI 0)) ∧ zW = [(x0, .inr (6, [.int (nI 2), .ref i1, .ref i2, .int (nI sd), .ref i3, .int (nI ln), .ref j1, .ref j2, .ref j3, .ref j4, .ref j5, .ref j6, .int (nI fm), .int (nI rd), .int (nI mt), .int (nI dr), .ref j7, .ref j8, .int (nI tt), .int (bI (wl)), .ref j9, .int (nI lm), .long (hs)])), (i1, .inl (ty 0, 275, .inl (eR (sM T q nr))))]) := by
  refine gM_of RX8 rfl (by decide +kernel) (Nat.le_of_ble_eq_true rfl) ?_
  intro pg en s0 mi ag bl mth cd AA HH QQ C E hnm
  show gW pg l en r_X8_adds_x2 s0 mi ag bl mth cd 4 D AA HH QQ 0 [(0, .ref x0), (1, .int (nI h)), (2, .int (nI a)), (3, .int (eA b))] [] [(x0, .inr (6, [.int (nI th), .ref i1, .ref i2, .int (nI sd), .ref i3, .int (nI ln), .ref j1, .ref j2, .ref j3, .ref j4, .ref j5, .ref j6, .int (nI fm), .int (nI rd), .int (nI mt), .int (nI dr), .ref j7, .ref j8, .int (nI tt), .int (bI (wl)), .ref j9, .int (nI lm), .long (hs)])), (i1, .inl (ty 0, 275, .inl (eR (sM T q nr))))] 0 0
  refine g_iload_n C 1 rfl dX8_adds_0 ?_
  refine g_iconst C (nI 0) ic_0 dX8_adds_1 ?_
  refine g_sipush C (nI 255) sp_255 dX8_adds_2 ?_
  refine g_callS0 C (nA := 3) (k_X8_in l D ty ((nI h)) ((nI 0)) ((nI 255)) ) wm_X8_54 ws_X8_in wi_X8 wc_X8_in rfl (by decide +kernel) ⟨(Nat.le_of_ble_eq_true rfl), (Nat.le_of_ble_eq_true rfl)⟩ ⟨rfl, rfl⟩ dX8_adds_5 (fun _ _ h => h.2) (Nat.le_of_ble_eq_true rfl) rfl ⟨Nat.zero_le _, Nat.zero_le _⟩ (fun r hp => ?_)
  obtain ⟨rfl, -⟩ := hp
  refine g_st [.int (bI (inI ((nI h)) ((nI 0)) ((nI 255))))] rfl ?_
  refine g_if_eqB C (inI ((nI h)) ((nI 0)) ((nI 255))) 33 rfl dX8_adds_8 rfl (fun c8 => ?_) (fun c8 => ?_)
  · skip
    exact absurd c8 (by rw [inI_A, isA_N hh]; decide)
  · skip
    refine g_iload_n C 2 rfl dX8_adds_11 ?_
    refine g_iconst C (nI 0) ic_0 dX8_adds_12 ?_
    refine g_sipush C (nI 255) sp_255 dX8_adds_13 ?_
    refine g_callS0 C (nA := 3) (k_X8_in l D ty ((nI a)) ((nI 0)) ((nI 255)) ) wm_X8_54 ws_X8_in wi_X8 wc_X8_in rfl (by decide +kernel) ⟨(Nat.le_of_ble_eq_true rfl), (Nat.le_of_ble_eq_true rfl)⟩ ⟨rfl, rfl⟩ dX8_adds_16 (fun _ _ h => h.2) (Nat.le_of_ble_eq_true rfl) rfl ⟨Nat.zero_le _, Nat.zero_le _⟩ (fun r hp => ?_)
    obtain ⟨rfl, -⟩ := hp
    refine g_st [.int (bI (inI ((nI a)) ((nI 0)) ((nI 255))))] rfl ?_
    refine g_if_eqB C (inI ((nI a)) ((nI 0)) ((nI 255))) 33 rfl dX8_adds_19 rfl (fun c19 => ?_) (fun c19 => ?_)
    · skip
      exact absurd c19 (by rw [inI_A, isA_N ha]; decide)
    · skip
      refine g_iload_n C 3 rfl dX8_adds_22 ?_
      refine g_iconst C (-1) ic_m1 dX8_adds_23 ?_
      refine g_sipush C (nI 255) sp_255 dX8_adds_24 ?_
      refine g_callS0 C (nA := 3) (k_X8_in l D ty (eA b) (- 1) ((nI 255)) ) wm_X8_54 ws_X8_in wi_X8 wc_X8_in rfl (by decide +kernel) ⟨(Nat.le_of_ble_eq_true rfl), (Nat.le_of_ble_eq_true rfl)⟩ ⟨rfl, rfl⟩ dX8_adds_27 (fun _ _ h => h.2) (Nat.le_of_ble_eq_true rfl) rfl ⟨Nat.zero_le _, Nat.zero_le _⟩ (fun r hp => ?_)
      obtain ⟨rfl, -⟩ := hp
      refine g_st [.int (bI (inI (eA b) (- 1) ((nI 255))))] rfl ?_
      refine g_if_neB C (inI (eA b) (- 1) ((nI 255))) 39 rfl dX8_adds_30 rfl (fun c30 => ?_) (fun c30 => ?_)
      · skip
        refine g_aload_n C 0 rfl dX8_adds_39 ?_
        refine g_getf C wu_X8 0 rfl rfl 1 (by decide) wf_X8_7 rfl rfl dX8_adds_40 ?_
        refine g_sipush C (nI 256) sp_256 dX8_adds_43 ?_
        refine g_iald C 1 rfl 256 rfl (by omega) (by decide) (nI nr) (sM_n (by omega)) dX8_adds_46 ?_
        refine g_bipush C (nI 6) bp_6 dX8_adds_47 ?_
        refine g_icmp_neN C nr 6 58 rfl rfl (by omega) (by omega) dX8_adds_49 rfl (fun c49 => ?_) (fun c49 => ?_)
        · skip
          exact absurd hn c49
        · skip
          refine g_aload_n C 0 rfl dX8_adds_52 ?_
          refine g_iconst C (nI 2) ic_2 dX8_adds_53 ?_
          refine g_callV C (nA := 1) (ci := 6) (q0 := 0) (As := [.int (nI 2)]) (wr := [(i1, .inl (ty 0, 275, .inl (eR (sM T q nr))))]) (k_X8_fails l D ty x0 th i1 i2 sd i3 ln j1 j2 j3 j4 j5 j6 fm rd mt dr j7 j8 tt wl j9 lm hs 2 ) wm_X8_131 wn_X8_fails wv_X8_fails wi_X8 wc_X8_fails rfl (by decide +kernel) ⟨(Nat.le_of_ble_eq_true rfl), (Nat.le_of_ble_eq_true rfl)⟩ ⟨rfl, rfl⟩ dX8_adds_54 ⟨Nat.zero_le _, Nat.zero_le _⟩ rfl rfl rfl [0] [1] rfl rfl rfl rfl (by decide) (Nat.le_of_ble_eq_true rfl) rfl (fun r W1 hp => ?_)
          obtain ⟨rfl, rfl⟩ := hp
          refine g_fix [.int (nI 0)] [(x0, .inr (6, [.int (nI 2), .ref i1, .ref i2, .int (nI sd), .ref i3, .int (nI ln), .ref j1, .ref j2, .ref j3, .ref j4, .ref j5, .ref j6, .int (nI fm), .int (nI rd), .int (nI mt), .int (nI dr), .ref j7, .ref j8, .int (nI tt), .int (bI (wl)), .ref j9, .int (nI lm), .long (hs)])), (i1, .inl (ty 0, 275, .inl (eR (sM T q nr))))] [1, 0] rfl rfl rfl ?_
          exact g_iret E dX8_adds_57 (by decide) (by decide) ⟨rfl, rfl⟩
      · skip
        exact absurd c30 (by rw [inI_b b (by omega)]; decide)
def r_X8_adds_x1 : Room := { frames := 1, cells := 0, slots := 0, locals := 24 }
set_option maxRecDepth 100000 in
set_option maxHeartbeats 4000000 in
theorem k_X8_adds_x1 (l : Launch) (D : va_G) (ty : Nat → ClassId) (x0 : Nat) (th : Nat) (i1 : Nat) (i2 : Nat) (sd : Nat) (i3 : Nat) (ln : Nat) (j1 : Nat) (j2 : Nat) (j3 : Nat) (j4 : Nat) (j5 : Nat) (j6 : Nat) (fm : Nat) (rd : Nat) (mt : Nat) (dr : Nat) (j7 : Nat) (j8 : Nat) (tt : Nat) (wl : Bool) (j9 : Nat) (lm : Nat) (hs : Int64) (z1 : Int32) (z2 : Int32) (z3 : Int32) (hz : isA z1 = false ∨ isA z2 = false ∨ inI z3 (-1) (nI 255) = false) : gM l D ty yX8_adds cX8_adds 4 (some (FieldType.int : FieldType)) r_X8_adds_x1 0 0 [.ref x0, .int (z1), .int (z2), .int (z3)] [(x0, .inr (6, [.int (nI th), .ref i1, .ref i2, .int (nI sd), .ref i3, .int (nI ln), .ref j1, .ref j2, .ref j3, .ref j4, .ref j5, .ref j6, .int (nI fm), .int (nI rd), .int (nI mt), .int (nI dr), .ref j7, .ref j8, .int (nI tt), .int (bI (wl)), .ref j9, .int (nI lm), .long (hs)]))] (fun (zr : Option Value) (zW : va_W) => zr = some (.int (nI 0)) ∧ zW = [(x0, .inr (6, [.int (nI 1), .ref i1, .ref i2, .int (nI sd), .ref i3, .int (nI ln), .ref j1, .ref j2, .ref j3, .ref j4, .ref j5, .ref j6, .int (nI fm), .int (nI rd), .int (nI mt), .int (nI dr), .ref j7, .ref j8, .int (nI tt), .int (bI (wl)), .ref j9, .int (nI lm), .long (hs)]))]) := by
  refine gM_of RX8 rfl (by decide +kernel) (Nat.le_of_ble_eq_true rfl) ?_
  intro pg en s0 mi ag bl mth cd AA HH QQ C E hnm
  show gW pg l en r_X8_adds_x1 s0 mi ag bl mth cd 4 D AA HH QQ 0 [(0, .ref x0), (1, .int (z1)), (2, .int (z2)), (3, .int (z3))] [] [(x0, .inr (6, [.int (nI th), .ref i1, .ref i2, .int (nI sd), .ref i3, .int (nI ln), .ref j1, .ref j2, .ref j3, .ref j4, .ref j5, .ref j6, .int (nI fm), .int (nI rd), .int (nI mt), .int (nI dr), .ref j7, .ref j8, .int (nI tt), .int (bI (wl)), .ref j9, .int (nI lm), .long (hs)]))] 0 0
  refine g_iload_n C 1 rfl dX8_adds_0 ?_
  refine g_iconst C (nI 0) ic_0 dX8_adds_1 ?_
  refine g_sipush C (nI 255) sp_255 dX8_adds_2 ?_
  refine g_callS0 C (nA := 3) (k_X8_in l D ty z1 ((nI 0)) ((nI 255)) ) wm_X8_54 ws_X8_in wi_X8 wc_X8_in rfl (by decide +kernel) ⟨(Nat.le_of_ble_eq_true rfl), (Nat.le_of_ble_eq_true rfl)⟩ ⟨rfl, rfl⟩ dX8_adds_5 (fun _ _ h => h.2) (Nat.le_of_ble_eq_true rfl) rfl ⟨Nat.zero_le _, Nat.zero_le _⟩ (fun r hp => ?_)
  obtain ⟨rfl, -⟩ := hp
  refine g_st [.int (bI (inI z1 ((nI 0)) ((nI 255))))] rfl ?_
  refine g_if_eqB C (inI z1 ((nI 0)) ((nI 255))) 33 rfl dX8_adds_8 rfl (fun c8 => ?_) (fun c8 => ?_)
  · skip
    refine g_aload_n C 0 rfl dX8_adds_33 ?_
    refine g_iconst C (nI 1) ic_1 dX8_adds_34 ?_
    refine g_callV C (nA := 1) (ci := 6) (q0 := 0) (As := [.int (nI 1)]) (wr := []) (k_X8_fails l D ty x0 th i1 i2 sd i3 ln j1 j2 j3 j4 j5 j6 fm rd mt dr j7 j8 tt wl j9 lm hs 1 ) wm_X8_131 wn_X8_fails wv_X8_fails wi_X8 wc_X8_fails rfl (by decide +kernel) ⟨(Nat.le_of_ble_eq_true rfl), (Nat.le_of_ble_eq_true rfl)⟩ ⟨rfl, rfl⟩ dX8_adds_35 ⟨Nat.zero_le _, Nat.zero_le _⟩ rfl rfl rfl [0] [] rfl rfl rfl rfl (by decide) (Nat.le_of_ble_eq_true rfl) rfl (fun r W1 hp => ?_)
    obtain ⟨rfl, rfl⟩ := hp
    refine g_fix [.int (nI 0)] [(x0, .inr (6, [.int (nI 1), .ref i1, .ref i2, .int (nI sd), .ref i3, .int (nI ln), .ref j1, .ref j2, .ref j3, .ref j4, .ref j5, .ref j6, .int (nI fm), .int (nI rd), .int (nI mt), .int (nI dr), .ref j7, .ref j8, .int (nI tt), .int (bI (wl)), .ref j9, .int (nI lm), .long (hs)]))] [0] rfl rfl rfl ?_
    exact g_iret E dX8_adds_38 (by decide) (by decide) ⟨rfl, rfl⟩
  · skip
    refine g_iload_n C 2 rfl dX8_adds_11 ?_
    refine g_iconst C (nI 0) ic_0 dX8_adds_12 ?_
    refine g_sipush C (nI 255) sp_255 dX8_adds_13 ?_
    refine g_callS0 C (nA := 3) (k_X8_in l D ty z2 ((nI 0)) ((nI 255)) ) wm_X8_54 ws_X8_in wi_X8 wc_X8_in rfl (by decide +kernel) ⟨(Nat.le_of_ble_eq_true rfl), (Nat.le_of_ble_eq_true rfl)⟩ ⟨rfl, rfl⟩ dX8_adds_16 (fun _ _ h => h.2) (Nat.le_of_ble_eq_true rfl) rfl ⟨Nat.zero_le _, Nat.zero_le _⟩ (fun r hp => ?_)
    obtain ⟨rfl, -⟩ := hp
    refine g_st [.int (bI (inI z2 ((nI 0)) ((nI 255))))] rfl ?_
    refine g_if_eqB C (inI z2 ((nI 0)) ((nI 255))) 33 rfl dX8_adds_19 rfl (fun c19 => ?_) (fun c19 => ?_)
    · skip
      refine g_aload_n C 0 rfl dX8_adds_33 ?_
      refine g_iconst C (nI 1) ic_1 dX8_adds_34 ?_
      refine g_callV C (nA := 1) (ci := 6) (q0 := 0) (As := [.int (nI 1)]) (wr := []) (k_X8_fails l D ty x0 th i1 i2 sd i3 ln j1 j2 j3 j4 j5 j6 fm rd mt dr j7 j8 tt wl j9 lm hs 1 ) wm_X8_131 wn_X8_fails wv_X8_fails wi_X8 wc_X8_fails rfl (by decide +kernel) ⟨(Nat.le_of_ble_eq_true rfl), (Nat.le_of_ble_eq_true rfl)⟩ ⟨rfl, rfl⟩ dX8_adds_35 ⟨Nat.zero_le _, Nat.zero_le _⟩ rfl rfl rfl [0] [] rfl rfl rfl rfl (by decide) (Nat.le_of_ble_eq_true rfl) rfl (fun r W1 hp => ?_)
      obtain ⟨rfl, rfl⟩ := hp
      refine g_fix [.int (nI 0)] [(x0, .inr (6, [.int (nI 1), .ref i1, .ref i2, .int (nI sd), .ref i3, .int (nI ln), .ref j1, .ref j2, .ref j3, .ref j4, .ref j5, .ref j6, .int (nI fm), .int (nI rd), .int (nI mt), .int (nI dr), .ref j7, .ref j8, .int (nI tt), .int (bI (wl)), .ref j9, .int (nI lm), .long (hs)]))] [0] rfl rfl rfl ?_
      exact g_iret E dX8_adds_38 (by decide) (by decide) ⟨rfl, rfl⟩
    · skip
      refine g_iload_n C 3 rfl dX8_adds_22 ?_
      refine g_iconst C (-1) ic_m1 dX8_adds_23 ?_
      refine g_sipush C (nI 255) sp_255 dX8_adds_24 ?_
      refine g_callS0 C (nA := 3) (k_X8_in l D ty z3 (- 1) ((nI 255)) ) wm_X8_54 ws_X8_in wi_X8 wc_X8_in rfl (by decide +kernel) ⟨(Nat.le_of_ble_eq_true rfl), (Nat.le_of_ble_eq_true rfl)⟩ ⟨rfl, rfl⟩ dX8_adds_27 (fun _ _ h => h.2) (Nat.le_of_ble_eq_true rfl) rfl ⟨Nat.zero_le _, Nat.zero_le _⟩ (fun r hp => ?_)
      obtain ⟨rfl, -⟩ := hp
      refine g_st [.int (bI (inI z3 (- 1) ((nI 255))))] rfl ?_
      refine g_if_neB C (inI z3 (- 1) ((nI 255))) 39 rfl dX8_adds_30 rfl (fun c30 => ?_) (fun c30 => ?_)
      · skip
        exact absurd hz (by rw [← inI_A, ← inI_A, c8, c19, c30]; decide)
      · skip
        refine g_aload_n C 0 rfl dX8_adds_33 ?_
        refine g_iconst C (nI 1) ic_1 dX8_adds_34 ?_
        refine g_callV C (nA := 1) (ci := 6) (q0 := 0) (As := [.int (nI 1)]) (wr := []) (k_X8_fails l D ty x0 th i1 i2 sd i3 ln j1 j2 j3 j4 j5 j6 fm rd mt dr j7 j8 tt wl j9 lm hs 1 ) wm_X8_131 wn_X8_fails wv_X8_fails wi_X8 wc_X8_fails rfl (by decide +kernel) ⟨(Nat.le_of_ble_eq_true rfl), (Nat.le_of_ble_eq_true rfl)⟩ ⟨rfl, rfl⟩ dX8_adds_35 ⟨Nat.zero_le _, Nat.zero_le _⟩ rfl rfl rfl [0] [] rfl rfl rfl rfl (by decide) (Nat.le_of_ble_eq_true rfl) rfl (fun r W1 hp => ?_)
        obtain ⟨rfl, rfl⟩ := hp
        refine g_fix [.int (nI 0)] [(x0, .inr (6, [.int (nI 1), .ref i1, .ref i2, .int (nI sd), .ref i3, .int (nI ln), .ref j1, .ref j2, .ref j3, .ref j4, .ref j5, .ref j6, .int (nI fm), .int (nI rd), .int (nI mt), .int (nI dr), .ref j7, .ref j8, .int (nI tt), .int (bI (wl)), .ref j9, .int (nI lm), .long (hs)]))] [0] rfl rfl rfl ?_
        exact g_iret E dX8_adds_38 (by decide) (by decide) ⟨rfl, rfl⟩
def r_X8_rule_ok : Room := { frames := 2, cells := 0, slots := 0, locals := 47 }
set_option maxRecDepth 100000 in
set_option maxHeartbeats 4000000 in
theorem k_X8_rule_ok (l : Launch) (D : va_G) (ty : Nat → ClassId) (x0 : Nat) (th : Nat) (i1 : Nat) (i2 : Nat) (sd : Nat) (i3 : Nat) (ln : Nat) (j1 : Nat) (j2 : Nat) (j3 : Nat) (j4 : Nat) (j5 : Nat) (j6 : Nat) (fm : Nat) (rd : Nat) (mt : Nat) (dr : Nat) (j7 : Nat) (j8 : Nat) (tt : Nat) (wl : Bool) (j9 : Nat) (lm : Nat) (hs : Int64) (T : Nat → Bool) (q : Nat → Nat) (nr : Nat) (R : Nat → Int32) (V : Nat → LT) (h : Nat) (a : Nat) (hsd : sd ≤ 6) (hR : okR V sd R) (hn : nr < 6) (hh : h < 256) (ha : a < 256) : gM l D ty yX8_rule cX8_rule 3 (some (FieldType.int : FieldType)) r_X8_rule_ok 0 0 [.ref x0, .int (nI h), .int (nI a)] [(x0, .inr (6, [.int (nI th), .ref i1, .ref i2, .int (nI sd), .ref i3, .int (nI ln), .ref j1, .ref j2, .ref j3, .ref j4, .ref j5, .ref j6, .int (nI fm), .int (nI rd), .int (nI mt), .int (nI dr), .ref j7, .ref j8, .int (nI tt), .int (bI (wl)), .ref j9, .int (nI lm), .long (hs)])), (i1, .inl (ty 0, 275, .inl (eR (sM T q nr)))), (i2, .inl (ty 0, 1650, .inl (R)))] (fun (zr : Option Value) (zW : va_W) => ∃ (R9 : Nat → Int32), okR (svV V sd (T, q, nr)) (svC sd) R9 ∧ zr = some (.int (nI nr)) ∧ zW = [(x0, .inr (6, [.int (nI 0), .ref i1, .ref i2, .int (nI (svC sd)), .ref i3, .int (nI ln), .ref j1, .ref j2, .ref j3, .ref j4, .ref j5, .ref j6, .int (nI fm), .int (nI rd), .int (nI mt), .int (nI dr), .ref j7, .ref j8, .int (nI tt), .int (bI (wl)), .ref j9, .int (nI lm), .long (hs)])), (i1, .inl (ty 0, 275, .inl (eR (sM T (aR q nr h a 256) (nr + 1))))), (i2, .inl (ty 0, 1650, .inl (R9)))]) := by
  refine gM_of RX8 rfl (by decide +kernel) (Nat.le_of_ble_eq_true rfl) ?_
  intro pg en s0 mi ag bl mth cd AA HH QQ C E hnm
  show gW pg l en r_X8_rule_ok s0 mi ag bl mth cd 3 D AA HH QQ 0 [(0, .ref x0), (1, .int (nI h)), (2, .int (nI a))] [] [(x0, .inr (6, [.int (nI th), .ref i1, .ref i2, .int (nI sd), .ref i3, .int (nI ln), .ref j1, .ref j2, .ref j3, .ref j4, .ref j5, .ref j6, .int (nI fm), .int (nI rd), .int (nI mt), .int (nI dr), .ref j7, .ref j8, .int (nI tt), .int (bI (wl)), .ref j9, .int (nI lm), .long (hs)])), (i1, .inl (ty 0, 275, .inl (eR (sM T q nr)))), (i2, .inl (ty 0, 1650, .inl (R)))] 0 0
  refine g_aload_n C 0 rfl dX8_rule_0 ?_
  refine g_iconst C (nI 0) ic_0 dX8_rule_1 ?_
  refine g_putf C wu_X8 tyX8 tyX8_ok nmX8 0 rfl rfl 0 (by decide) wf_X8_47 rfl rfl rfl rfl (Nat.le_of_ble_eq_true rfl) dX8_rule_2 [(x0, .inr (6, [.int (nI 0), .ref i1, .ref i2, .int (nI sd), .ref i3, .int (nI ln), .ref j1, .ref j2, .ref j3, .ref j4, .ref j5, .ref j6, .int (nI fm), .int (nI rd), .int (nI mt), .int (nI dr), .ref j7, .ref j8, .int (nI tt), .int (bI (wl)), .ref j9, .int (nI lm), .long (hs)])), (i1, .inl (ty 0, 275, .inl (eR (sM T q nr)))), (i2, .inl (ty 0, 1650, .inl (R)))] rfl ?_
  refine g_aload_n C 0 rfl dX8_rule_5 ?_
  refine g_iload_n C 1 rfl dX8_rule_6 ?_
  refine g_iload_n C 2 rfl dX8_rule_7 ?_
  refine g_iconst C (-1) ic_m1 dX8_rule_8 ?_
  refine g_st [.int (eA 256), .int (nI a), .int (nI h), .ref x0] rfl ?_
  refine g_callV C (nA := 3) (ci := 6) (q0 := 0) (As := [.int (nI h), .int (nI a), .int (eA 256)]) (wr := []) (k_X8_adds_ok l D ty x0 0 i1 i2 sd i3 ln j1 j2 j3 j4 j5 j6 fm rd mt dr j7 j8 tt wl j9 lm hs T q nr R V h a 256 hsd hR (by omega) (by omega) (by omega) (by omega)) wm_X8_144 wn_X8_adds wv_X8_adds wi_X8 wc_X8_adds rfl (by decide +kernel) ⟨(Nat.le_of_ble_eq_true rfl), (Nat.le_of_ble_eq_true rfl)⟩ ⟨rfl, rfl⟩ dX8_rule_9 ⟨Nat.zero_le _, Nat.zero_le _⟩ rfl rfl rfl [0, 1, 2] [] rfl rfl rfl rfl (by decide) (Nat.le_of_ble_eq_true rfl) rfl (fun r W1 hp => ?_)
  obtain ⟨R5, hR5, rfl, rfl⟩ := hp
  refine g_fix [.int (nI nr)] [(x0, .inr (6, [.int (nI 0), .ref i1, .ref i2, .int (nI (svC sd)), .ref i3, .int (nI ln), .ref j1, .ref j2, .ref j3, .ref j4, .ref j5, .ref j6, .int (nI fm), .int (nI rd), .int (nI mt), .int (nI dr), .ref j7, .ref j8, .int (nI tt), .int (bI (wl)), .ref j9, .int (nI lm), .long (hs)])), (i1, .inl (ty 0, 275, .inl (eR (sM T (aR q nr h a 256) (nr + 1))))), (i2, .inl (ty 0, 1650, .inl (R5)))] [0, 1, 2] rfl rfl rfl ?_
  exact g_iret E dX8_rule_12 (by decide) (by decide) ⟨R5, hR5, rfl, rfl⟩
def r_X8_rule_x2 : Room := { frames := 2, cells := 0, slots := 0, locals := 47 }
set_option maxRecDepth 100000 in
set_option maxHeartbeats 4000000 in
theorem k_X8_rule_x2 (l : Launch) (D : va_G) (ty : Nat → ClassId) (x0 : Nat) (th : Nat) (i1 : Nat) (i2 : Nat) (sd : Nat) (i3 : Nat) (ln : Nat) (j1 : Nat) (j2 : Nat) (j3 : Nat) (j4 : Nat) (j5 : Nat) (j6 : Nat) (fm : Nat) (rd : Nat) (mt : Nat) (dr : Nat) (j7 : Nat) (j8 : Nat) (tt : Nat) (wl : Bool) (j9 : Nat) (lm : Nat) (hs : Int64) (T : Nat → Bool) (q : Nat → Nat) (nr : Nat) (h : Nat) (a : Nat) (hn : nr = 6) (hh : h < 256) (ha : a < 256) : gM l D ty yX8_rule cX8_rule 3 (some (FieldType.int : FieldType)) r_X8_rule_x2 0 0 [.ref x0, .int (nI h), .int (nI a)] [(x0, .inr (6, [.int (nI th), .ref i1, .ref i2, .int (nI sd), .ref i3, .int (nI ln), .ref j1, .ref j2, .ref j3, .ref j4, .ref j5, .ref j6, .int (nI fm), .int (nI rd), .int (nI mt), .int (nI dr), .ref j7, .ref j8, .int (nI tt), .int (bI (wl)), .ref j9, .int (nI lm), .long (hs)])), (i1, .inl (ty 0, 275, .inl (eR (sM T q nr))))] (fun (zr : Option Value) (zW : va_W) => zr = some (.int (nI 0)) ∧ zW = [(x0, .inr (6, [.int (nI 2), .ref i1, .ref i2, .int (nI sd), .ref i3, .int (nI ln), .ref j1, .ref j2, .ref j3, .ref j4, .ref j5, .ref j6, .int (nI fm), .int (nI rd), .int (nI mt), .int (nI dr), .ref j7, .ref j8, .int (nI tt), .int (bI (wl)), .ref j9, .int (nI lm), .long (hs)])), (i1, .inl (ty 0, 275, .inl (eR (sM T q nr))))]) := by
  refine gM_of RX8 rfl (by decide +kernel) (Nat.le_of_ble_eq_true rfl) ?_
  intro pg en s0 mi ag bl mth cd AA HH QQ C E hnm
  show gW pg l en r_X8_rule_x2 s0 mi ag bl mth cd 3 D AA HH QQ 0 [(0, .ref x0), (1, .int (nI h)), (2, .int (nI a))] [] [(x0, .inr (6, [.int (nI th), .ref i1, .ref i2, .int (nI sd), .ref i3, .int (nI ln), .ref j1, .ref j2, .ref j3, .ref j4, .ref j5, .ref j6, .int (nI fm), .int (nI rd), .int (nI mt), .int (nI dr), .ref j7, .ref j8, .int (nI tt), .int (bI (wl)), .ref j9, .int (nI lm), .long (hs)])), (i1, .inl (ty 0, 275, .inl (eR (sM T q nr))))] 0 0
  refine g_aload_n C 0 rfl dX8_rule_0 ?_
  refine g_iconst C (nI 0) ic_0 dX8_rule_1 ?_
  refine g_putf C wu_X8 tyX8 tyX8_ok nmX8 0 rfl rfl 0 (by decide) wf_X8_47 rfl rfl rfl rfl (Nat.le_of_ble_eq_true rfl) dX8_rule_2 [(x0, .inr (6, [.int (nI 0), .ref i1, .ref i2, .int (nI sd), .ref i3, .int (nI ln), .ref j1, .ref j2, .ref j3, .ref j4, .ref j5, .ref j6, .int (nI fm), .int (nI rd), .int (nI mt), .int (nI dr), .ref j7, .ref j8, .int (nI tt), .int (bI (wl)), .ref j9, .int (nI lm), .long (hs)])), (i1, .inl (ty 0, 275, .inl (eR (sM T q nr))))] rfl ?_
  refine g_aload_n C 0 rfl dX8_rule_5 ?_
  refine g_iload_n C 1 rfl dX8_rule_6 ?_
  refine g_iload_n C 2 rfl dX8_rule_7 ?_
  refine g_iconst C (-1) ic_m1 dX8_rule_8 ?_
  refine g_st [.int (eA 256), .int (nI a), .int (nI h), .ref x0] rfl ?_
  refine g_callV C (nA := 3) (ci := 6) (q0 := 0) (As := [.int (nI h), .int (nI a), .int (eA 256)]) (wr := []) (k_X8_adds_x2 l D ty x0 0 i1 i2 sd i3 ln j1 j2 j3 j4 j5 j6 fm rd mt dr j7 j8 tt wl j9 lm hs T q nr h a 256 (by omega) (by omega) (by omega) (by omega)) wm_X8_144 wn_X8_adds wv_X8_adds wi_X8 wc_X8_adds rfl (by decide +kernel) ⟨(Nat.le_of_ble_eq_true rfl), (Nat.le_of_ble_eq_true rfl)⟩ ⟨rfl, rfl⟩ dX8_rule_9 ⟨Nat.zero_le _, Nat.zero_le _⟩ rfl rfl rfl [0, 1] [] rfl rfl rfl rfl (by decide) (Nat.le_of_ble_eq_true rfl) rfl (fun r W1 hp => ?_)
  obtain ⟨rfl, rfl⟩ := hp
  refine g_fix [.int (nI 0)] [(x0, .inr (6, [.int (nI 2), .ref i1, .ref i2, .int (nI sd), .ref i3, .int (nI ln), .ref j1, .ref j2, .ref j3, .ref j4, .ref j5, .ref j6, .int (nI fm), .int (nI rd), .int (nI mt), .int (nI dr), .ref j7, .ref j8, .int (nI tt), .int (bI (wl)), .ref j9, .int (nI lm), .long (hs)])), (i1, .inl (ty 0, 275, .inl (eR (sM T q nr))))] [0, 1] rfl rfl rfl ?_
  exact g_iret E dX8_rule_12 (by decide) (by decide) ⟨rfl, rfl⟩
def r_X8_rule_x1 : Room := { frames := 2, cells := 0, slots := 0, locals := 47 }
set_option maxRecDepth 100000 in
set_option maxHeartbeats 4000000 in
theorem k_X8_rule_x1 (l : Launch) (D : va_G) (ty : Nat → ClassId) (x0 : Nat) (th : Nat) (i1 : Nat) (i2 : Nat) (sd : Nat) (i3 : Nat) (ln : Nat) (j1 : Nat) (j2 : Nat) (j3 : Nat) (j4 : Nat) (j5 : Nat) (j6 : Nat) (fm : Nat) (rd : Nat) (mt : Nat) (dr : Nat) (j7 : Nat) (j8 : Nat) (tt : Nat) (wl : Bool) (j9 : Nat) (lm : Nat) (hs : Int64) (z1 : Int32) (z2 : Int32) (hz : isA z1 = false ∨ isA z2 = false) : gM l D ty yX8_rule cX8_rule 3 (some (FieldType.int : FieldType)) r_X8_rule_x1 0 0 [.ref x0, .int (z1), .int (z2)] [(x0, .inr (6, [.int (nI th), .ref i1, .ref i2, .int (nI sd), .ref i3, .int (nI ln), .ref j1, .ref j2, .ref j3, .ref j4, .ref j5, .ref j6, .int (nI fm), .int (nI rd), .int (nI mt), .int (nI dr), .ref j7, .ref j8, .int (nI tt), .int (bI (wl)), .ref j9, .int (nI lm), .long (hs)]))] (fun (zr : Option Value) (zW : va_W) => zr = some (.int (nI 0)) ∧ zW = [(x0, .inr (6, [.int (nI 1), .ref i1, .ref i2, .int (nI sd), .ref i3, .int (nI ln), .ref j1, .ref j2, .ref j3, .ref j4, .ref j5, .ref j6, .int (nI fm), .int (nI rd), .int (nI mt), .int (nI dr), .ref j7, .ref j8, .int (nI tt), .int (bI (wl)), .ref j9, .int (nI lm), .long (hs)]))]) := by
  refine gM_of RX8 rfl (by decide +kernel) (Nat.le_of_ble_eq_true rfl) ?_
  intro pg en s0 mi ag bl mth cd AA HH QQ C E hnm
  show gW pg l en r_X8_rule_x1 s0 mi ag bl mth cd 3 D AA HH QQ 0 [(0, .ref x0), (1, .int (z1)), (2, .int (z2))] [] [(x0, .inr (6, [.int (nI th), .ref i1, .ref i2, .int (nI sd), .ref i3, .int (nI ln), .ref j1, .ref j2, .ref j3, .ref j4, .ref j5, .ref j6, .int (nI fm), .int (nI rd), .int (nI mt), .int (nI dr), .ref j7, .ref j8, .int (nI tt), .int (bI (wl)), .ref j9, .int (nI lm), .long (hs)]))] 0 0
  refine g_aload_n C 0 rfl dX8_rule_0 ?_
  refine g_iconst C (nI 0) ic_0 dX8_rule_1 ?_
  refine g_putf C wu_X8 tyX8 tyX8_ok nmX8 0 rfl rfl 0 (by decide) wf_X8_47 rfl rfl rfl rfl (Nat.le_of_ble_eq_true rfl) dX8_rule_2 [(x0, .inr (6, [.int (nI 0), .ref i1, .ref i2, .int (nI sd), .ref i3, .int (nI ln), .ref j1, .ref j2, .ref j3, .ref j4, .ref j5, .ref j6, .int (nI fm), .int (nI rd), .int (nI mt), .int (nI dr), .ref j7, .ref j8, .int (nI tt), .int (bI (wl)), .ref j9, .int (nI lm), .long (hs)]))] rfl ?_
  refine g_aload_n C 0 rfl dX8_rule_5 ?_
  refine g_iload_n C 1 rfl dX8_rule_6 ?_
  refine g_iload_n C 2 rfl dX8_rule_7 ?_
  refine g_iconst C (-1) ic_m1 dX8_rule_8 ?_
  refine g_callV C (nA := 3) (ci := 6) (q0 := 0) (As := [.int (z1), .int (z2), .int (-1)]) (wr := []) (k_X8_adds_x1 l D ty x0 0 i1 i2 sd i3 ln j1 j2 j3 j4 j5 j6 fm rd mt dr j7 j8 tt wl j9 lm hs z1 z2 (- 1) (hz.elim Or.inl (fun q => Or.inr (Or.inl q)))) wm_X8_144 wn_X8_adds wv_X8_adds wi_X8 wc_X8_adds rfl (by decide +kernel) ⟨(Nat.le_of_ble_eq_true rfl), (Nat.le_of_ble_eq_true rfl)⟩ ⟨rfl, rfl⟩ dX8_rule_9 ⟨Nat.zero_le _, Nat.zero_le _⟩ rfl rfl rfl [0] [] rfl rfl rfl rfl (by decide) (Nat.le_of_ble_eq_true rfl) rfl (fun r W1 hp => ?_)
  obtain ⟨rfl, rfl⟩ := hp
  refine g_fix [.int (nI 0)] [(x0, .inr (6, [.int (nI 1), .ref i1, .ref i2, .int (nI sd), .ref i3, .int (nI ln), .ref j1, .ref j2, .ref j3, .ref j4, .ref j5, .ref j6, .int (nI fm), .int (nI rd), .int (nI mt), .int (nI dr), .ref j7, .ref j8, .int (nI tt), .int (bI (wl)), .ref j9, .int (nI lm), .long (hs)]))] [0] rfl rfl rfl ?_
  exact g_iret E dX8_rule_12 (by decide) (by decide) ⟨rfl, rfl⟩
def r_X8_joining_ok : Room := { frames := 2, cells := 0, slots := 0, locals := 47 }
set_option maxRecDepth 100000 in
set_option maxHeartbeats 4000000 in
theorem k_X8_joining_ok (l : Launch) (D : va_G) (ty : Nat → ClassId) (x0 : Nat) (th : Nat) (i1 : Nat) (i2 : Nat) (sd : Nat) (i3 : Nat) (ln : Nat) (j1 : Nat) (j2 : Nat) (j3 : Nat) (j4 : Nat) (j5 : Nat) (j6 : Nat) (fm : Nat) (rd : Nat) (mt : Nat) (dr : Nat) (j7 : Nat) (j8 : Nat) (tt : Nat) (wl : Bool) (j9 : Nat) (lm : Nat) (hs : Int64) (T : Nat → Bool) (q : Nat → Nat) (nr : Nat) (R : Nat → Int32) (V : Nat → LT) (h : Nat) (a : Nat) (b : Nat) (hsd : sd ≤ 6) (hR : okR V sd R) (hn : nr < 6) (hh : h < 256) (ha : a < 256) (hb : b < 256) : gM l D ty yX8_joining cX8_joining 4 (some (FieldType.int : FieldType)) r_X8_joining_ok 0 0 [.ref x0, .int (nI h), .int (nI a), .int (nI b)] [(x0, .inr (6, [.int (nI th), .ref i1, .ref i2, .int (nI sd), .ref i3, .int (nI ln), .ref j1, .ref j2, .ref j3, .ref j4, .ref j5, .ref j6, .int (nI fm), .int (nI rd), .int (nI mt), .int (nI dr), .ref j7, .ref j8, .int (nI tt), .int (bI (wl)), .ref j9, .int (nI lm), .long (hs)])), (i1, .inl (ty 0, 275, .inl (eR (sM T q nr)))), (i2, .inl (ty 0, 1650, .inl (R)))] (fun (zr : Option Value) (zW : va_W) => ∃ (R9 : Nat → Int32), okR (svV V sd (T, q, nr)) (svC sd) R9 ∧ zr = some (.int (nI nr)) ∧ zW = [(x0, .inr (6, [.int (nI 0), .ref i1, .ref i2, .int (nI (svC sd)), .ref i3, .int (nI ln), .ref j1, .ref j2, .ref j3, .ref j4, .ref j5, .ref j6, .int (nI fm), .int (nI rd), .int (nI mt), .int (nI dr), .ref j7, .ref j8, .int (nI tt), .int (bI (wl)), .ref j9, .int (nI lm), .long (hs)])), (i1, .inl (ty 0, 275, .inl (eR (sM T (aR q nr h a b) (nr + 1))))), (i2, .inl (ty 0, 1650, .inl (R9)))]) := by
  refine gM_of RX8 rfl (by decide +kernel) (Nat.le_of_ble_eq_true rfl) ?_
  intro pg en s0 mi ag bl mth cd AA HH QQ C E hnm
  show gW pg l en r_X8_joining_ok s0 mi ag bl mth cd 4 D AA HH QQ 0 [(0, .ref x0), (1, .int (nI h)), (2, .int (nI a)), (3, .int (nI b))] [] [(x0, .inr (6, [.int (nI th), .ref i1, .ref i2, .int (nI sd), .ref i3, .int (nI ln), .ref j1, .ref j2, .ref j3, .ref j4, .ref j5, .ref j6, .int (nI fm), .int (nI rd), .int (nI mt), .int (nI dr), .ref j7, .ref j8, .int (nI tt), .int (bI (wl)), .ref j9, .int (nI lm), .long (hs)])), (i1, .inl (ty 0, 275, .inl (eR (sM T q nr)))), (i2, .inl (ty 0, 1650, .inl (R)))] 0 0
  refine g_aload_n C 0 rfl dX8_joining_0 ?_
  refine g_iconst C (nI 0) ic_0 dX8_joining_1 ?_
  refine g_putf C wu_X8 tyX8 tyX8_ok nmX8 0 rfl rfl 0 (by decide) wf_X8_47 rfl rfl rfl rfl (Nat.le_of_ble_eq_true rfl) dX8_joining_2 [(x0, .inr (6, [.int (nI 0), .ref i1, .ref i2, .int (nI sd), .ref i3, .int (nI ln), .ref j1, .ref j2, .ref j3, .ref j4, .ref j5, .ref j6, .int (nI fm), .int (nI rd), .int (nI mt), .int (nI dr), .ref j7, .ref j8, .int (nI tt), .int (bI (wl)), .ref j9, .int (nI lm), .long (hs)])), (i1, .inl (ty 0, 275, .inl (eR (sM T q nr)))), (i2, .inl (ty 0, 1650, .inl (R)))] rfl ?_
  refine g_iload_n C 3 rfl dX8_joining_5 ?_
  refine g_iconst C (-1) ic_m1 dX8_joining_6 ?_
  refine g_icmp_ne C 18 dX8_joining_7 rfl (fun c7 => ?_) (fun c7 => ?_)
  · skip
    refine g_aload_n C 0 rfl dX8_joining_18 ?_
    refine g_iload_n C 1 rfl dX8_joining_19 ?_
    refine g_iload_n C 2 rfl dX8_joining_20 ?_
    refine g_iload_n C 3 rfl dX8_joining_21 ?_
    refine g_st [.int (eA b), .int (nI a), .int (nI h), .ref x0] (by rw [eA_n (show b ≠ 256 by omega)]) ?_
    refine g_callV C (nA := 3) (ci := 6) (q0 := 0) (As := [.int (nI h), .int (nI a), .int (eA b)]) (wr := []) (k_X8_adds_ok l D ty x0 0 i1 i2 sd i3 ln j1 j2 j3 j4 j5 j6 fm rd mt dr j7 j8 tt wl j9 lm hs T q nr R V h a b hsd hR (by omega) (by omega) (by omega) (by omega)) wm_X8_144 wn_X8_adds wv_X8_adds wi_X8 wc_X8_adds rfl (by decide +kernel) ⟨(Nat.le_of_ble_eq_true rfl), (Nat.le_of_ble_eq_true rfl)⟩ ⟨rfl, rfl⟩ dX8_joining_22 ⟨Nat.zero_le _, Nat.zero_le _⟩ rfl rfl rfl [0, 1, 2] [] rfl rfl rfl rfl (by decide) (Nat.le_of_ble_eq_true rfl) rfl (fun r W1 hp => ?_)
    obtain ⟨R5, hR5, rfl, rfl⟩ := hp
    refine g_fix [.int (nI nr)] [(x0, .inr (6, [.int (nI 0), .ref i1, .ref i2, .int (nI (svC sd)), .ref i3, .int (nI ln), .ref j1, .ref j2, .ref j3, .ref j4, .ref j5, .ref j6, .int (nI fm), .int (nI rd), .int (nI mt), .int (nI dr), .ref j7, .ref j8, .int (nI tt), .int (bI (wl)), .ref j9, .int (nI lm), .long (hs)])), (i1, .inl (ty 0, 275, .inl (eR (sM T (aR q nr h a b) (nr + 1))))), (i2, .inl (ty 0, 1650, .inl (R5)))] [0, 1, 2] rfl rfl rfl ?_
    exact g_iret E dX8_joining_25 (by decide) (by decide) ⟨R5, hR5, rfl, rfl⟩
  · skip
    exact absurd c7 (nI_nm1 hb)
def r_X8_joining_x2 : Room := { frames := 2, cells := 0, slots := 0, locals := 47 }
set_option maxRecDepth 100000 in
set_option maxHeartbeats 4000000 in
theorem k_X8_joining_x2 (l : Launch) (D : va_G) (ty : Nat → ClassId) (x0 : Nat) (th : Nat) (i1 : Nat) (i2 : Nat) (sd : Nat) (i3 : Nat) (ln : Nat) (j1 : Nat) (j2 : Nat) (j3 : Nat) (j4 : Nat) (j5 : Nat) (j6 : Nat) (fm : Nat) (rd : Nat) (mt : Nat) (dr : Nat) (j7 : Nat) (j8 : Nat) (tt : Nat) (wl : Bool) (j9 : Nat) (lm : Nat) (hs : Int64) (T : Nat → Bool) (q : Nat → Nat) (nr : Nat) (h : Nat) (a : Nat) (b : Nat) (hn : nr = 6) (hh : h < 256) (ha : a < 256) (hb : b < 256) : gM l D ty yX8_joining cX8_joining 4 (some (FieldType.int : FieldType)) r_X8_joining_x2 0 0 [.ref x0, .int (nI h), .int (nI a), .int (nI b)] [(x0, .inr (6, [.int (nI th), .ref i1, .ref i2, .int (nI sd), .ref i3, .int (nI ln), .ref j1, .ref j2, .ref j3, .ref j4, .ref j5, .ref j6, .int (nI fm), .int (nI rd), .int (nI mt), .int (nI dr), .ref j7, .ref j8, .int (nI tt), .int (bI (wl)), .ref j9, .int (nI lm), .long (hs)])), (i1, .inl (ty 0, 275, .inl (eR (sM T q nr))))] (fun (zr : Option Value) (zW : va_W) => zr = some (.int (nI 0)) ∧ zW = [(x0, .inr (6, [.int (nI 2), .ref i1, .ref i2, .int (nI sd), .ref i3, .int (nI ln), .ref j1, .ref j2, .ref j3, .ref j4, .ref j5, .ref j6, .int (nI fm), .int (nI rd), .int (nI mt), .int (nI dr), .ref j7, .ref j8, .int (nI tt), .int (bI (wl)), .ref j9, .int (nI lm), .long (hs)])), (i1, .inl (ty 0, 275, .inl (eR (sM T q nr))))]) := by
  refine gM_of RX8 rfl (by decide +kernel) (Nat.le_of_ble_eq_true rfl) ?_
  intro pg en s0 mi ag bl mth cd AA HH QQ C E hnm
  show gW pg l en r_X8_joining_x2 s0 mi ag bl mth cd 4 D AA HH QQ 0 [(0, .ref x0), (1, .int (nI h)), (2, .int (nI a)), (3, .int (nI b))] [] [(x0, .inr (6, [.int (nI th), .ref i1, .ref i2, .int (nI sd), .ref i3, .int (nI ln), .ref j1, .ref j2, .ref j3, .ref j4, .ref j5, .ref j6, .int (nI fm), .int (nI rd), .int (nI mt), .int (nI dr), .ref j7, .ref j8, .int (nI tt), .int (bI (wl)), .ref j9, .int (nI lm), .long (hs)])), (i1, .inl (ty 0, 275, .inl (eR (sM T q nr))))] 0 0
  refine g_aload_n C 0 rfl dX8_joining_0 ?_
  refine g_iconst C (nI 0) ic_0 dX8_joining_1 ?_
  refine g_putf C wu_X8 tyX8 tyX8_ok nmX8 0 rfl rfl 0 (by decide) wf_X8_47 rfl rfl rfl rfl (Nat.le_of_ble_eq_true rfl) dX8_joining_2 [(x0, .inr (6, [.int (nI 0), .ref i1, .ref i2, .int (nI sd), .ref i3, .int (nI ln), .ref j1, .ref j2, .ref j3, .ref j4, .ref j5, .ref j6, .int (nI fm), .int (nI rd), .int (nI mt), .int (nI dr), .ref j7, .ref j8, .int (nI tt), .int (bI (wl)), .ref j9, .int (nI lm), .long (hs)])), (i1, .inl (ty 0, 275, .inl (eR (sM T q nr))))] rfl ?_
  refine g_iload_n C 3 rfl dX8_joining_5 ?_
  refine g_iconst C (-1) ic_m1 dX8_joining_6 ?_
  refine g_icmp_ne C 18 dX8_joining_7 rfl (fun c7 => ?_) (fun c7 => ?_)
  · skip
    refine g_aload_n C 0 rfl dX8_joining_18 ?_
    refine g_iload_n C 1 rfl dX8_joining_19 ?_
    refine g_iload_n C 2 rfl dX8_joining_20 ?_
    refine g_iload_n C 3 rfl dX8_joining_21 ?_
    refine g_st [.int (eA b), .int (nI a), .int (nI h), .ref x0] (by rw [eA_n (show b ≠ 256 by omega)]) ?_
    refine g_callV C (nA := 3) (ci := 6) (q0 := 0) (As := [.int (nI h), .int (nI a), .int (eA b)]) (wr := []) (k_X8_adds_x2 l D ty x0 0 i1 i2 sd i3 ln j1 j2 j3 j4 j5 j6 fm rd mt dr j7 j8 tt wl j9 lm hs T q nr h a b (by omega) (by omega) (by omega) (by omega)) wm_X8_144 wn_X8_adds wv_X8_adds wi_X8 wc_X8_adds rfl (by decide +kernel) ⟨(Nat.le_of_ble_eq_true rfl), (Nat.le_of_ble_eq_true rfl)⟩ ⟨rfl, rfl⟩ dX8_joining_22 ⟨Nat.zero_le _, Nat.zero_le _⟩ rfl rfl rfl [0, 1] [] rfl rfl rfl rfl (by decide) (Nat.le_of_ble_eq_true rfl) rfl (fun r W1 hp => ?_)
    obtain ⟨rfl, rfl⟩ := hp
    refine g_fix [.int (nI 0)] [(x0, .inr (6, [.int (nI 2), .ref i1, .ref i2, .int (nI sd), .ref i3, .int (nI ln), .ref j1, .ref j2, .ref j3, .ref j4, .ref j5, .ref j6, .int (nI fm), .int (nI rd), .int (nI mt), .int (nI dr), .ref j7, .ref j8, .int (nI tt), .int (bI (wl)), .ref j9, .int (nI lm), .long (hs)])), (i1, .inl (ty 0, 275, .inl (eR (sM T q nr))))] [0, 1] rfl rfl rfl ?_
    exact g_iret E dX8_joining_25 (by decide) (by decide) ⟨rfl, rfl⟩
  · skip
    exact absurd c7 (nI_nm1 hb)
def r_X8_joining_x1 : Room := { frames := 2, cells := 0, slots := 0, locals := 47 }
set_option maxRecDepth 100000 in
set_option maxHeartbeats 4000000 in
theorem k_X8_joining_x1 (l : Launch) (D : va_G) (ty : Nat → ClassId) (x0 : Nat) (th : Nat) (i1 : Nat) (i2 : Nat) (sd : Nat) (i3 : Nat) (ln : Nat) (j1 : Nat) (j2 : Nat) (j3 : Nat) (j4 : Nat) (j5 : Nat) (j6 : Nat) (fm : Nat) (rd : Nat) (mt : Nat) (dr : Nat) (j7 : Nat) (j8 : Nat) (tt : Nat) (wl : Bool) (j9 : Nat) (lm : Nat) (hs : Int64) (z1 : Int32) (z2 : Int32) (z3 : Int32) (hz : isA z1 = false ∨ isA z2 = false ∨ isA z3 = false) : gM l D ty yX8_joining cX8_joining 4 (some (FieldType.int : FieldType)) r_X8_joining_x1 0 0 [.ref x0, .int (z1), .int (z2), .int (z3)] [(x0, .inr (6, [.int (nI th), .ref i1, .ref i2, .int (nI sd), .ref i3, .int (nI ln), .ref j1, .ref j2, .ref j3, .ref j4, .ref j5, .ref j6, .int (nI fm), .int (nI rd), .int (nI mt), .int (nI dr), .ref j7, .ref j8, .int (nI tt), .int (bI (wl)), .ref j9, .int (nI lm), .long (hs)]))] (fun (zr : Option Value) (zW : va_W) => zr = some (.int (nI 0)) ∧ zW = [(x0, .inr (6, [.int (nI 1), .ref i1, .ref i2, .int (nI sd), .ref i3, .int (nI ln), .ref j1, .ref j2, .ref j3, .ref j4, .ref j5, .ref j6, .int (nI fm), .int (nI rd), .int (nI mt), .int (nI dr), .ref j7, .ref j8, .int (nI tt), .int (bI (wl)), .ref j9, .int (nI lm), .long (hs)]))]) := by
  refine gM_of RX8 rfl (by decide +kernel) (Nat.le_of_ble_eq_true rfl) ?_
  intro pg en s0 mi ag bl mth cd AA HH QQ C E hnm
  show gW pg l en r_X8_joining_x1 s0 mi ag bl mth cd 4 D AA HH QQ 0 [(0, .ref x0), (1, .int (z1)), (2, .int (z2)), (3, .int (z3))] [] [(x0, .inr (6, [.int (nI th), .ref i1, .ref i2, .int (nI sd), .ref i3, .int (nI ln), .ref j1, .ref j2, .ref j3, .ref j4, .ref j5, .ref j6, .int (nI fm), .int (nI rd), .int (nI mt), .int (nI dr), .ref j7, .ref j8, .int (nI tt), .int (bI (wl)), .ref j9, .int (nI lm), .long (hs)]))] 0 0
  refine g_aload_n C 0 rfl dX8_joining_0 ?_
  refine g_iconst C (nI 0) ic_0 dX8_joining_1 ?_
  refine g_putf C wu_X8 tyX8 tyX8_ok nmX8 0 rfl rfl 0 (by decide) wf_X8_47 rfl rfl rfl rfl (Nat.le_of_ble_eq_true rfl) dX8_joining_2 [(x0, .inr (6, [.int (nI 0), .ref i1, .ref i2, .int (nI sd), .ref i3, .int (nI ln), .ref j1, .ref j2, .ref j3, .ref j4, .ref j5, .ref j6, .int (nI fm), .int (nI rd), .int (nI mt), .int (nI dr), .ref j7, .ref j8, .int (nI tt), .int (bI (wl)), .ref j9, .int (nI lm), .long (hs)]))] rfl ?_
  refine g_iload_n C 3 rfl dX8_joining_5 ?_
  refine g_iconst C (-1) ic_m1 dX8_joining_6 ?_
  refine g_icmp_ne C 18 dX8_joining_7 rfl (fun c7 => ?_) (fun c7 => ?_)
  · skip
    refine g_aload_n C 0 rfl dX8_joining_18 ?_
    refine g_iload_n C 1 rfl dX8_joining_19 ?_
    refine g_iload_n C 2 rfl dX8_joining_20 ?_
    refine g_iload_n C 3 rfl dX8_joining_21 ?_
    refine g_callV C (nA := 3) (ci := 6) (q0 := 0) (As := [.int (z1), .int (z2), .int (z3)]) (wr := []) (k_X8_adds_x1 l D ty x0 0 i1 i2 sd i3 ln j1 j2 j3 j4 j5 j6 fm rd mt dr j7 j8 tt wl j9 lm hs z1 z2 z3 (hz.elim Or.inl (fun q => q.elim (fun q => Or.inr (Or.inl q)) (fun q => Or.inr (Or.inr ((inI_m c7).trans q)))))) wm_X8_144 wn_X8_adds wv_X8_adds wi_X8 wc_X8_adds rfl (by decide +kernel) ⟨(Nat.le_of_ble_eq_true rfl), (Nat.le_of_ble_eq_true rfl)⟩ ⟨rfl, rfl⟩ dX8_joining_22 ⟨Nat.zero_le _, Nat.zero_le _⟩ rfl rfl rfl [0] [] rfl rfl rfl rfl (by decide) (Nat.le_of_ble_eq_true rfl) rfl (fun r W1 hp => ?_)
    obtain ⟨rfl, rfl⟩ := hp
    refine g_fix [.int (nI 0)] [(x0, .inr (6, [.int (nI 1), .ref i1, .ref i2, .int (nI sd), .ref i3, .int (nI ln), .ref j1, .ref j2, .ref j3, .ref j4, .ref j5, .ref j6, .int (nI fm), .int (nI rd), .int (nI mt), .int (nI dr), .ref j7, .ref j8, .int (nI tt), .int (bI (wl)), .ref j9, .int (nI lm), .long (hs)]))] [0] rfl rfl rfl ?_
    exact g_iret E dX8_joining_25 (by decide) (by decide) ⟨rfl, rfl⟩
  · skip
    refine g_aload_n C 0 rfl dX8_joining_10 ?_
    refine g_iconst C (nI 1) ic_1 dX8_joining_11 ?_
    refine g_callV C (nA := 1) (ci := 6) (q0 := 0) (As := [.int (nI 1)]) (wr := []) (k_X8_fails l D ty x0 0 i1 i2 sd i3 ln j1 j2 j3 j4 j5 j6 fm rd mt dr j7 j8 tt wl j9 lm hs 1 ) wm_X8_131 wn_X8_fails wv_X8_fails wi_X8 wc_X8_fails rfl (by decide +kernel) ⟨(Nat.le_of_ble_eq_true rfl), (Nat.le_of_ble_eq_true rfl)⟩ ⟨rfl, rfl⟩ dX8_joining_12 ⟨Nat.zero_le _, Nat.zero_le _⟩ rfl rfl rfl [0] [] rfl rfl rfl rfl (by decide) (Nat.le_of_ble_eq_true rfl) rfl (fun r W1 hp => ?_)
    obtain ⟨rfl, rfl⟩ := hp
    refine g_fix [.int (nI 0)] [(x0, .inr (6, [.int (nI 1), .ref i1, .ref i2, .int (nI sd), .ref i3, .int (nI ln), .ref j1, .ref j2, .ref j3, .ref j4, .ref j5, .ref j6, .int (nI fm), .int (nI rd), .int (nI mt), .int (nI dr), .ref j7, .ref j8, .int (nI tt), .int (bI (wl)), .ref j9, .int (nI lm), .long (hs)]))] [0] rfl rfl rfl ?_
    refine g_goto C 25 dX8_joining_15 rfl ?_
    exact g_iret E dX8_joining_25 (by decide) (by decide) ⟨rfl, rfl⟩
