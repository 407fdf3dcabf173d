abbrev sbl (n e : Nat) (s : UInt64) : Option Int64 := bl n e s
theorem bl_lt {n e : Nat} {s : UInt64} {y : Int64} (h : bl n e s = some y) (c : Op.cmpValue (FP.dcmp s 0x3ff0000000000000) .g < 0) : 0 < n ∧ bN (FP.dmul s 0x4000000000000000) = true ∧ bl (n - 1) (e - 1) (FP.dmul s 0x4000000000000000) = some y := by
  cases n with
  | zero => cases h
  | succ n =>
    rw [bl, if_pos c] at h
    split at h
    · rename_i z; exact ⟨Nat.succ_pos _, z, h⟩
    · cases h
theorem bl_ge {n e : Nat} {s : UInt64} {y : Int64} (h : bl n e s = some y) (c : ¬ Op.cmpValue (FP.dcmp s 0x3ff0000000000000) .g < 0) : bN (FP.dsub s 0x3ff0000000000000) = true ∧ bN (FP.dmul (FP.dsub s 0x3ff0000000000000) 0x4330000000000000) = true ∧ (lN e <<< ((nI 52).toInt64 &&& 63)) ||| FP.d2l (FP.dmul (FP.dsub s 0x3ff0000000000000) 0x4330000000000000) = y := by
  cases n with
  | zero => cases h
  | succ n =>
    rw [bl, if_neg c] at h
    split at h
    · rename_i z
      rw [Bool.and_eq_true] at z
      exact ⟨z.1, z.2, Option.some.inj h⟩
    · cases h
theorem bx_0 {x : UInt64} (h : bx x = true) (c : ¬ 0 < Op.cmpValue (FP.dcmp x 0) .l) : lN 0 = x.toInt64 := by
  unfold bx at h
  rw [Bool.or_eq_true] at h
  rcases h with h | h
  · rw [eq_of_beq h]; decide +kernel
  · rw [Bool.and_eq_true] at h
    exact absurd (of_decide_eq_true h.1) c
theorem bx_1 {x : UInt64} (h : bx x = true) (c : 0 < Op.cmpValue (FP.dcmp x 0) .l) : bl 8 1023 x = some x.toInt64 := by
  unfold bx at h
  rw [Bool.or_eq_true] at h
  rcases h with h | h
  · rw [eq_of_beq h] at c; exact absurd c (by decide +kernel)
  · rw [Bool.and_eq_true] at h
    exact eq_of_beq h.2
theorem lN_sb : ∀ k, k < 8 → lN (1023 - k) - lN 1 = lN (1023 - (k + 1)) := by decide +kernel
theorem zcnt_t16 {x : Nat} (h : x < 2 ^ 16) : zcnt (fun i => x.testBit i) 32 ≤ 16 := by
  rw [show 32 = 16 + 16 from rfl, zcnt_split]
  have h2 : zcnt (fun k => x.testBit (16 + k)) 16 = 0 := zcnt_zero.mpr (fun j _ => Nat.testBit_lt_two_pow (Nat.lt_of_lt_of_le h (Nat.pow_le_pow_right (by decide) (by omega))))
  have := zcnt_le (fun i => x.testBit i) 16
  omega
theorem insU_64 (S : Nat → Bool) (n : Nat) : insU S n ≤ 16 * n := by
  induction n with
  | zero => exact Nat.le_refl _
  | succ n ih => rw [insU]; have := zcnt_t16 (imp_lt S n 38 (by decide)); omega
theorem bA_ok {m n : Nat} (h : m < 65) (h0 : m ≠ 0) (hn : n ≤ m) : bN (bA m n) = true ∧ bx (bA m n) = true := by
  have := (bC_all m h).resolve_left h0 n (by omega)
  unfold bC at this
  exact (Bool.and_eq_true _ _).mp this
def brA (Z : ZT) (T : Nat → Bool) : UInt64 := if insU (zF Z) 4 = 0 then 0 else bA (insU (zF Z) 4) (insU (zF Z) 4 - insU T 4)
theorem brA_bx {Z : ZT} {T : Nat → Bool} : bx (brA Z T) = true := by
  unfold brA
  by_cases h : insU (zF Z) 4 = 0
  · rw [if_pos h]; decide +kernel
  · rw [if_neg h]
    have := insU_64 (zF Z) 4
    exact (bA_ok (by omega) h (by omega)).2
/-! the digest -/
def hsh (h v : Int64) : Int64 := 31 * h + v
def lp (g : Nat → Int64 → Int64) : Nat → Int64 → Int64
  | 0, h => h
  | n + 1, h => g n (lp g n h)
def e1 (T : Nat → Bool) (nr : Nat) (Z : ZT) (sc : Nat) : Nat → Int64 → Int64 := fun w h => hsh h (nI (cnA T nr Z sc w)).toInt64
def e2 (q : Nat → Nat) (nr : Nat) (T : Nat → Bool) : Nat → Int64 → Int64 := fun k h => hsh (hsh h (eO (nth T k 256)).toInt64) (spA q nr T k).toInt64
def e3a (q : Nat → Nat) (r : Nat) : Nat → Int64 → Int64 := fun j h => hsh h (eA (q (3 * r + j))).toInt64
def e3b (Z : ZT) (q : Nat → Nat) (nr : Nat) (T : Nat → Bool) (r : Nat) : Nat → Int64 → Int64 := fun w h => hsh h (wiA Z q nr T r w).toInt64
def e3 (Z : ZT) (q : Nat → Nat) (nr : Nat) (T : Nat → Bool) : Nat → Int64 → Int64 := fun r h => lp (e3b Z q nr T r) 3 (lp (e3a q r) 3 h)
def e4a (Z : ZT) (k : Nat) : Nat → Int64 → Int64 := fun w h => hsh h (fdA Z k w).toInt64
def e4 (Z : ZT) : Nat → Int64 → Int64 := fun k h => lp (e4a Z k) 4 h
def e5 (Z : ZT) : Nat → Int64 → Int64 := fun r h => hsh h (zSz Z (min r (zRd Z))).toInt64
def e6 (Z : ZT) : Nat → Int64 → Int64 := fun p h => hsh (hsh h (nI (flA (zF Z) (64 * p + 36))).toInt64) (nI (iM (64 * p + 37) &&& imp (zF Z) ((64 * p + 37) / 64) 38)).toInt64
def e8 (b : Nat → Nat) (len : Nat) : Nat → Int64 → Int64 := fun i h => hsh h (eA (tc b len i)).toInt64
def dgA (q : Nat → Nat) (nr : Nat) (T : Nat → Bool) (Z : ZT) (sc : Nat) (b : Nat → Nat) (len : Nat) : Int64 := lp (e8 b len) len (hsh (hsh (hsh (lp (e6 Z) 4 (lp (e5 Z) 4 (lp (e4 Z) (zcnt (zF Z) 256) (lp (e3 Z q nr T) nr (lp (e2 q nr T) (zcnt T 256) (lp (e1 T nr Z sc) 8 2833)))))) (nI (rch q nr T 0 16).2).toInt64) (brA Z T).toInt64) (nI len).toInt64)
theorem lp_0 (g : Nat → Int64 → Int64) (h : Int64) : lp g 0 h = h := rfl
theorem lp_s (g : Nat → Int64 → Int64) (n : Nat) (h : Int64) : lp g (n + 1) h = g n (lp g n h) := rfl
theorem e1_s (T : Nat → Bool) (nr : Nat) (Z : ZT) (sc w : Nat) (h : Int64) : lp (e1 T nr Z sc) (w + 1) h = hsh (lp (e1 T nr Z sc) w h) (nI (cnA T nr Z sc w)).toInt64 := lp_s (e1 T nr Z sc) w h
theorem e2_s (q : Nat → Nat) (nr : Nat) (T : Nat → Bool) (k : Nat) (h : Int64) : lp (e2 q nr T) (k + 1) h = hsh (hsh (lp (e2 q nr T) k h) (eO (nth T k 256)).toInt64) (spA q nr T k).toInt64 := lp_s (e2 q nr T) k h
theorem e3a_s (q : Nat → Nat) (r j : Nat) (h : Int64) : lp (e3a q r) (j + 1) h = hsh (lp (e3a q r) j h) (eA (q (3 * r + j))).toInt64 := lp_s (e3a q r) j h
theorem e3b_s (Z : ZT) (q : Nat → Nat) (nr : Nat) (T : Nat → Bool) (r w : Nat) (h : Int64) : lp (e3b Z q nr T r) (w + 1) h = hsh (lp (e3b Z q nr T r) w h) (wiA Z q nr T r w).toInt64 := lp_s (e3b Z q nr T r) w h
theorem e3_s (Z : ZT) (q : Nat → Nat) (nr : Nat) (T : Nat → Bool) (r : Nat) (h : Int64) : lp (e3 Z q nr T) (r + 1) h = lp (e3b Z q nr T r) 3 (lp (e3a q r) 3 (lp (e3 Z q nr T) r h)) := lp_s (e3 Z q nr T) r h
theorem e4a_s (Z : ZT) (k w : Nat) (h : Int64) : lp (e4a Z k) (w + 1) h = hsh (lp (e4a Z k) w h) (fdA Z k w).toInt64 := lp_s (e4a Z k) w h
theorem e4_s (Z : ZT) (k : Nat) (h : Int64) : lp (e4 Z) (k + 1) h = lp (e4a Z k) 4 (lp (e4 Z) k h) := lp_s (e4 Z) k h
theorem e5_s (Z : ZT) (r : Nat) (h : Int64) : lp (e5 Z) (r + 1) h = hsh (lp (e5 Z) r h) (zSz Z (min r (zRd Z))).toInt64 := lp_s (e5 Z) r h
theorem e6_s (Z : ZT) (p : Nat) (h : Int64) : lp (e6 Z) (p + 1) h = hsh (hsh (lp (e6 Z) p h) (nI (flA (zF Z) (64 * p + 36))).toInt64) (nI (iM (64 * p + 37) &&& imp (zF Z) ((64 * p + 37) / 64) 38)).toInt64 := lp_s (e6 Z) p h
theorem e8_s (b : Nat → Nat) (len i : Nat) (h : Int64) : lp (e8 b len) (i + 1) h = hsh (lp (e8 b len) i h) (eA (tc b len i)).toInt64 := lp_s (e8 b len) i h
theorem isF_x {p : Nat} (hp : p < 4) : isF (64 * p + 36) = true ∧ isF (64 * p + 37) = true := by
  unfold isF
  simp only [decide_eq_true_eq]
  omega

def r_X7_byRules : Room := { frames := 4, cells := 0, slots := 0, locals := 87 }
set_option maxRecDepth 100000 in
set_option maxHeartbeats 4000000 in
theorem k_X7_byRules (l : Launch) (D : va_G) (ty : Nat → ClassId) (x0 : Nat) (l0 : Nat) (v0 : Nat) (t0 : Nat) (y0 : Nat) (r0 : Nat) (p0 : Nat) (w0 : Nat) (l1 : Nat) (l2 : Nat) (l3 : Nat) (T : Nat → Bool) (q : Nat → Nat) (nr : Nat) (a0 : Nat) (a1 : Nat) (b0 : Nat) (c0 : Nat) (d0 : Nat) (e0 : Nat) (f0 : Nat) (Z : ZT) (sc : Nat) (ht : insU T 4 ≤ insU (zF Z) 4) : gM l D ty yX7_byRules cX7_byRules 2 (some (FieldType.double : FieldType)) r_X7_byRules 0 0 [.ref x0] [(x0, .inr (5, [.ref l0, .ref v0, .int (nI sc), .ref t0, .ref y0, .ref r0, .ref p0, .ref w0])), (l0, .inr (2, [.ref l1, .ref l2, .int (nI nr)])), (l1, .inr (0, [.ref l3])), (l3, .inl (ty 1, 4, .inr (.inl (zM T)))), (l2, .inl (ty 0, 18, .inl (eR q))), (r0, .inr (3, [.ref a0, .ref b0, .int (nI (zRd Z)), .int (nI (zMt Z)), .int (nI (zDr Z)), .ref c0, .ref d0, .ref e0, .ref f0])), (a0, .inr (0, [.ref a1])), (a1, .inl (ty 1, 4, .inr (.inl (zM (zF Z)))))] (fun (zr : Option Value) (zW : va_W) => zr = some (.double (brA Z T)) ∧ zW = [(x0, .inr (5, [.ref l0, .ref v0, .int (nI sc), .ref t0, .ref y0, .ref r0, .ref p0, .ref w0])), (l0, .inr (2, [.ref l1, .ref l2, .int (nI nr)])), (l1, .inr (0, [.ref l3])), (l3, .inl (ty 1, 4, .inr (.inl (zM T)))), (l2, .inl (ty 0, 18, .inl (eR q))), (r0, .inr (3, [.ref a0, .ref b0, .int (nI (zRd Z)), .int (nI (zMt Z)), .int (nI (zDr Z)), .ref c0, .ref d0, .ref e0, .ref f0])), (a0, .inr (0, [.ref a1])), (a1, .inl (ty 1, 4, .inr (.inl (zM (zF Z)))))]) := by
  have h64 := insU_64 (zF Z) 4
  refine gM_of RX7 rfl (by decide +kernel) (Nat.le_of_ble_eq_true rfl) ?_
  intro pg en s0 mi ag bl mth cd AA HH QQ C E hnm
  show gW pg l en r_X7_byRules s0 mi ag bl mth cd 2 D AA HH QQ 0 [(0, .ref x0)] [] [(x0, .inr (5, [.ref l0, .ref v0, .int (nI sc), .ref t0, .ref y0, .ref r0, .ref p0, .ref w0])), (l0, .inr (2, [.ref l1, .ref l2, .int (nI nr)])), (l1, .inr (0, [.ref l3])), (l3, .inl (ty 1, 4, .inr (.inl (zM T)))), (l2, .inl (ty 0, 18, .inl (eR q))), (r0, .inr (3, [.ref a0, .ref b0, .int (nI (zRd Z)), .int (nI (zMt Z)), .int (nI (zDr Z)), .ref c0, .ref d0, .ref e0, .ref f0])), (a0, .inr (0, [.ref a1])), (a1, .inl (ty 1, 4, .inr (.inl (zM (zF Z)))))] 0 0
  refine g_aload_n C 0 rfl dX7_byRules_0 ?_
  refine g_getf C wu_X7 0 rfl rfl 5 (by decide) wf_X7_37 rfl rfl dX7_byRules_1 ?_
  refine g_getf C wu_X5 5 rfl rfl 0 (by decide) wf_X7_121 rfl rfl dX7_byRules_4 ?_
  refine g_callV C (nA := 0) (ci := 0) (q0 := 0) (As := []) (wr := [(x0, .inr (5, [.ref l0, .ref v0, .int (nI sc), .ref t0, .ref y0, .ref r0, .ref p0, .ref w0])), (l0, .inr (2, [.ref l1, .ref l2, .int (nI nr)])), (l1, .inr (0, [.ref l3])), (l3, .inl (ty 1, 4, .inr (.inl (zM T)))), (l2, .inl (ty 0, 18, .inl (eR q))), (r0, .inr (3, [.ref a0, .ref b0, .int (nI (zRd Z)), .int (nI (zMt Z)), .int (nI (zDr Z)), .ref c0, .ref d0, .ref e0, .ref f0]))]) (k_X2_instanceCount l D ty a0 a1 (zF Z) ) wm_X7_202 wn_X2_instanceCount wv_X2_instanceCount wi_X2 wc_X2_instanceCount rfl (by decide +kernel) ⟨(Nat.le_of_ble_eq_true rfl), (Nat.le_of_ble_eq_true rfl)⟩ ⟨rfl, rfl⟩ dX7_byRules_7 ⟨Nat.zero_le _, Nat.zero_le _⟩ rfl rfl rfl [6, 7] [0, 1, 2, 3, 4, 5] rfl rfl rfl rfl (by decide) (Nat.le_of_ble_eq_true rfl) rfl (fun r W1 hp => ?_)
  obtain ⟨rfl, rfl⟩ := hp
  refine g_fix [.int (nI (insU (zF Z) 4))] [(x0, .inr (5, [.ref l0, .ref v0, .int (nI sc), .ref t0, .ref y0, .ref r0, .ref p0, .ref w0])), (l0, .inr (2, [.ref l1, .ref l2, .int (nI nr)])), (l1, .inr (0, [.ref l3])), (l3, .inl (ty 1, 4, .inr (.inl (zM T)))), (l2, .inl (ty 0, 18, .inl (eR q))), (r0, .inr (3, [.ref a0, .ref b0, .int (nI (zRd Z)), .int (nI (zMt Z)), .int (nI (zDr Z)), .ref c0, .ref d0, .ref e0, .ref f0])), (a0, .inr (0, [.ref a1])), (a1, .inl (ty 1, 4, .inr (.inl (zM (zF Z)))))] [0, 1, 2, 3, 4, 5, 6, 7] rfl rfl rfl ?_
  refine g_istore_n C [(1, .int (nI (insU (zF Z) 4))), (0, .ref x0)] dX7_byRules_10 rfl (by decide) rfl ?_
  refine g_iload_n C 0 rfl dX7_byRules_11 ?_
  refine g_if_neN C (insU (zF Z) 4) 17 rfl (by omega) dX7_byRules_12 rfl (fun c12 => ?_) (fun c12 => ?_)
  · skip
    refine g_iload_n C 0 rfl dX7_byRules_17 ?_
    refine g_aload_n C 1 rfl dX7_byRules_18 ?_
    refine g_getf C wu_X7 0 rfl rfl 0 (by decide) wf_X7_10 rfl rfl dX7_byRules_19 ?_
    refine g_getf C wu_X4 1 rfl rfl 0 (by decide) wf_X7_64 rfl rfl dX7_byRules_22 ?_
    refine g_callV C (nA := 0) (ci := 0) (q0 := 0) (As := []) (wr := [(x0, .inr (5, [.ref l0, .ref v0, .int (nI sc), .ref t0, .ref y0, .ref r0, .ref p0, .ref w0])), (l0, .inr (2, [.ref l1, .ref l2, .int (nI nr)])), (l2, .inl (ty 0, 18, .inl (eR q))), (r0, .inr (3, [.ref a0, .ref b0, .int (nI (zRd Z)), .int (nI (zMt Z)), .int (nI (zDr Z)), .ref c0, .ref d0, .ref e0, .ref f0])), (a0, .inr (0, [.ref a1])), (a1, .inl (ty 1, 4, .inr (.inl (zM (zF Z)))))]) (k_X2_instanceCount l D ty l1 l3 T ) wm_X7_202 wn_X2_instanceCount wv_X2_instanceCount wi_X2 wc_X2_instanceCount rfl (by decide +kernel) ⟨(Nat.le_of_ble_eq_true rfl), (Nat.le_of_ble_eq_true rfl)⟩ ⟨rfl, rfl⟩ dX7_byRules_25 ⟨Nat.zero_le _, Nat.zero_le _⟩ rfl rfl rfl [2, 3] [0, 1, 4, 5, 6, 7] rfl rfl rfl rfl (by decide) (Nat.le_of_ble_eq_true rfl) rfl (fun r W1 hp => ?_)
    obtain ⟨rfl, rfl⟩ := hp
    refine g_fix [.int (nI (insU T 4)), .int (nI (insU (zF Z) 4))] [(x0, .inr (5, [.ref l0, .ref v0, .int (nI sc), .ref t0, .ref y0, .ref r0, .ref p0, .ref w0])), (l0, .inr (2, [.ref l1, .ref l2, .int (nI nr)])), (l1, .inr (0, [.ref l3])), (l3, .inl (ty 1, 4, .inr (.inl (zM T)))), (l2, .inl (ty 0, 18, .inl (eR q))), (r0, .inr (3, [.ref a0, .ref b0, .int (nI (zRd Z)), .int (nI (zMt Z)), .int (nI (zDr Z)), .ref c0, .ref d0, .ref e0, .ref f0])), (a0, .inr (0, [.ref a1])), (a1, .inl (ty 1, 4, .inr (.inl (zM (zF Z)))))] [0, 1, 6, 7, 2, 3, 4, 5] rfl rfl rfl ?_
    refine g_isub C (nI ((insU (zF Z) 4) - (insU T 4))) dX7_byRules_28 (pk_sub (by omega)) ?_
    refine g_i2d C (FP.i2d (nI ((insU (zF Z) 4) - (insU T 4)))) rfl dX7_byRules_29 ?_
    refine g_iload_n C 0 rfl dX7_byRules_30 ?_
    refine g_i2d C (FP.i2d (nI (insU (zF Z) 4))) rfl dX7_byRules_31 ?_
    refine g_ddiv C (bA (insU (zF Z) 4) (insU (zF Z) 4 - insU T 4)) rfl (bN_n (bA_ok (by omega) c12 (by omega)).1) dX7_byRules_32 ?_
    exact g_dret E dX7_byRules_33 (by decide) (by decide) ⟨(congrArg (fun z => some (Value.double z)) (by rw [brA, if_neg c12])), rfl⟩
  · skip
    refine g_dconst0 C dX7_byRules_15 ?_
    exact g_dret E dX7_byRules_16 (by decide) (by decide) ⟨(congrArg (fun z => some (Value.double z)) (by rw [brA, if_pos c12])), rfl⟩
def r_X7_bitsOf : Room := { frames := 0, cells := 0, slots := 0, locals := 0 }
set_option maxRecDepth 100000 in
set_option maxHeartbeats 4000000 in
theorem k_X7_bitsOf (l : Launch) (D : va_G) (ty : Nat → ClassId) (x : UInt64) (hx : bx x = true) : gM l D ty yX7_bitsOf cX7_bitsOf 8 (some (FieldType.long : FieldType)) r_X7_bitsOf 0 0 [.double (x)] [] (fun (zr : Option Value) (zW : va_W) => zr = some (.long (x.toInt64)) ∧ zW = []) := by
  refine gM_of RX7 rfl (by decide +kernel) (Nat.le_of_ble_eq_true rfl) ?_
  intro pg en s0 mi ag bl mth cd AA HH QQ C E hnm
  show gW pg l en r_X7_bitsOf s0 mi ag bl mth cd 8 D AA HH QQ 0 [(0, .double (x))] [] [] 0 0
  refine g_dload_n C 0 rfl dX7_bitsOf_0 ?_
  refine g_dconst0 C dX7_bitsOf_1 ?_
  refine g_dcmp C (Op.cmpValue (FP.dcmp x 0) .l) rfl dX7_bitsOf_2 ?_
  refine g_if_gt C 8 dX7_bitsOf_3 rfl (fun c3 => ?_) (fun c3 => ?_)
  · skip
    refine g_dload_n C 0 rfl dX7_bitsOf_8 ?_
    refine g_dstore_n C [(2, .double (x)), (0, .double (x))] dX7_bitsOf_9 rfl (by decide) rfl ?_
    refine g_ldc2 C wd_X7_268 dX7_bitsOf_10 ?_
    refine g_st [.long (lN 1023)] (congrArg (fun z => [Value.long z]) (by decide +kernel)) ?_
    refine g_lstore C [(4, .long (lN 1023)), (2, .double (x)), (0, .double (x))] dX7_bitsOf_13 (by decide) rfl ?_
    refine g_iconst C (nI 0) ic_0 dX7_bitsOf_15 ?_
    refine g_istore C [(6, .int (nI 0)), (4, .long (lN 1023)), (2, .double (x)), (0, .double (x))] dX7_bitsOf_16 (by decide) rfl ?_
    refine g_lo [3, 2, 1, 0] [(0, .double (x)), (2, .double (x)), (4, .long (lN 1023)), (6, .int (nI 0))] rfl ?_
    have L18 : ∀ (fu18 : Nat) (k : Nat) (s : UInt64) (hk : k ≤ 8) (hs : sbl (8 - k) (1023 - k) s = some x.toInt64), (8 - k) < fu18 → gW pg l en r_X7_bitsOf s0 mi ag bl mth cd 8 D AA HH QQ 18 [(0, .double (x)), (2, .double (s)), (4, .long (lN (1023 - k))), (6, .int (nI k))] [] [] 0 0 := by
      intro fu18
      induction fu18 with
      | zero => intro k s hk hs hfu; exact absurd hfu (Nat.not_lt_zero _)
      | succ fu18 ih18 =>
        intro k s hk hs hfu18
        refine g_iload C 3 rfl dX7_bitsOf_18 ?_
        refine g_sipush C (nI 1022) sp_1022 dX7_bitsOf_20 ?_
        refine g_icmp_geN C k 1022 50 rfl rfl (by omega) (by omega) dX7_bitsOf_23 rfl (fun c23 => ?_) (fun c23 => ?_)
        · skip
          exact absurd c23 (by omega)
        · skip
          refine g_dload_n C 1 rfl dX7_bitsOf_26 ?_
          refine g_dconst1 C dX7_bitsOf_27 ?_
          refine g_dcmp C (Op.cmpValue (FP.dcmp s 0x3ff0000000000000) .g) rfl dX7_bitsOf_28 ?_
          refine g_if_ge C 50 dX7_bitsOf_29 rfl (fun c29 => ?_) (fun c29 => ?_)
          · skip
            have hbg := bl_ge hs (by first | exact Int32.not_lt.mpr c29 | exact fun z => absurd c29 (Int32.not_le.mpr z))
            refine g_dload_n C 1 rfl dX7_bitsOf_50 ?_
            refine g_dconst1 C dX7_bitsOf_51 ?_
            refine g_dsub C (FP.dsub s 0x3ff0000000000000) rfl (bN_n hbg.1) dX7_bitsOf_52 ?_
            refine g_ldc2d C wd_X7_272 dX7_bitsOf_53 ?_
            refine g_dmul C (FP.dmul (FP.dsub s 0x3ff0000000000000) 0x4330000000000000) rfl (bN_n hbg.2.1) dX7_bitsOf_56 ?_
            refine g_d2l C (FP.d2l (FP.dmul (FP.dsub s 0x3ff0000000000000) 0x4330000000000000)) rfl dX7_bitsOf_57 ?_
            refine g_lstore C [(6, .long (FP.d2l (FP.dmul (FP.dsub s 0x3ff0000000000000) 0x4330000000000000))), (0, .double (x)), (2, .double (s)), (4, .long (lN (1023 - k)))] dX7_bitsOf_58 (by decide) rfl ?_
            refine g_lload C 3 rfl dX7_bitsOf_60 ?_
            refine g_bipush C (nI 52) bp_52 dX7_bitsOf_62 ?_
            refine g_lshl C ((lN (1023 - k)) <<< ((nI 52).toInt64 &&& 63)) rfl dX7_bitsOf_64 ?_
            refine g_lload C 0 rfl dX7_bitsOf_65 ?_
            refine g_lor C (((lN (1023 - k)) <<< ((nI 52).toInt64 &&& 63)) ||| (FP.d2l (FP.dmul (FP.dsub s 0x3ff0000000000000) 0x4330000000000000))) dX7_bitsOf_67 rfl ?_
            exact g_lret E dX7_bitsOf_68 (by decide) (by decide) ⟨(congrArg (fun z => some (Value.long z)) hbg.2.2), rfl⟩
          · skip
            have hbl := bl_lt hs (by first | exact c29 | exact Int32.not_le.mp c29)
            refine g_dload_n C 1 rfl dX7_bitsOf_32 ?_
            refine g_ldc2d C wd_X7_270 dX7_bitsOf_33 ?_
            refine g_dmul C (FP.dmul s 0x4000000000000000) rfl (bN_n hbl.2.1) dX7_bitsOf_36 ?_
            refine g_dstore_n C [(2, .double (FP.dmul s 0x4000000000000000)), (0, .double (x)), (4, .long (lN (1023 - k))), (6, .int (nI k))] dX7_bitsOf_37 rfl (by decide) rfl ?_
            refine g_lload C 2 rfl dX7_bitsOf_38 ?_
            refine g_lconst C (lN 1) lc_1 dX7_bitsOf_40 ?_
            refine g_lsub C (lN (1023 - (k + 1))) dX7_bitsOf_41 (lN_sb k (by omega)) ?_
            refine g_lstore C [(4, .long (lN (1023 - (k + 1)))), (2, .double (FP.dmul s 0x4000000000000000)), (0, .double (x)), (6, .int (nI k))] dX7_bitsOf_42 (by decide) rfl ?_
            refine g_iinc C (nI (k + 1)) [(6, .int (nI (k + 1))), (4, .long (lN (1023 - (k + 1)))), (2, .double (FP.dmul s 0x4000000000000000)), (0, .double (x))] 3 dX7_bitsOf_44 rfl (ii_1 _) (by decide) rfl ?_
            refine g_goto C 18 dX7_bitsOf_47 rfl ?_
            refine g_lo [3, 2, 1, 0] [(0, .double (x)), (2, .double (FP.dmul s 0x4000000000000000)), (4, .long (lN (1023 - (k + 1)))), (6, .int (nI (k + 1)))] rfl ?_
            exact ih18 (k + 1) (FP.dmul s 0x4000000000000000) (by have := hbl.1; omega) (by rw [show 8 - (k + 1) = 8 - k - 1 by omega, show 1023 - (k + 1) = 1023 - k - 1 by omega]; exact hbl.2.2) (by have := hbl.1; omega)
    exact L18 (8 - 0 + 1) 0 x (by omega) (bx_1 hx (by first | exact c3 | exact Int32.not_le.mp c3)) (Nat.lt_succ_self _)
  · skip
    refine g_lconst C (lN 0) lc_0 dX7_bitsOf_6 ?_
    exact g_lret E dX7_bitsOf_7 (by decide) (by decide) ⟨(congrArg (fun z => some (Value.long z)) (bx_0 hx (by first | exact c3 | exact Int32.not_lt.mpr c3))), rfl⟩
