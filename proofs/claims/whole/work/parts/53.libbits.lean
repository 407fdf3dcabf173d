/-! the bits of a share, as the library has them -/
theorem wm_Jxe99ae_134 : Cond.methodLink RJxe99ae 134 ⟨"java/lang/Double", "doubleToRawLongBits", "(D)J"⟩ ∈ gG := gm 1119 (by decide +kernel) rfl
theorem ws_Jxe99ae_raw : Cond.static ⟨"java/lang/Double", "doubleToRawLongBits", "(D)J"⟩ ∈ gG := gm 1120 (by decide +kernel) rfl
theorem wn_Jxe99ae_raw : Cond.native ⟨"java/lang/Double", "doubleToRawLongBits", "(D)J"⟩ ∈ gG := gm 1121 (by decide +kernel) rfl
theorem g_raw {p : Program} {l : Launch} {e : Env} {R : Room} {s : State} {m : MethodId} {args : Array Value} {below : List Frame} {meth : Method} {c : Code} {cc : ByteArray} {nL : Nat} {D : va_G} {ty : Nat → ClassId} {A : Nat → Prop} {H0 : Heap} {Q : State → Prop} {pc : Nat} {lo : List (Nat × Value)} {st : List Value} {ws : va_W} {k n : Nat} (C : gC p R s m args c cc nL RJxe99ae D ty A H0) {b : UInt64} (hf : 1 ≤ R.frames) (hlo : (st.map fun v => v.category).sum + 15 ≤ R.locals) (hd : decode cc pc = .ok (.invokestatic 134, 3)) (kk : gW p l e R s m args below meth c nL D A H0 Q (pc + 3) lo (.long b.toInt64 :: st) ws k n) : gW p l e R s m args below meth c nL D A H0 Q pc lo (.double b :: st) ws k n := fun ls H locs hl hP hD hS =>
  vn_d2l C.1 C.2.1 (C.2.2.1.trans hl.1.symm) C.2.2.2.1 (C.2.2.2.2.1 _ wm_Jxe99ae_134) (C.2.2.2.2.1 _ wn_Jxe99ae_raw) (C.2.2.2.2.1 _ ws_Jxe99ae_raw) (C.2.2.2.2.1 _ wi_Jxe99ae) hf hlo hd (kk ls H locs hl hP hD hS)
def bEq (x : UInt64) : Bool := decide (Op.cmpValue (FP.dcmp x x) .l = 0)
theorem bE_all : ∀ A, A < 65 → A = 0 ∨ ∀ n, n < A + 1 → bEq (bA A n) = true := by decide +kernel
theorem bE_0 : bEq 0 = true := by decide +kernel
theorem brA_eq (Z : ZT) (T : Nat → Bool) : Op.cmpValue (FP.dcmp (brA Z T) (brA Z T)) .l = 0 := by
  suffices h : bEq (brA Z T) = true from of_decide_eq_true h
  unfold brA
  by_cases h : insU (zF Z) 4 = 0
  · rw [if_pos h]; exact bE_0
  · rw [if_neg h]
    have := insU_64 (zF Z) 4
    exact (bE_all _ (show insU (zF Z) 4 < 65 by omega)).resolve_left h _ (by omega)
theorem dcm_0 (x : UInt64) (h : Op.cmpValue (FP.dcmp x x) .l = 0) : Op.cmpValue (FP.dcmp x x) .l = nI 0 := h

def r_Jxe99ae_isNaN_b9ae7 : Room := { frames := 0, cells := 0, slots := 0, locals := 0 }
set_option maxRecDepth 100000 in
set_option maxHeartbeats 4000000 in
theorem k_Jxe99ae_isNaN_b9ae7 (l : Launch) (D : va_G) (ty : Nat → ClassId) (x : UInt64) (hx : Op.cmpValue (FP.dcmp x x) .l = 0) : gM l D ty yJxe99ae_isNaN_b9ae7 cJxe99ae_isNaN_b9ae7 2 (some (FieldType.boolean : FieldType)) r_Jxe99ae_isNaN_b9ae7 0 0 [.double (x)] [] (fun (zr : Option Value) (zW : va_W) => zr = some (.int (bI (false))) ∧ zW = []) := by
  refine gM_of RJxe99ae rfl (by decide +kernel) (Nat.le_of_ble_eq_true rfl) ?_
  intro pg en s0 mi ag bl mth cd AA HH QQ C E hnm
  show gW pg l en r_Jxe99ae_isNaN_b9ae7 s0 mi ag bl mth cd 2 D AA HH QQ 0 [(0, .double (x))] [] [] 0 0
  refine g_dload_n C 0 rfl dJxe99ae_isNaN_b9ae7_0 ?_
  refine g_dload_n C 0 rfl dJxe99ae_isNaN_b9ae7_1 ?_
  refine g_dcmp C (nI 0) (dcm_0 x hx) dJxe99ae_isNaN_b9ae7_2 ?_
  refine g_if_eqN C 0 10 rfl (by omega) dJxe99ae_isNaN_b9ae7_3 rfl (fun c3 => ?_) (fun c3 => ?_)
  · skip
    refine g_iconst C (nI 0) ic_0 dJxe99ae_isNaN_b9ae7_10 ?_
    exact g_zret E false rfl dJxe99ae_isNaN_b9ae7_11 (by decide) (by decide) ⟨rfl, rfl⟩
  · skip
    exact absurd c3 (by decide)
def r_Jxe99ae_doubleToLongBits_ccdee : Room := { frames := 1, cells := 0, slots := 0, locals := 23 }
set_option maxRecDepth 100000 in
set_option maxHeartbeats 4000000 in
theorem k_Jxe99ae_doubleToLongBits_ccdee (l : Launch) (D : va_G) (ty : Nat → ClassId) (x : UInt64) (hx : Op.cmpValue (FP.dcmp x x) .l = 0) : gM l D ty yJxe99ae_doubleToLongBits_ccdee cJxe99ae_doubleToLongBits_ccdee 2 (some (FieldType.long : FieldType)) r_Jxe99ae_doubleToLongBits_ccdee 0 0 [.double (x)] [] (fun (zr : Option Value) (zW : va_W) => zr = some (.long (x.toInt64)) ∧ zW = []) := by
  refine gM_of RJxe99ae rfl (by decide +kernel) (Nat.le_of_ble_eq_true rfl) ?_
  intro pg en s0 mi ag bl mth cd AA HH QQ C E hnm
  show gW pg l en r_Jxe99ae_doubleToLongBits_ccdee s0 mi ag bl mth cd 2 D AA HH QQ 0 [(0, .double (x))] [] [] 0 0
  refine g_dload_n C 0 rfl dJxe99ae_doubleToLongBits_ccdee_0 ?_
  refine g_callS0 C (nA := 1) (k_Jxe99ae_isNaN_b9ae7 l D ty x hx) wm_Jxe99ae_122 ws_Jxe99ae_isNaN_b9ae7 wi_Jxe99ae wc_Jxe99ae_isNaN_b9ae7 rfl (by decide +kernel) ⟨(Nat.le_of_ble_eq_true rfl), (Nat.le_of_ble_eq_true rfl)⟩ ⟨rfl, rfl⟩ dJxe99ae_doubleToLongBits_ccdee_1 (fun _ _ h => h.2) (Nat.le_of_ble_eq_true rfl) rfl ⟨Nat.zero_le _, Nat.zero_le _⟩ (fun r hp => ?_)
  obtain ⟨rfl, -⟩ := hp
  refine g_st [.int (bI (false))] rfl ?_
  refine g_if_neB C false 12 rfl dJxe99ae_doubleToLongBits_ccdee_4 rfl (fun c4 => ?_) (fun c4 => ?_)
  · skip
    exact absurd c4 (by decide)
  · skip
    refine g_dload_n C 0 rfl dJxe99ae_doubleToLongBits_ccdee_7 ?_
    refine g_raw C (by decide) (by decide) dJxe99ae_doubleToLongBits_ccdee_8 ?_
    exact g_lret E dJxe99ae_doubleToLongBits_ccdee_11 (by decide) (by decide) ⟨rfl, rfl⟩
