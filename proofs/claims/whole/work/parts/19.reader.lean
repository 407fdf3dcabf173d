section GTSW
variable {p : Program} {l : Launch} {e : Env} {R : Room} {s : State} {m : MethodId} {args : Array Value} {below : List Frame} {meth : Method} {c : Code} {cc : ByteArray} {nL : Nat} {own : String} {D : va_G} {ty : Nat → ClassId} {A : Nat → Prop} {H0 : Heap} {Q : State → Prop} {pc : Nat} {lo : List (Nat × Value)} {st : List Value} {ws : va_W} {k n : Nat}
theorem g_tswIn (C : gC p R s m args c cc nL own D ty A H0) {x : Int32} (y : Int32) (hx : x = y) {dflt low hi : Int} {offs : Array Int} {len : Nat} {off : Int} (tgt : Nat) (hd : decode cc pc = .ok (.tableswitch dflt low hi offs, len)) (h1 : ¬ y.toInt < low) (h2 : ¬ hi < y.toInt) (ho : offs[(y.toInt - low).toNat]? = some off) (ht : (pc : Int) + off = (tgt : Int)) (kk : gW p l e R s m args below meth c nL D A H0 Q tgt lo st ws k n) : gW p l e R s m args below meth c nL D A H0 Q pc lo (.int x :: st) ws k n := by
  subst hx
  exact fun ls H locs hl hP hD hS => lv_tableIn C.1 C.2.1 hd h1 h2 ho ht (kk ls H locs hl hP hD hS)
theorem g_tswOut (C : gC p R s m args c cc nL own D ty A H0) {x : Int32} {dflt low hi : Int} {offs : Array Int} {len : Nat} (tgt : Nat) (hd : decode cc pc = .ok (.tableswitch dflt low hi offs, len)) (h : x.toInt < low ∨ hi < x.toInt) (ht : (pc : Int) + dflt = (tgt : Int)) (kk : gW p l e R s m args below meth c nL D A H0 Q tgt lo st ws k n) : gW p l e R s m args below meth c nL D A H0 Q pc lo (.int x :: st) ws k n := fun ls H locs hl hP hD hS => lv_tableOut C.1 C.2.1 hd h ht (kk ls H locs hl hP hD hS)
end GTSW
/-! the buffer and its reader -/
def tI (b : Nat → Nat) : Nat → Int32 := fun j => nI (b j)
def tc (b : Nat → Nat) (len i : Nat) : Nat := if i < len then b i else 256
theorem tI_up (b : Nat → Nat) (i v : Nat) : upd (tI b) i (nI v) = tI (upN b i v) := by
  funext j
  unfold upd tI upN
  by_cases h : j = i <;> simp [h]
def ltc (c : Nat) : Nat := if 97 ≤ c ∧ c ≤ 100 then c - 97 else 256
def tmc (c : Nat) : Nat := if c = 120 then 4 else if c = 121 then 5 else if c = 122 then 6 else if c = 119 then 7 else if 48 ≤ c ∧ c ≤ 51 then c - 48 else 256
abbrev YT : Type := Nat × Nat × (Nat → Nat)
def stb (Y : YT) : Bool := if Y.2.1 = 3 then (if 0 < Y.1 then true else isF (Y.2.2 0)) else false
/-- a sign is read -/
def tk (c : Nat) (Y : YT) : Bool × YT :=
  if Y.2.1 = 3 then (if c = 59 ∧ stb Y = true then (true, (0, 0, Y.2.2)) else if (c = 60 ∧ Y.1 = 0) ∨ (c = 38 ∧ Y.1 = 1) then (true, (Y.1 + 1, 0, Y.2.2)) else (false, Y))
  else if (if Y.2.1 = 0 then ltc c else tmc c) = 256 then (false, Y)
  else (true, (Y.1, Y.2.1 + 1, upN Y.2.2 Y.1 (if Y.2.1 = 0 then 64 * ltc c + 8 * 0 + 0 else Y.2.2 Y.1 + (if Y.2.1 = 1 then 64 * 0 + 8 * tmc c + 0 else tmc c))))
def okY (Y : YT) : Prop := Y.1 ≤ 2 ∧ Y.2.1 ≤ 3 ∧ (∀ j, j < 3 → Y.2.2 j < 256) ∧ (Y.2.1 = 1 → Y.2.2 Y.1 % 64 = 0) ∧ (Y.2.1 = 2 → Y.2.2 Y.1 % 8 = 0)
theorem tmc_le {c : Nat} : tmc c ≠ 256 → tmc c < 8 := by unfold tmc; grind
theorem ltc_le {c : Nat} : ltc c ≠ 256 → ltc c < 4 := by unfold ltc; grind
theorem okY_m (a : Nat) (as : Nat → Nat) (ha : a ≤ 2) (h : ∀ j, j < 3 → as j < 256) : okY (a, 0, as) := by
  refine ⟨ha, Nat.zero_le _, h, ?_, ?_⟩
  · intro q; cases q
  · intro q; cases q
theorem okY_tk {Y : YT} (h : okY Y) (c : Nat) : okY (tk c Y).2 := by
  obtain ⟨at_, nx, as⟩ := Y
  obtain ⟨h1, h2, h3, h4, h5⟩ := id h
  simp only at h1 h2 h3 h4 h5
  unfold tk
  simp only
  split
  · split
    · exact okY_m 0 as (Nat.zero_le _) h3
    · split
      · rename_i hh
        exact okY_m (at_ + 1) as (by omega) h3
      · exact h
  · rename_i hn
    by_cases hv : (if nx = 0 then ltc c else tmc c) = 256
    · rw [if_pos hv]; exact h
    · rw [if_neg hv]
      have hb := h3 at_ (by omega)
      refine ⟨h1, by simp only; omega, ?_, ?_, ?_⟩
      · intro j hj
        simp only [upN]
        split
        · split
          · rename_i e0; rw [if_pos e0] at hv; have := ltc_le hv; omega
          · rename_i e0; rw [if_neg e0] at hv
            have := tmc_le hv
            split
            · rename_i e1; have := h4 e1; omega
            · rename_i e1; have := h5 (by omega); omega
        · exact h3 j hj
      · intro q
        simp only [upN] at q ⊢
        have e0 : nx = 0 := by omega
        simp only [e0, if_true]; omega
      · intro q
        simp only [upN] at q ⊢
        have e1 : nx = 1 := by omega
        have := h4 e1
        simp only [e1, if_true]
        simp only [show ¬ (1 : Nat) = 0 by decide, if_false]
        omega
theorem isFi_N : ∀ a, a < 256 → isFi (nI (a / 64)) (nI (a / 8 % 8)) (nI (a % 8)) = isF a := by decide +kernel
/-- the reader behind n signs, from the start of a text -/
def ry (b : Nat → Nat) (as : Nat → Nat) : Nat → YT
  | 0 => (0, 0, as)
  | n + 1 => (tk (b n) (ry b as n)).2
/-- the first error below n -/
def fe (b : Nat → Nat) (as : Nat → Nat) : Nat → Option Nat
  | 0 => none
  | n + 1 => match fe b as n with
    | some i => some i
    | none => if (tk (b n) (ry b as n)).1 = true then none else some n
theorem fe_s {b as : Nat → Nat} {n : Nat} (h : fe b as n = none) : fe b as (n + 1) = if (tk (b n) (ry b as n)).1 = true then none else some n := by rw [fe, h]
theorem fe_le {b as : Nat → Nat} {n a : Nat} (h : fe b as n = some a) (k : Nat) : fe b as (n + k) = some a := by
  induction k with
  | zero => exact h
  | succ k ih => rw [← Nat.add_assoc, fe, ih]
theorem okY_ry {b as : Nat → Nat} (h : ∀ j, j < 3 → as j < 256) (n : Nat) : okY (ry b as n) := by
  induction n with
  | zero => exact okY_m 0 as (Nat.zero_le _) h
  | succ n ih => exact okY_tk ih _
abbrev PT : Type := Nat × (Nat → Bool) × (Nat → Nat) × Nat
/-- a law comes -/
def plw (Y : YT) (P : PT) : Option PT := if Y.1 = 0 then some (P.1 + 1, zPut P.2.1 (Y.2.2 0), P.2.2.1, P.2.2.2)
  else if P.2.2.2 < 6 then some (P.1 + 1, P.2.1, aR P.2.2.1 P.2.2.2 (Y.2.2 0) (Y.2.2 1) (if Y.1 = 2 then Y.2.2 2 else 256), P.2.2.2 + 1) else none
/-- the laws that end below n -/
def pst (b as : Nat → Nat) (len : Nat) (P : PT) : Nat → Option PT
  | 0 => some P
  | n + 1 => (pst b as len P n).bind (fun P2 => if n = len ∨ b n = 59 then plw (ry b as n) P2 else some P2)

def r_X6_size : Room := { frames := 0, cells := 0, slots := 0, locals := 0 }
set_option maxRecDepth 100000 in
set_option maxHeartbeats 4000000 in
theorem k_X6_size (l : Launch) (D : va_G) (ty : Nat → ClassId) (t0 : Nat) (t1 : Nat) (len : Nat)  : gM l D ty yX6_size cX6_size 1 (some (FieldType.int : FieldType)) r_X6_size 0 0 [.ref t0] [(t0, .inr (4, [.ref t1, .int (nI len)]))] (fun (zr : Option Value) (zW : va_W) => zr = some (.int (nI len)) ∧ zW = [(t0, .inr (4, [.ref t1, .int (nI len)]))]) := by
  refine gM_of RX6 rfl (by decide +kernel) (Nat.le_of_ble_eq_true rfl) ?_
  intro pg en s0 mi ag bl mth cd AA HH QQ C E hnm
  show gW pg l en r_X6_size s0 mi ag bl mth cd 1 D AA HH QQ 0 [(0, .ref t0)] [] [(t0, .inr (4, [.ref t1, .int (nI len)]))] 0 0
  refine g_aload_n C 0 rfl dX6_size_0 ?_
  refine g_getf C wu_X6 0 rfl rfl 1 (by decide) wf_X6_15 rfl rfl dX6_size_1 ?_
  exact g_iret E dX6_size_4 (by decide) (by decide) ⟨rfl, rfl⟩
def r_X6_at : Room := { frames := 0, cells := 0, slots := 0, locals := 0 }
set_option maxRecDepth 100000 in
set_option maxHeartbeats 4000000 in
theorem k_X6_at (l : Launch) (D : va_G) (ty : Nat → ClassId) (t0 : Nat) (t1 : Nat) (b : Nat → Nat) (len : Nat) (i : Nat) (hl : len ≤ 60) (hi : i < 2 ^ 31) (hb : ∀ j, j < len → b j < 128) : gM l D ty yX6_at cX6_at 2 (some (FieldType.int : FieldType)) r_X6_at 0 0 [.ref t0, .int (nI i)] [(t0, .inr (4, [.ref t1, .int (nI len)])), (t1, .inl (ty 0, 60, .inl (tI b)))] (fun (zr : Option Value) (zW : va_W) => zr = some (.int (eA (tc b len i))) ∧ zW = [(t0, .inr (4, [.ref t1, .int (nI len)])), (t1, .inl (ty 0, 60, .inl (tI b)))]) := by
  refine gM_of RX6 rfl (by decide +kernel) (Nat.le_of_ble_eq_true rfl) ?_
  intro pg en s0 mi ag bl mth cd AA HH QQ C E hnm
  show gW pg l en r_X6_at s0 mi ag bl mth cd 2 D AA HH QQ 0 [(0, .ref t0), (1, .int (nI i))] [] [(t0, .inr (4, [.ref t1, .int (nI len)])), (t1, .inl (ty 0, 60, .inl (tI b)))] 0 0
  refine g_iload_n C 1 rfl dX6_at_0 ?_
  refine g_if_lt C 30 dX6_at_1 rfl (fun c1 => ?_) (fun c1 => ?_)
  · skip
    exact absurd c1 (nI_pos (by omega))
  · skip
    refine g_iload_n C 1 rfl dX6_at_4 ?_
    refine g_aload_n C 0 rfl dX6_at_5 ?_
    refine g_getf C wu_X6 0 rfl rfl 1 (by decide) wf_X6_15 rfl rfl dX6_at_6 ?_
    refine g_icmp_geN C i len 30 rfl rfl (by omega) (by omega) dX6_at_9 rfl (fun c9 => ?_) (fun c9 => ?_)
    · skip
      refine g_iconst C (-1) ic_m1 dX6_at_30 ?_
      exact g_iret E dX6_at_31 (by decide) (by decide) ⟨(congrArg (fun z => some (Value.int z)) (by first | (rw [show tc b len i = 256 from if_neg (by omega)]; first | done | rfl) | (rw [show tc b len i = b i from if_pos (by omega), eA_n (by have := hb i (by omega); omega)]; first | done | rfl))), rfl⟩
    · skip
      have hb0 : i < len := by omega
      refine g_iload_n C 1 rfl dX6_at_12 ?_
      refine g_aload_n C 0 rfl dX6_at_13 ?_
      refine g_getf C wu_X6 0 rfl rfl 0 (by decide) wf_X6_9 rfl rfl dX6_at_14 ?_
      refine g_alen C 1 0 rfl rfl (nI 60) rfl dX6_at_17 ?_
      refine g_icmp_geN C i 60 30 rfl rfl (by omega) (by omega) dX6_at_18 rfl (fun c18 => ?_) (fun c18 => ?_)
      · skip
        exact absurd c18 (by omega)
      · skip
        refine g_aload_n C 0 rfl dX6_at_21 ?_
        refine g_getf C wu_X6 0 rfl rfl 0 (by decide) wf_X6_9 rfl rfl dX6_at_22 ?_
        refine g_iload_n C 1 rfl dX6_at_25 ?_
        refine g_iald C 1 rfl i rfl (by omega) (by decide) (nI (b i)) rfl dX6_at_26 ?_
        refine g_goto C 31 dX6_at_27 rfl ?_
        exact g_iret E dX6_at_31 (by decide) (by decide) ⟨(congrArg (fun z => some (Value.int z)) (by first | (rw [show tc b len i = 256 from if_neg (by omega)]; first | done | rfl) | (rw [show tc b len i = b i from if_pos (by omega), eA_n (by have := hb i (by omega); omega)]; first | done | rfl))), rfl⟩
def r_X6_put : Room := { frames := 0, cells := 0, slots := 0, locals := 0 }
set_option maxRecDepth 100000 in
set_option maxHeartbeats 4000000 in
theorem k_X6_put (l : Launch) (D : va_G) (ty : Nat → ClassId) (t0 : Nat) (t1 : Nat) (b : Nat → Nat) (len : Nat) (v : Nat) (hl : len < 60) : gM l D ty yX6_put cX6_put 2 none r_X6_put 0 0 [.ref t0, .int (nI v)] [(t0, .inr (4, [.ref t1, .int (nI len)])), (t1, .inl (ty 0, 60, .inl (tI b)))] (fun (zr : Option Value) (zW : va_W) => zr = none ∧ zW = [(t0, .inr (4, [.ref t1, .int (nI (len + 1))])), (t1, .inl (ty 0, 60, .inl (tI (upN b len v))))]) := by
  refine gM_of RX6 rfl (by decide +kernel) (Nat.le_of_ble_eq_true rfl) ?_
  intro pg en s0 mi ag bl mth cd AA HH QQ C E hnm
  show gW pg l en r_X6_put s0 mi ag bl mth cd 2 D AA HH QQ 0 [(0, .ref t0), (1, .int (nI v))] [] [(t0, .inr (4, [.ref t1, .int (nI len)])), (t1, .inl (ty 0, 60, .inl (tI b)))] 0 0
  refine g_aload_n C 0 rfl dX6_put_0 ?_
  refine g_getf C wu_X6 0 rfl rfl 1 (by decide) wf_X6_15 rfl rfl dX6_put_1 ?_
  refine g_if_lt C 39 dX6_put_4 rfl (fun c4 => ?_) (fun c4 => ?_)
  · skip
    exact absurd c4 (nI_pos (by omega))
  · skip
    refine g_aload_n C 0 rfl dX6_put_7 ?_
    refine g_getf C wu_X6 0 rfl rfl 1 (by decide) wf_X6_15 rfl rfl dX6_put_8 ?_
    refine g_aload_n C 0 rfl dX6_put_11 ?_
    refine g_getf C wu_X6 0 rfl rfl 0 (by decide) wf_X6_9 rfl rfl dX6_put_12 ?_
    refine g_alen C 1 0 rfl rfl (nI 60) rfl dX6_put_15 ?_
    refine g_icmp_geN C len 60 39 rfl rfl (by omega) (by omega) dX6_put_16 rfl (fun c16 => ?_) (fun c16 => ?_)
    · skip
      exact absurd c16 (by omega)
    · skip
      refine g_aload_n C 0 rfl dX6_put_19 ?_
      refine g_getf C wu_X6 0 rfl rfl 0 (by decide) wf_X6_9 rfl rfl dX6_put_20 ?_
      refine g_aload_n C 0 rfl dX6_put_23 ?_
      refine g_getf C wu_X6 0 rfl rfl 1 (by decide) wf_X6_15 rfl rfl dX6_put_24 ?_
      refine g_iload_n C 1 rfl dX6_put_27 ?_
      refine g_iast C 1 rfl len rfl (by omega) (by decide) dX6_put_28 (tI (upN b len v)) (tI_up _ _ _) [(t0, .inr (4, [.ref t1, .int (nI len)])), (t1, .inl (ty 0, 60, .inl (tI (upN b len v))))] rfl ?_
      refine g_aload_n C 0 rfl dX6_put_29 ?_
      refine g_dup C rfl dX6_put_30 ?_
      refine g_getf C wu_X6 0 rfl rfl 1 (by decide) wf_X6_15 rfl rfl dX6_put_31 ?_
      refine g_iconst C (nI 1) ic_1 dX6_put_34 ?_
      refine g_iadd C (nI (len + 1)) dX6_put_35 (nI_add _ _) ?_
      refine g_putf C wu_X6 tyX6 tyX6_ok nmX6 0 rfl rfl 1 (by decide) wf_X6_15 rfl rfl rfl rfl (Nat.le_of_ble_eq_true rfl) dX6_put_36 [(t0, .inr (4, [.ref t1, .int (nI (len + 1))])), (t1, .inl (ty 0, 60, .inl (tI (upN b len v))))] rfl ?_
      exact g_vret E dX6_put_39 (by decide) (by decide) ⟨rfl, rfl⟩
def r_X6_empty : Room := { frames := 0, cells := 0, slots := 0, locals := 0 }
set_option maxRecDepth 100000 in
set_option maxHeartbeats 4000000 in
theorem k_X6_empty (l : Launch) (D : va_G) (ty : Nat → ClassId) (t0 : Nat) (t1 : Nat) (len : Nat)  : gM l D ty yX6_empty cX6_empty 1 none r_X6_empty 0 0 [.ref t0] [(t0, .inr (4, [.ref t1, .int (nI len)]))] (fun (zr : Option Value) (zW : va_W) => zr = none ∧ zW = [(t0, .inr (4, [.ref t1, .int (nI 0)]))]) := by
  refine gM_of RX6 rfl (by decide +kernel) (Nat.le_of_ble_eq_true rfl) ?_
  intro pg en s0 mi ag bl mth cd AA HH QQ C E hnm
  show gW pg l en r_X6_empty s0 mi ag bl mth cd 1 D AA HH QQ 0 [(0, .ref t0)] [] [(t0, .inr (4, [.ref t1, .int (nI len)]))] 0 0
  refine g_aload_n C 0 rfl dX6_empty_0 ?_
  refine g_iconst C (nI 0) ic_0 dX6_empty_1 ?_
  refine g_putf C wu_X6 tyX6 tyX6_ok nmX6 0 rfl rfl 1 (by decide) wf_X6_15 rfl rfl rfl rfl (Nat.le_of_ble_eq_true rfl) dX6_empty_2 [(t0, .inr (4, [.ref t1, .int (nI 0)]))] rfl ?_
  exact g_vret E dX6_empty_5 (by decide) (by decide) ⟨rfl, rfl⟩
def r_X3_begin : Room := { frames := 0, cells := 0, slots := 0, locals := 0 }
set_option maxRecDepth 100000 in
set_option maxHeartbeats 4000000 in
theorem k_X3_begin (l : Launch) (D : va_G) (ty : Nat → ClassId) (y0 : Nat) (y1 : Nat) (at0 : Nat) (nx0 : Nat)  : gM l D ty yX3_begin cX3_begin 1 none r_X3_begin 0 0 [.ref y0] [(y0, .inr (1, [.ref y1, .int (nI at0), .int (nI nx0)]))] (fun (zr : Option Value) (zW : va_W) => zr = none ∧ zW = [(y0, .inr (1, [.ref y1, .int (nI 0), .int (nI 0)]))]) := by
  refine gM_of RX3 rfl (by decide +kernel) (Nat.le_of_ble_eq_true rfl) ?_
  intro pg en s0 mi ag bl mth cd AA HH QQ C E hnm
  show gW pg l en r_X3_begin s0 mi ag bl mth cd 1 D AA HH QQ 0 [(0, .ref y0)] [] [(y0, .inr (1, [.ref y1, .int (nI at0), .int (nI nx0)]))] 0 0
  refine g_aload_n C 0 rfl dX3_begin_0 ?_
  refine g_iconst C (nI 0) ic_0 dX3_begin_1 ?_
  refine g_putf C wu_X3 tyX3 tyX3_ok nmX3 0 rfl rfl 1 (by decide) wf_X3_36 rfl rfl rfl rfl (Nat.le_of_ble_eq_true rfl) dX3_begin_2 [(y0, .inr (1, [.ref y1, .int (nI 0), .int (nI nx0)]))] rfl ?_
  refine g_aload_n C 0 rfl dX3_begin_5 ?_
  refine g_iconst C (nI 0) ic_0 dX3_begin_6 ?_
  refine g_putf C wu_X3 tyX3 tyX3_ok nmX3 0 rfl rfl 2 (by decide) wf_X3_32 rfl rfl rfl rfl (Nat.le_of_ble_eq_true rfl) dX3_begin_7 [(y0, .inr (1, [.ref y1, .int (nI 0), .int (nI 0)]))] rfl ?_
  exact g_vret E dX3_begin_10 (by decide) (by decide) ⟨rfl, rfl⟩
def r_X3_letterOf : Room := { frames := 0, cells := 0, slots := 0, locals := 0 }
set_option maxRecDepth 100000 in
set_option maxHeartbeats 4000000 in
theorem k_X3_letterOf (l : Launch) (D : va_G) (ty : Nat → ClassId) (c : Nat) (hc : c < 257) : gM l D ty yX3_letterOf cX3_letterOf 1 (some (FieldType.int : FieldType)) r_X3_letterOf 0 0 [.int (eA c)] [] (fun (zr : Option Value) (zW : va_W) => zr = some (.int (eA (ltc c))) ∧ zW = []) := by
  refine gM_of RX3 rfl (by decide +kernel) (Nat.le_of_ble_eq_true rfl) ?_
  intro pg en s0 mi ag bl mth cd AA HH QQ C E hnm
  show gW pg l en r_X3_letterOf s0 mi ag bl mth cd 1 D AA HH QQ 0 [(0, .int (eA c))] [] [] 0 0
  refine g_iload_n C 0 rfl dX3_letterOf_0 ?_
  refine g_bipush C (nI 97) bp_97 dX3_letterOf_1 ?_
  refine g_icmp_lt C 19 dX3_letterOf_3 rfl (fun c3 => ?_) (fun c3 => ?_)
  · skip
    refine g_iconst C (-1) ic_m1 dX3_letterOf_19 ?_
    exact g_iret E dX3_letterOf_20 (by decide) (by decide) ⟨(congrArg (fun z => some (Value.int z)) (by clear C E; revert c; decide +kernel)), rfl⟩
  · skip
    refine g_iload_n C 0 rfl dX3_letterOf_6 ?_
    refine g_bipush C (nI 100) bp_100 dX3_letterOf_7 ?_
    refine g_icmp_gt C 19 dX3_letterOf_9 rfl (fun c9 => ?_) (fun c9 => ?_)
    · skip
      refine g_iconst C (-1) ic_m1 dX3_letterOf_19 ?_
      exact g_iret E dX3_letterOf_20 (by decide) (by decide) ⟨(congrArg (fun z => some (Value.int z)) (by clear C E; revert c; decide +kernel)), rfl⟩
    · skip
      refine g_iload_n C 0 rfl dX3_letterOf_12 ?_
      refine g_bipush C (nI 97) bp_97 dX3_letterOf_13 ?_
      refine g_isub C ((eA c) - (nI 97)) dX3_letterOf_15 rfl ?_
      refine g_goto C 20 dX3_letterOf_16 rfl ?_
      exact g_iret E dX3_letterOf_20 (by decide) (by decide) ⟨(congrArg (fun z => some (Value.int z)) (by clear C E; revert c; decide +kernel)), rfl⟩
def r_X3_termOf : Room := { frames := 0, cells := 0, slots := 0, locals := 0 }
set_option maxRecDepth 100000 in
set_option maxHeartbeats 4000000 in
theorem k_X3_termOf (l : Launch) (D : va_G) (ty : Nat → ClassId) (c : Nat) (hc : c < 257) : gM l D ty yX3_termOf cX3_termOf 1 (some (FieldType.int : FieldType)) r_X3_termOf 0 0 [.int (eA c)] [] (fun (zr : Option Value) (zW : va_W) => zr = some (.int (eA (tmc c))) ∧ zW = []) := by
  refine gM_of RX3 rfl (by decide +kernel) (Nat.le_of_ble_eq_true rfl) ?_
  intro pg en s0 mi ag bl mth cd AA HH QQ C E hnm
  show gW pg l en r_X3_termOf s0 mi ag bl mth cd 1 D AA HH QQ 0 [(0, .int (eA c))] [] [] 0 0
  refine g_iload_n C 0 rfl dX3_termOf_0 ?_
  rcases (show c = 119 ∨ c = 120 ∨ c = 121 ∨ c = 122 ∨ (c ≠ 119 ∧ c ≠ 120 ∧ c ≠ 121 ∧ c ≠ 122) by omega) with hs | hs | hs | hs | hs
  · skip
    refine g_tswIn C (off := 38) (nI 119) (by rw [hs]; rfl) 39 dX3_termOf_1 (by decide +kernel) (by decide +kernel) (by decide +kernel) rfl ?_
    refine g_bipush C (nI 7) bp_7 dX3_termOf_39 ?_
    exact g_iret E dX3_termOf_41 (by decide) (by decide) ⟨(congrArg (fun z => some (Value.int z)) (by clear C E; revert c; decide +kernel)), rfl⟩
  · skip
    refine g_tswIn C (off := 31) (nI 120) (by rw [hs]; rfl) 32 dX3_termOf_1 (by decide +kernel) (by decide +kernel) (by decide +kernel) rfl ?_
    refine g_iconst C (nI 4) ic_4 dX3_termOf_32 ?_
    exact g_iret E dX3_termOf_33 (by decide) (by decide) ⟨(congrArg (fun z => some (Value.int z)) (by clear C E; revert c; decide +kernel)), rfl⟩
  · skip
    refine g_tswIn C (off := 33) (nI 121) (by rw [hs]; rfl) 34 dX3_termOf_1 (by decide +kernel) (by decide +kernel) (by decide +kernel) rfl ?_
    refine g_iconst C (nI 5) ic_5 dX3_termOf_34 ?_
    exact g_iret E dX3_termOf_35 (by decide) (by decide) ⟨(congrArg (fun z => some (Value.int z)) (by clear C E; revert c; decide +kernel)), rfl⟩
  · skip
    refine g_tswIn C (off := 35) (nI 122) (by rw [hs]; rfl) 36 dX3_termOf_1 (by decide +kernel) (by decide +kernel) (by decide +kernel) rfl ?_
    refine g_bipush C (nI 6) bp_6 dX3_termOf_36 ?_
    exact g_iret E dX3_termOf_38 (by decide) (by decide) ⟨(congrArg (fun z => some (Value.int z)) (by clear C E; revert c; decide +kernel)), rfl⟩
  · skip
    refine g_tswOut C 42 dX3_termOf_1 (by clear C E; revert c; decide +kernel) rfl ?_
    refine g_iload_n C 0 rfl dX3_termOf_42 ?_
    refine g_bipush C (nI 48) bp_48 dX3_termOf_43 ?_
    refine g_icmp_lt C 61 dX3_termOf_45 rfl (fun c45 => ?_) (fun c45 => ?_)
    · skip
      refine g_iconst C (-1) ic_m1 dX3_termOf_61 ?_
      exact g_iret E dX3_termOf_62 (by decide) (by decide) ⟨(congrArg (fun z => some (Value.int z)) (by clear C E; revert c; decide +kernel)), rfl⟩
    · skip
      refine g_iload_n C 0 rfl dX3_termOf_48 ?_
      refine g_bipush C (nI 51) bp_51 dX3_termOf_49 ?_
      refine g_icmp_gt C 61 dX3_termOf_51 rfl (fun c51 => ?_) (fun c51 => ?_)
      · skip
        refine g_iconst C (-1) ic_m1 dX3_termOf_61 ?_
        exact g_iret E dX3_termOf_62 (by decide) (by decide) ⟨(congrArg (fun z => some (Value.int z)) (by clear C E; revert c; decide +kernel)), rfl⟩
      · skip
        refine g_iload_n C 0 rfl dX3_termOf_54 ?_
        refine g_bipush C (nI 48) bp_48 dX3_termOf_55 ?_
        refine g_isub C ((eA c) - (nI 48)) dX3_termOf_57 rfl ?_
        refine g_goto C 62 dX3_termOf_58 rfl ?_
        exact g_iret E dX3_termOf_62 (by decide) (by decide) ⟨(congrArg (fun z => some (Value.int z)) (by clear C E; revert c; decide +kernel)), rfl⟩
def r_X3_standsBehindLaw : Room := { frames := 1, cells := 0, slots := 0, locals := 22 }
set_option maxRecDepth 100000 in
set_option maxHeartbeats 4000000 in
theorem k_X3_standsBehindLaw (l : Launch) (D : va_G) (ty : Nat → ClassId) (y0 : Nat) (y1 : Nat) (Y : YT) (hY : okY Y) : gM l D ty yX3_standsBehindLaw cX3_standsBehindLaw 1 (some (FieldType.boolean : FieldType)) r_X3_standsBehindLaw 0 0 [.ref y0] [(y0, .inr (1, [.ref y1, .int (nI (Y.1)), .int (nI (Y.2.1))])), (y1, .inl (ty 0, 3, .inl (tI Y.2.2)))] (fun (zr : Option Value) (zW : va_W) => zr = some (.int (bI (stb Y))) ∧ zW = [(y0, .inr (1, [.ref y1, .int (nI (Y.1)), .int (nI (Y.2.1))])), (y1, .inl (ty 0, 3, .inl (tI Y.2.2)))]) := by
  have ha := hY.2.2.1 0 (by decide)
  have h1 := hY.1
  have h2 := hY.2.1
  refine gM_of RX3 rfl (by decide +kernel) (Nat.le_of_ble_eq_true rfl) ?_
  intro pg en s0 mi ag bl mth cd AA HH QQ C E hnm
  show gW pg l en r_X3_standsBehindLaw s0 mi ag bl mth cd 1 D AA HH QQ 0 [(0, .ref y0)] [] [(y0, .inr (1, [.ref y1, .int (nI (Y.1)), .int (nI (Y.2.1))])), (y1, .inl (ty 0, 3, .inl (tI Y.2.2)))] 0 0
  refine g_aload_n C 0 rfl dX3_standsBehindLaw_0 ?_
  refine g_getf C wu_X3 0 rfl rfl 2 (by decide) wf_X3_32 rfl rfl dX3_standsBehindLaw_1 ?_
  refine g_iconst C (nI 3) ic_3 dX3_standsBehindLaw_4 ?_
  refine g_icmp_eqN C Y.2.1 3 10 rfl rfl (by omega) (by omega) dX3_standsBehindLaw_5 rfl (fun c5 => ?_) (fun c5 => ?_)
  · skip
    refine g_aload_n C 0 rfl dX3_standsBehindLaw_10 ?_
    refine g_getf C wu_X3 0 rfl rfl 1 (by decide) wf_X3_36 rfl rfl dX3_standsBehindLaw_11 ?_
    refine g_if_gtN C Y.1 50 rfl (by omega) dX3_standsBehindLaw_14 rfl (fun c14 => ?_) (fun c14 => ?_)
    · skip
      refine g_iconst C (nI 1) ic_1 dX3_standsBehindLaw_50 ?_
      refine g_goto C 55 dX3_standsBehindLaw_51 rfl ?_
      exact g_zret E true rfl dX3_standsBehindLaw_55 (by decide) (by decide) ⟨(congrArg (fun z => some (Value.int (bI z))) (by unfold stb; rw [if_pos (by omega)]; first | (rw [if_pos (by omega)]; done) | (rw [if_neg (by omega), c47]; done))), rfl⟩
    · skip
      refine g_aload_n C 0 rfl dX3_standsBehindLaw_17 ?_
      refine g_getf C wu_X3 0 rfl rfl 0 (by decide) wf_X3_9 rfl rfl dX3_standsBehindLaw_18 ?_
      refine g_iconst C (nI 0) ic_0 dX3_standsBehindLaw_21 ?_
      refine g_iald C 1 rfl 0 rfl (by omega) (by decide) (nI (Y.2.2 0)) rfl dX3_standsBehindLaw_22 ?_
      refine g_callS0 C (nA := 1) (k_X1_predicate l D ty (Y.2.2 0) (by omega)) wm_X3_39 ws_X1_predicate wi_X1 wc_X1_predicate rfl (by decide +kernel) ⟨(Nat.le_of_ble_eq_true rfl), (Nat.le_of_ble_eq_true rfl)⟩ ⟨rfl, rfl⟩ dX3_standsBehindLaw_23 (fun _ _ h => h.2) (Nat.le_of_ble_eq_true rfl) rfl ⟨Nat.zero_le _, Nat.zero_le _⟩ (fun r hp => ?_)
      obtain ⟨rfl, -⟩ := hp
      refine g_st [.int (nI ((Y.2.2 0) / 64))] rfl ?_
      refine g_aload_n C 0 rfl dX3_standsBehindLaw_26 ?_
      refine g_getf C wu_X3 0 rfl rfl 0 (by decide) wf_X3_9 rfl rfl dX3_standsBehindLaw_27 ?_
      refine g_iconst C (nI 0) ic_0 dX3_standsBehindLaw_30 ?_
      refine g_iald C 1 rfl 0 rfl (by omega) (by decide) (nI (Y.2.2 0)) rfl dX3_standsBehindLaw_31 ?_
      refine g_callS0 C (nA := 1) (k_X1_first l D ty (Y.2.2 0) (by omega)) wm_X3_44 ws_X1_first wi_X1 wc_X1_first rfl (by decide +kernel) ⟨(Nat.le_of_ble_eq_true rfl), (Nat.le_of_ble_eq_true rfl)⟩ ⟨rfl, rfl⟩ dX3_standsBehindLaw_32 (fun _ _ h => h.2) (Nat.le_of_ble_eq_true rfl) rfl ⟨Nat.zero_le _, Nat.zero_le _⟩ (fun r hp => ?_)
      obtain ⟨rfl, -⟩ := hp
      refine g_st [.int (nI ((Y.2.2 0) / 8 % 8)), .int (nI ((Y.2.2 0) / 64))] rfl ?_
      refine g_aload_n C 0 rfl dX3_standsBehindLaw_35 ?_
      refine g_getf C wu_X3 0 rfl rfl 0 (by decide) wf_X3_9 rfl rfl dX3_standsBehindLaw_36 ?_
      refine g_iconst C (nI 0) ic_0 dX3_standsBehindLaw_39 ?_
      refine g_iald C 1 rfl 0 rfl (by omega) (by decide) (nI (Y.2.2 0)) rfl dX3_standsBehindLaw_40 ?_
      refine g_callS0 C (nA := 1) (k_X1_second l D ty (Y.2.2 0) (by omega)) wm_X3_47 ws_X1_second wi_X1 wc_X1_second rfl (by decide +kernel) ⟨(Nat.le_of_ble_eq_true rfl), (Nat.le_of_ble_eq_true rfl)⟩ ⟨rfl, rfl⟩ dX3_standsBehindLaw_41 (fun _ _ h => h.2) (Nat.le_of_ble_eq_true rfl) rfl ⟨Nat.zero_le _, Nat.zero_le _⟩ (fun r hp => ?_)
      obtain ⟨rfl, -⟩ := hp
      refine g_st [.int (nI ((Y.2.2 0) % 8)), .int (nI ((Y.2.2 0) / 8 % 8)), .int (nI ((Y.2.2 0) / 64))] rfl ?_
      refine g_callS0 C (nA := 3) (k_X1_isFact l D ty ((nI ((Y.2.2 0) / 64))) ((nI ((Y.2.2 0) / 8 % 8))) ((nI ((Y.2.2 0) % 8))) ) wm_X3_50 ws_X1_isFact wi_X1 wc_X1_isFact rfl (by decide +kernel) ⟨(Nat.le_of_ble_eq_true rfl), (Nat.le_of_ble_eq_true rfl)⟩ ⟨rfl, rfl⟩ dX3_standsBehindLaw_44 (fun _ _ h => h.2) (Nat.le_of_ble_eq_true rfl) rfl ⟨Nat.zero_le _, Nat.zero_le _⟩ (fun r hp => ?_)
      obtain ⟨rfl, -⟩ := hp
      refine g_st [.int (bI (isFi ((nI ((Y.2.2 0) / 64))) ((nI ((Y.2.2 0) / 8 % 8))) ((nI ((Y.2.2 0) % 8)))))] rfl ?_
      refine g_st [.int (bI (isF (Y.2.2 0)))] (by rw [isFi_N _ ha]) ?_
      refine g_if_eqB C (isF (Y.2.2 0)) 54 rfl dX3_standsBehindLaw_47 rfl (fun c47 => ?_) (fun c47 => ?_)
      · skip
        refine g_iconst C (nI 0) ic_0 dX3_standsBehindLaw_54 ?_
        exact g_zret E false rfl dX3_standsBehindLaw_55 (by decide) (by decide) ⟨(congrArg (fun z => some (Value.int (bI z))) (by unfold stb; rw [if_pos (by omega)]; first | (rw [if_pos (by omega)]; done) | (rw [if_neg (by omega), c47]; done))), rfl⟩
      · skip
        refine g_iconst C (nI 1) ic_1 dX3_standsBehindLaw_50 ?_
        refine g_goto C 55 dX3_standsBehindLaw_51 rfl ?_
        exact g_zret E true rfl dX3_standsBehindLaw_55 (by decide) (by decide) ⟨(congrArg (fun z => some (Value.int (bI z))) (by unfold stb; rw [if_pos (by omega)]; first | (rw [if_pos (by omega)]; done) | (rw [if_neg (by omega), c47]; done))), rfl⟩
  · skip
    refine g_iconst C (nI 0) ic_0 dX3_standsBehindLaw_8 ?_
    exact g_zret E false rfl dX3_standsBehindLaw_9 (by decide) (by decide) ⟨(congrArg (fun z => some (Value.int (bI z))) (by unfold stb; rw [if_neg (by omega)])), rfl⟩
