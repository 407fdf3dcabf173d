section GTSW
variable {p : Program} {l : Launch} {e : Env} {R : Room} {s : State} {m : MethodId} {args : Array Value} {below : List Frame} {meth : Method} {c : Code} {cc : ByteArray} {nL : Nat} {own : String} {D : va_G} {ty : Nat → ClassId} {A : Nat → Prop} {H0 : Heap} {Q : State → Prop} {pc : Nat} {lo : List (Nat × Value)} {st : List Value} {ws : va_W} {k n : Nat}
theorem g_tswIn (C : gC p R s m args c cc nL own D ty A H0) {x : Int32} (y : Int32) (hx : x = y) {dflt low hi : Int} {offs : Array Int} {len : Nat} {off : Int} (tgt : Nat) (hd : decode cc pc = .ok (.tableswitch dflt low hi offs, len)) (h1 : ¬ y.toInt < low) (h2 : ¬ hi < y.toInt) (ho : offs[(y.toInt - low).toNat]? = some off) (ht : (pc : Int) + off = (tgt : Int)) (kk : gW p l e R s m args below meth c nL D A H0 Q tgt lo st ws k n) : gW p l e R s m args below meth c nL D A H0 Q pc lo (.int x :: st) ws k n := by
  subst hx
  exact fun ls H locs hl hP hD hS => lv_tableIn C.1 C.2.1 hd h1 h2 ho ht (kk ls H locs hl hP hD hS)
theorem g_tswOut (C : gC p R s m args c cc nL own D ty A H0) {x : Int32} {dflt low hi : Int} {offs : Array Int} {len : Nat} (tgt : Nat) (hd : decode cc pc = .ok (.tableswitch dflt low hi offs, len)) (h : x.toInt < low ∨ hi < x.toInt) (ht : (pc : Int) + dflt = (tgt : Int)) (kk : gW p l e R s m args below meth c nL D A H0 Q tgt lo st ws k n) : gW p l e R s m args below meth c nL D A H0 Q pc lo (.int x :: st) ws k n := fun ls H locs hl hP hD hS => lv_tableOut C.1 C.2.1 hd h ht (kk ls H locs hl hP hD hS)
end GTSW
/-! the buffer and its reader -/
def tI (b : Nat → Nat) : Nat → Int32 := fun j => nI (b j)
def tc (b : Nat → Nat) (len i : Nat) : Nat := if i < len then b i else 256
theorem tI_up (b : Nat → Nat) (i v : Nat) : upd (tI b) i (nI v) = tI (upN b i v) := by
  funext j
  unfold upd tI upN
  by_cases h : j = i <;> simp [h]
def ltc (c : Nat) : Nat := if 97 ≤ c ∧ c ≤ 100 then c - 97 else 256
def tmc (c : Nat) : Nat := if c = 120 then 4 else if c = 121 then 5 else if c = 122 then 6 else if c = 119 then 7 else if 48 ≤ c ∧ c ≤ 51 then c - 48 else 256
abbrev YT : Type := Nat × Nat × (Nat → Nat)
def stb (Y : YT) : Bool := if Y.2.1 = 3 then (if 0 < Y.1 then true else isF (Y.2.2 0)) else false
/-- a sign is read -/
def tk (c : Nat) (Y : YT) : Bool × YT :=
  if Y.2.1 = 3 then (if c = 59 ∧ stb Y = true then (true, (0, 0, Y.2.2)) else if (c = 60 ∧ Y.1 = 0) ∨ (c = 38 ∧ Y.1 = 1) then (true, (Y.1 + 1, 0, Y.2.2)) else (false, Y))
  else if (if Y.2.1 = 0 then ltc c else tmc c) = 256 then (false, Y)
  else (true, (Y.1, Y.2.1 + 1, upN Y.2.2 Y.1 (if Y.2.1 = 0 then 64 * ltc c + 8 * 0 + 0 else Y.2.2 Y.1 + (if Y.2.1 = 1 then 64 * 0 + 8 * tmc c + 0 else tmc c))))
def okY (Y : YT) : Prop := Y.1 ≤ 2 ∧ Y.2.1 ≤ 3 ∧ (∀ j, j < 3 → Y.2.2 j < 256) ∧ (Y.2.1 = 1 → Y.2.2 Y.1 % 64 = 0) ∧ (Y.2.1 = 2 → Y.2.2 Y.1 % 8 = 0)
theorem tmc_le {c : Nat} : tmc c ≠ 256 → tmc c < 8 := by unfold tmc; grind
theorem ltc_le {c : Nat} : ltc c ≠ 256 → ltc c < 4 := by unfold ltc; grind
theorem okY_m (a : Nat) (as : Nat → Nat) (ha : a ≤ 2) (h : ∀ j, j < 3 → as j < 256) : okY (a, 0, as) := by
  refine ⟨ha, Nat.zero_le _, h, ?_, ?_⟩
  · intro q; cases q
  · intro q; cases q
theorem okY_tk {Y : YT} (h : okY Y) (c : Nat) : okY (tk c Y).2 := by
  obtain ⟨at_, nx, as⟩ := Y
  obtain ⟨h1, h2, h3, h4, h5⟩ := id h
  simp only at h1 h2 h3 h4 h5
  unfold tk
  simp only
  split
  · split
    · exact okY_m 0 as (Nat.zero_le _) h3
    · split
      · rename_i hh
        exact okY_m (at_ + 1) as (by omega) h3
      · exact h
  · rename_i hn
    by_cases hv : (if nx = 0 then ltc c else tmc c) = 256
    · rw [if_pos hv]; exact h
    · rw [if_neg hv]
      have hb := h3 at_ (by omega)
      refine ⟨h1, by simp only; omega, ?_, ?_, ?_⟩
      · intro j hj
        simp only [upN]
        split
        · split
          · rename_i e0; rw [if_pos e0] at hv; have := ltc_le hv; omega
          · rename_i e0; rw [if_neg e0] at hv
            have := tmc_le hv
            split
            · rename_i e1; have := h4 e1; omega
            · rename_i e1; have := h5 (by omega); omega
        · exact h3 j hj
      · intro q
        simp only [upN] at q ⊢
        have e0 : nx = 0 := by omega
        simp only [e0, if_true]; omega
      · intro q
        simp only [upN] at q ⊢
        have e1 : nx = 1 := by omega
        have := h4 e1
        simp only [e1, if_true]
        simp only [show ¬ (1 : Nat) = 0 by decide, if_false]
        omega
theorem isFi_N : ∀ a, a < 256 → isFi (nI (a / 64)) (nI (a / 8 % 8)) (nI (a % 8)) = isF a := by decide +kernel
/-- the reader behind n signs, from the start of a text -/
def ry (b : Nat → Nat) (as : Nat → Nat) : Nat → YT
  | 0 => (0, 0, as)
  | n + 1 => (tk (b n) (ry b as n)).2
/-- the first error below n -/
def fe (b : Nat → Nat) (as : Nat → Nat) : Nat → Option Nat
  | 0 => none
  | n + 1 => match fe b as n with
    | some i => some i
    | none => if (tk (b n) (ry b as n)).1 = true then none else some n
theorem fe_s {b as : Nat → Nat} {n : Nat} (h : fe b as n = none) : fe b as (n + 1) = if (tk (b n) (ry b as n)).1 = true then none else some n := by rw [fe, h]
theorem fe_le {b as : Nat → Nat} {n a : Nat} (h : fe b as n = some a) (k : Nat) : fe b as (n + k) = some a := by
  induction k with
  | zero => exact h
  | succ k ih => rw [← Nat.add_assoc, fe, ih]
theorem okY_ry {b as : Nat → Nat} (h : ∀ j, j < 3 → as j < 256) (n : Nat) : okY (ry b as n) := by
  induction n with
  | zero => exact okY_m 0 as (Nat.zero_le _) h
  | succ n ih => exact okY_tk ih _
abbrev PT : Type := Nat × (Nat → Bool) × (Nat → Nat) × Nat
/-- a law comes -/
def plw (Y : YT) (P : PT) : Option PT := if Y.1 = 0 then some (P.1 + 1, zPut P.2.1 (Y.2.2 0), P.2.2.1, P.2.2.2)
  else if P.2.2.2 < 6 then some (P.1 + 1, P.2.1, aR P.2.2.1 P.2.2.2 (Y.2.2 0) (Y.2.2 1) (if Y.1 = 2 then Y.2.2 2 else 256), P.2.2.2 + 1) else none
/-- the laws that end below n -/
def pst (b as : Nat → Nat) (len : Nat) (P : PT) : Nat → Option PT
  | 0 => some P
  | n + 1 => (pst b as len P n).bind (fun P2 => if n = len ∨ b n = 59 then plw (ry b as n) P2 else some P2)

def r_X6_size : Room := { frames := 0, cells := 0, slots := 0, locals := 0 }
set_option maxRecDepth 100000 in
set_option maxHeartbeats 4000000 in
theorem k_X6_size (l : Launch) (D : va_G) (ty : Nat → ClassId) (t0 : Nat) (t1 : Nat) (len : Nat)  : gM l D ty yX6_size cX6_size 1 (some (FieldType.int : FieldType)) r_X6_size 0 0 [.ref t0] [(t0, .inr (4, [.ref t1, .int (nI len)]))] (fun (zr : Option Value) (zW : va_W) => zr = some (.int (nI len)) ∧ zW = [(t0, .inr (4, [.ref t1, .int (nI len)]))]) := by
  refine gM_of RX6 rfl (by decide +kernel) (Nat.le_of_ble_eq_true rfl) ?_
  intro pg en s0 mi ag bl mth cd AA HH QQ C E hnm
  show gW pg l en r_X6_size s0 mi ag bl mth cd 1 D AA HH QQ 0 [(0, .ref t0)] [] [(t0, .inr (4, [.ref t1, .int (nI len)]))] 0 0
  refine g_aload_n C 0 rfl dX6_size_0 ?_
  refine g_getf C wu_X6 0 rfl rfl 1 (by decide) wf_X6_15 rfl rfl dX6_size_1 ?_
  exact g_iret E dX6_size_4 (by decide) (by decide) ⟨rfl, rfl⟩
def r_X6_at : Room := { frames := 0, cells := 0, slots := 0, locals := 0 }
set_option maxRecDepth 100000 in
set_option maxHeartbeats 4000000 in
theorem k_X6_at (l : Launch) (D : va_G) (ty : Nat → ClassId) (t0 : Nat) (t1 : Nat) (b : Nat → Nat) (len : Nat) (i : Nat) (hl : len ≤ 60) (hi : i < 2 ^ 31) (hb : ∀ j, j < len → b j < 128) : gM l D ty yX6_at cX6_at 2 (some (FieldType.int : FieldType)) r_X6_at 0 0 [.ref t0, .int (nI i)] [(t0, .inr (4, [.ref t1, .int (nI len)])), (t1, .inl (ty 0, 60, .inl (tI b)))] (fun (zr : Option Value) (zW : va_W) => zr = some (.int (eA (tc b len i))) ∧ zW = [(t0, .inr (4, [.ref t1, .int (nI len)])), (t1, .inl (ty 0, 60, .inl (tI b)))]) := by
  refine gM_of RX6 rfl (by decide +kernel) (Nat.le_of_ble_eq_true rfl) ?_
  intro pg en s0 mi ag bl mth cd AA HH QQ C E hnm
  show gW pg l en r_X6_at s0 mi ag bl mth cd 2 D AA HH QQ 0 [(0, .ref t0), (1, .int (nI i))] [] [(t0, .inr (4, [.ref t1, .int (nI len)])), (t1, .inl (ty 0, 60, .inl (tI b)))] 0 0
  refine g_iload_n C 1 rfl dX6_at_0 ?_
  refine g_if_lt C 30 dX6_at_1 rfl (fun c1 => ?_) (fun c1 => ?_)
  · skip
    exact absurd c1 (nI_pos (by omega))
  · skip
    refine g_iload_n C 1 rfl dX6_at_4 ?_
    refine g_aload_n C 0 rfl dX6_at_5 ?_
    refine g_getf C wu_X6 0 rfl rfl 1 (by decide) wf_X6_15 rfl rfl dX6_at_6 ?_
    refine g_icmp_geN C i len 30 rfl rfl (by omega) (by omega) dX6_at_9 rfl (fun c9 => ?_) (fun c9 => ?_)
    · skip
      refine g_iconst C (-1) ic_m1 dX6_at_30 ?_
      exact g_iret E dX6_at_31 (by decide) (by decide) ⟨(congrArg (fun z => some (Value.int z)) (by first | (rw [show tc b len i = 256 from if_neg (by omega)]; first | done | rfl) | (rw [show tc b len i = b i from if_pos (by omega), eA_n (by have := hb i (by omega); omega)]; first | done | rfl))), rfl⟩
    · skip
      have hb0 : i < len := by omega
      refine g_iload_n C 1 rfl dX6_at_12 ?_
      refine g_aload_n C 0 rfl dX6_at_13 ?_
      refine g_getf C wu_X6 0 rfl rfl 0 (by decide) wf_X6_9 rfl rfl dX6_at_14 ?_
      refine g_alen C 1 0 rfl rfl (nI 60) rfl dX6_at_17 ?_
      refine g_icmp_geN C i 60 30 rfl rfl (by omega) (by omega) dX6_at_18 rfl (fun c18 => ?_) (fun c18 => ?_)
      · skip
        exact absurd c18 (by omega)
      · skip
        refine g_aload_n C 0 rfl dX6_at_21 ?_
        refine g_getf C wu_X6 0 rfl rfl 0 (by decide) wf_X6_9 rfl rfl dX6_at_22 ?_
        refine g_iload_n C 1 rfl dX6_at_25 ?_
        refine g_iald C 1 rfl i rfl (by omega) (by decide) (nI (b i)) rfl dX6_at_26 ?_
        refine g_goto C 31 dX6_at_27 rfl ?_
        exact g_iret E dX6_at_31 (by decide) (by decide) ⟨(congrArg (fun z => some (Value.int z)) (by first | (rw [show tc b len i = 256 from if_neg (by omega)]; first | done | rfl) | (rw [show tc b len i = b i from if_pos (by omega), eA_n (by have := hb i (by omega); omega)]; first | done | rfl))), rfl⟩
