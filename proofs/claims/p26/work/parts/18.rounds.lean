theorem isF_rs {L : Nat → Nat} {h : Nat} (hh : h < 256) : isF (rs L h) = true ∧ rs L h < 256 := by
  refine ⟨?_, rs_lt hh⟩
  have : ∃ x y, rs L h = 64 * (h / 64) + 8 * x + y ∧ ((x < 4 ∧ y ≤ 4) ∨ (x = 4 ∧ y ≤ 5)) := by
    unfold rs
    refine ⟨_, _, rfl, ?_⟩
    grind
  obtain ⟨x, y, e, h1⟩ := this
  rw [e]
  unfold isF
  simp only [decide_eq_true_eq]
  omega
theorem okF_put {S : Nat → Bool} (h : okF S) {a : Nat} (h1 : isF a = true) (h2 : a < 256) : okF (zPut S a) := by
  intro b hb
  unfold zPut at hb
  split at hb
  · rename_i e; subst e; exact ⟨h1, h2⟩
  · exact h b hb
theorem okF_stp {G : Nat → Bool} {lk : Option (Nat → Nat)} {h k : Nat} {X : XT} (hh : h < 256) (hX : okF X.2.1) : okF (stp G lk h k X).2.1 := by
  cases lk with
  | none => exact hX
  | some L =>
    unfold stp
    simp only
    split
    · exact hX
    · split
      · exact hX
      · exact okF_put hX (isF_rs hh).1 (isF_rs hh).2
theorem okF_in2 {F G : Nat → Bool} {L : Nat → Nat} {o h k : Nat} {X : XT} (hh : h < 256) (hX : okF X.2.1) (n : Nat) : okF (in2 F G L o h k n X).2.1 := by
  induction n with
  | zero => exact hX
  | succ n ih =>
    rw [in2]
    split
    · exact okF_stp hh ih
    · exact ih
theorem okF_pl {F G : Nat → Bool} {one o h k : Nat} {X : XT} (hh : h < 256) (hX : okF X.2.1) (n : Nat) : okF (pl F G one o h k n X).2.1 := by
  induction n with
  | zero => exact hX
  | succ n ih =>
    rw [pl]
    split
    · split
      · exact ih
      · split
        · exact okF_stp hh ih
        · exact okF_in2 hh ih 38
    · exact ih
def okQ (q : Nat → Nat) (nr : Nat) : Prop := nr ≤ 6 ∧ ∀ j, j < nr → q (3 * j) < 256 ∧ q (3 * j + 1) < 256 ∧ q (3 * j + 2) ≤ 256
theorem okF_rus {F G : Nat → Bool} {q : Nat → Nat} {nr : Nat} (hq : okQ q nr) {X : XT} (hX : okF X.2.1) (n : Nat) (hn : n ≤ nr) : okF (rus F G q n X).2.1 := by
  induction n with
  | zero => exact hX
  | succ n ih =>
    rw [rus]
    exact okF_pl (hq.2 n (by omega)).1 (ih (by omega)) 38
theorem okF_no : okF zNo := fun a h => by cases h
theorem okF_or {S T : Nat → Bool} (h1 : okF S) (h2 : okF T) : okF (zOr S T) := by
  intro a h
  unfold zOr at h
  rcases Bool.or_eq_true _ _ ▸ h with q | q
  · exact h1 a q
  · exact h2 a q
theorem okF_drp {S : Nat → Bool} (h1 : okF S) : okF (drp S) := by
  intro a h
  unfold drp at h
  simp at h
  exact h1 a h.1
abbrev ZT : Type := (Nat → Bool) × Nat × Nat × Nat × (Nat → Int32) × (Nat → Int32) × (Nat → Int32)
def zF (Z : ZT) : Nat → Bool := Z.1
def zRd (Z : ZT) : Nat := Z.2.1
def zMt (Z : ZT) : Nat := Z.2.2.1
def zDr (Z : ZT) : Nat := Z.2.2.2.1
def zRo (Z : ZT) : Nat → Int32 := Z.2.2.2.2.1
def zRu (Z : ZT) : Nat → Int32 := Z.2.2.2.2.2.1
def zSz (Z : ZT) : Nat → Int32 := Z.2.2.2.2.2.2
/-- a round's matches -/
def rX (q : Nat → Nat) (nr : Nat) (F : Nat → Bool) (mt : Nat) : XT := rus F (foll F) q nr (mt, zNo, fun _ => 0)
def fin (q : Nat → Nat) (nr : Nat) (Z : ZT) : ZT := (zF Z, zRd Z, (rX q nr (zF Z) (zMt Z)).1, zDr Z, zRo Z, zRu Z, zSz Z)
def nx2 (q : Nat → Nat) (nr : Nat) (Z : ZT) : Nat → Bool := zOr (zF Z) (rX q nr (zF Z) (zMt Z)).2.1
def nxt (q : Nat → Nat) (nr : Nat) (Z : ZT) : ZT := (drp (nx2 q nr Z), zRd Z + 1, (rX q nr (zF Z) (zMt Z)).1, zDr Z + (zcnt (nx2 q nr Z) 256 - zcnt (drp (nx2 q nr Z)) 256), roA (rX q nr (zF Z) (zMt Z)).2.1 (zRd Z) (zRo Z), ruA (rX q nr (zF Z) (zMt Z)).2.1 (rX q nr (zF Z) (zMt Z)).2.2 (zRu Z), upd (zSz Z) (zRd Z + 1) (nI (zcnt (drp (nx2 q nr Z)) 256)))
/-- the rounds, n at most -/
def srch (q : Nat → Nat) (nr : Nat) : Nat → ZT → ZT
  | 0, Z => Z
  | n + 1, Z => if zcnt (rX q nr (zF Z) (zMt Z)).2.1 256 = 0 then fin q nr Z else srch q nr n (nxt q nr Z)
theorem srch_t {q : Nat → Nat} {nr n : Nat} {Z : ZT} (h : zcnt (rX q nr (zF Z) (zMt Z)).2.1 256 = 0) : srch q nr (n + 1) Z = fin q nr Z := by rw [srch, if_pos h]
theorem srch_f {q : Nat → Nat} {nr n : Nat} {Z : ZT} (h : ¬ zcnt (rX q nr (zF Z) (zMt Z)).2.1 256 = 0) : srch q nr (n + 1) Z = srch q nr n (nxt q nr Z) := by rw [srch, if_neg h]
def z0 (T : Nat → Bool) (sz : Nat → Int32) : ZT := (drp T, 0, 0, zcnt T 256 - zcnt (drp T) 256, (fun _ => nI 0), (fun _ => -1), upd sz 0 (nI (zcnt (drp T) 256)))
/-- all that is found -/
def fnd (q : Nat → Nat) (nr : Nat) (T : Nat → Bool) (sz : Nat → Int32) : ZT := srch q nr 104 (z0 T sz)

def r_X5_roundOf : Room := { frames := 1, cells := 0, slots := 0, locals := 20 }
set_option maxRecDepth 100000 in
set_option maxHeartbeats 4000000 in
theorem k_X5_roundOf (l : Launch) (D : va_G) (ty : Nat → ClassId) (r0 : Nat) (a0 : Nat) (b0 : Nat) (c0 : Nat) (d0 : Nat) (e0 : Nat) (f0 : Nat) (rd : Nat) (mt : Nat) (dr : Nat) (ro : Nat → Int32) (a : Nat) (ha : a < 256) : gM l D ty yX5_roundOf cX5_roundOf 2 (some (FieldType.int : FieldType)) r_X5_roundOf 0 0 [.ref r0, .int (nI a)] [(r0, .inr (3, [.ref a0, .ref b0, .int (nI rd), .int (nI mt), .int (nI dr), .ref c0, .ref d0, .ref e0, .ref f0])), (d0, .inl (ty 0, 256, .inl (ro)))] (fun (zr : Option Value) (zW : va_W) => zr = some (.int (ro a)) ∧ zW = [(r0, .inr (3, [.ref a0, .ref b0, .int (nI rd), .int (nI mt), .int (nI dr), .ref c0, .ref d0, .ref e0, .ref f0])), (d0, .inl (ty 0, 256, .inl (ro)))]) := by
  refine gM_of RX5 rfl (by decide +kernel) (Nat.le_of_ble_eq_true rfl) ?_
  intro pg en s0 mi ag bl mth cd AA HH QQ C E hnm
  show gW pg l en r_X5_roundOf s0 mi ag bl mth cd 2 D AA HH QQ 0 [(0, .ref r0), (1, .int (nI a))] [] [(r0, .inr (3, [.ref a0, .ref b0, .int (nI rd), .int (nI mt), .int (nI dr), .ref c0, .ref d0, .ref e0, .ref f0])), (d0, .inl (ty 0, 256, .inl (ro)))] 0 0
  refine g_iload_n C 1 rfl dX5_roundOf_0 ?_
  refine g_callS0 C (nA := 1) (k_X1_isAtom l D ty ((nI a)) ) wm_X5_36 ws_X1_isAtom wi_X1 wc_X1_isAtom rfl (by decide +kernel) ⟨(Nat.le_of_ble_eq_true rfl), (Nat.le_of_ble_eq_true rfl)⟩ ⟨rfl, rfl⟩ dX5_roundOf_1 (fun _ _ h => h.2) (Nat.le_of_ble_eq_true rfl) rfl ⟨Nat.zero_le _, Nat.zero_le _⟩ (fun r hp => ?_)
  obtain ⟨rfl, -⟩ := hp
  refine g_st [.int (bI (isA ((nI a))))] rfl ?_
  refine g_if_eqB C (isA ((nI a))) 16 rfl dX5_roundOf_4 rfl (fun c4 => ?_) (fun c4 => ?_)
  · skip
    exact absurd c4 (by rw [isA_N ha]; decide)
  · skip
    refine g_aload_n C 0 rfl dX5_roundOf_7 ?_
    refine g_getf C wu_X5 0 rfl rfl 6 (by decide) wf_X5_26 rfl rfl dX5_roundOf_8 ?_
    refine g_iload_n C 1 rfl dX5_roundOf_11 ?_
    refine g_iald C 1 rfl a rfl (by omega) (by decide) (ro a) rfl dX5_roundOf_12 ?_
    refine g_goto C 17 dX5_roundOf_13 rfl ?_
    exact g_iret E dX5_roundOf_17 (by decide) (by decide) ⟨rfl, rfl⟩
def r_X5_ruleOf : Room := { frames := 1, cells := 0, slots := 0, locals := 20 }
set_option maxRecDepth 100000 in
set_option maxHeartbeats 4000000 in
theorem k_X5_ruleOf (l : Launch) (D : va_G) (ty : Nat → ClassId) (r0 : Nat) (a0 : Nat) (b0 : Nat) (c0 : Nat) (d0 : Nat) (e0 : Nat) (f0 : Nat) (rd : Nat) (mt : Nat) (dr : Nat) (ru : Nat → Int32) (a : Nat) (ha : a < 256) : gM l D ty yX5_ruleOf cX5_ruleOf 2 (some (FieldType.int : FieldType)) r_X5_ruleOf 0 0 [.ref r0, .int (nI a)] [(r0, .inr (3, [.ref a0, .ref b0, .int (nI rd), .int (nI mt), .int (nI dr), .ref c0, .ref d0, .ref e0, .ref f0])), (e0, .inl (ty 0, 256, .inl (ru)))] (fun (zr : Option Value) (zW : va_W) => zr = some (.int (ru a)) ∧ zW = [(r0, .inr (3, [.ref a0, .ref b0, .int (nI rd), .int (nI mt), .int (nI dr), .ref c0, .ref d0, .ref e0, .ref f0])), (e0, .inl (ty 0, 256, .inl (ru)))]) := by
  refine gM_of RX5 rfl (by decide +kernel) (Nat.le_of_ble_eq_true rfl) ?_
  intro pg en s0 mi ag bl mth cd AA HH QQ C E hnm
  show gW pg l en r_X5_ruleOf s0 mi ag bl mth cd 2 D AA HH QQ 0 [(0, .ref r0), (1, .int (nI a))] [] [(r0, .inr (3, [.ref a0, .ref b0, .int (nI rd), .int (nI mt), .int (nI dr), .ref c0, .ref d0, .ref e0, .ref f0])), (e0, .inl (ty 0, 256, .inl (ru)))] 0 0
  refine g_iload_n C 1 rfl dX5_ruleOf_0 ?_
  refine g_callS0 C (nA := 1) (k_X1_isAtom l D ty ((nI a)) ) wm_X5_36 ws_X1_isAtom wi_X1 wc_X1_isAtom rfl (by decide +kernel) ⟨(Nat.le_of_ble_eq_true rfl), (Nat.le_of_ble_eq_true rfl)⟩ ⟨rfl, rfl⟩ dX5_ruleOf_1 (fun _ _ h => h.2) (Nat.le_of_ble_eq_true rfl) rfl ⟨Nat.zero_le _, Nat.zero_le _⟩ (fun r hp => ?_)
  obtain ⟨rfl, -⟩ := hp
  refine g_st [.int (bI (isA ((nI a))))] rfl ?_
  refine g_if_eqB C (isA ((nI a))) 16 rfl dX5_ruleOf_4 rfl (fun c4 => ?_) (fun c4 => ?_)
  · skip
    exact absurd c4 (by rw [isA_N ha]; decide)
  · skip
    refine g_aload_n C 0 rfl dX5_ruleOf_7 ?_
    refine g_getf C wu_X5 0 rfl rfl 7 (by decide) wf_X5_30 rfl rfl dX5_ruleOf_8 ?_
    refine g_iload_n C 1 rfl dX5_ruleOf_11 ?_
    refine g_iald C 1 rfl a rfl (by omega) (by decide) (ru a) rfl dX5_ruleOf_12 ?_
    refine g_goto C 17 dX5_ruleOf_13 rfl ?_
    exact g_iret E dX5_ruleOf_17 (by decide) (by decide) ⟨rfl, rfl⟩
def r_X5_sizeBehind : Room := { frames := 1, cells := 0, slots := 0, locals := 21 }
set_option maxRecDepth 100000 in
set_option maxHeartbeats 4000000 in
theorem k_X5_sizeBehind (l : Launch) (D : va_G) (ty : Nat → ClassId) (r0 : Nat) (a0 : Nat) (b0 : Nat) (c0 : Nat) (d0 : Nat) (e0 : Nat) (f0 : Nat) (rd : Nat) (mt : Nat) (dr : Nat) (sz : Nat → Int32) (r : Nat) (hrd : rd < 105) (hr : r < 2 ^ 31) : gM l D ty yX5_sizeBehind cX5_sizeBehind 3 (some (FieldType.int : FieldType)) r_X5_sizeBehind 0 0 [.ref r0, .int (nI r)] [(r0, .inr (3, [.ref a0, .ref b0, .int (nI rd), .int (nI mt), .int (nI dr), .ref c0, .ref d0, .ref e0, .ref f0])), (f0, .inl (ty 0, 105, .inl (sz)))] (fun (zr : Option Value) (zW : va_W) => zr = some (.int (sz (min r rd))) ∧ zW = [(r0, .inr (3, [.ref a0, .ref b0, .int (nI rd), .int (nI mt), .int (nI dr), .ref c0, .ref d0, .ref e0, .ref f0])), (f0, .inl (ty 0, 105, .inl (sz)))]) := by
  refine gM_of RX5 rfl (by decide +kernel) (Nat.le_of_ble_eq_true rfl) ?_
  intro pg en s0 mi ag bl mth cd AA HH QQ C E hnm
  show gW pg l en r_X5_sizeBehind s0 mi ag bl mth cd 3 D AA HH QQ 0 [(0, .ref r0), (1, .int (nI r))] [] [(r0, .inr (3, [.ref a0, .ref b0, .int (nI rd), .int (nI mt), .int (nI dr), .ref c0, .ref d0, .ref e0, .ref f0])), (f0, .inl (ty 0, 105, .inl (sz)))] 0 0
  refine g_iload_n C 1 rfl dX5_sizeBehind_0 ?_
  refine g_aload_n C 0 rfl dX5_sizeBehind_1 ?_
  refine g_getf C wu_X5 0 rfl rfl 2 (by decide) wf_X5_40 rfl rfl dX5_sizeBehind_2 ?_
  refine g_mmin C wm_X5_44 ws_Math_min wi_J9 wc_Math_min (Nat.le_of_ble_eq_true rfl) (Nat.le_of_ble_eq_true rfl) (nI (min r rd)) (nI_min _ _ (by omega) (by omega)) dX5_sizeBehind_5 ⟨Nat.zero_le _, Nat.zero_le _⟩ ?_
  refine g_istore_n C [(2, .int (nI (min r rd))), (0, .ref r0), (1, .int (nI r))] dX5_sizeBehind_8 rfl (by decide) rfl ?_
  refine g_iload_n C 0 rfl dX5_sizeBehind_9 ?_
  refine g_if_lt C 31 dX5_sizeBehind_10 rfl (fun c10 => ?_) (fun c10 => ?_)
  · skip
    exact absurd c10 (nI_pos (by omega))
  · skip
    refine g_iload_n C 0 rfl dX5_sizeBehind_13 ?_
    refine g_aload_n C 1 rfl dX5_sizeBehind_14 ?_
    refine g_getf C wu_X5 0 rfl rfl 8 (by decide) wf_X5_33 rfl rfl dX5_sizeBehind_15 ?_
    refine g_alen C 1 0 rfl rfl (nI 105) rfl dX5_sizeBehind_18 ?_
    refine g_icmp_geN C (min r rd) 105 31 rfl rfl (by omega) (by omega) dX5_sizeBehind_19 rfl (fun c19 => ?_) (fun c19 => ?_)
    · skip
      exact absurd c19 (by omega)
    · skip
      refine g_aload_n C 1 rfl dX5_sizeBehind_22 ?_
      refine g_getf C wu_X5 0 rfl rfl 8 (by decide) wf_X5_33 rfl rfl dX5_sizeBehind_23 ?_
      refine g_iload_n C 0 rfl dX5_sizeBehind_26 ?_
      refine g_iald C 1 rfl (min r rd) rfl (by omega) (by decide) (sz (min r rd)) rfl dX5_sizeBehind_27 ?_
      refine g_goto C 32 dX5_sizeBehind_28 rfl ?_
      exact g_iret E dX5_sizeBehind_32 (by decide) (by decide) ⟨rfl, rfl⟩
def r_X5_run : Room := { frames := 4, cells := 0, slots := 0, locals := 109 }
set_option maxRecDepth 100000 in
set_option maxHeartbeats 4000000 in
theorem k_X5_run (l : Launch) (D : va_G) (ty : Nat → ClassId) (r0 : Nat) (a0 : Nat) (a1 : Nat) (b0 : Nat) (b1 : Nat) (c0 : Nat) (c1 : Nat) (d0 : Nat) (e0 : Nat) (f0 : Nat) (l0 : Nat) (l1 : Nat) (l2 : Nat) (l3 : Nat) (F0 : Nat → Bool) (G0 : Nat → Bool) (U0 : Nat → Bool) (rd0 : Nat) (mt0 : Nat) (dr0 : Nat) (ro0 : Nat → Int32) (ru0 : Nat → Int32) (sz0 : Nat → Int32) (T : Nat → Bool) (q : Nat → Nat) (nr : Nat) (hT : okF T) (hq : okQ q nr) : gM l D ty yX5_run cX5_run 4 none r_X5_run 0 0 [.ref r0, .ref l0] [(r0, .inr (3, [.ref a0, .ref b0, .int (nI rd0), .int (nI mt0), .int (nI dr0), .ref c0, .ref d0, .ref e0, .ref f0])), (a0, .inr (0, [.ref a1])), (a1, .inl (ty 1, 4, .inr (.inl (zM F0)))), (b0, .inr (0, [.ref b1])), (b1, .inl (ty 1, 4, .inr (.inl (zM G0)))), (c0, .inr (0, [.ref c1])), (c1, .inl (ty 1, 4, .inr (.inl (zM U0)))), (d0, .inl (ty 0, 256, .inl (ro0))), (e0, .inl (ty 0, 256, .inl (ru0))), (f0, .inl (ty 0, 105, .inl (sz0))), (l0, .inr (2, [.ref l1, .ref l2, .int (nI nr)])), (l1, .inr (0, [.ref l3])), (l3, .inl (ty 1, 4, .inr (.inl (zM T)))), (l2, .inl (ty 0, 18, .inl (eR q)))] (fun (zr : Option Value) (zW : va_W) => ∃ (U9 : Nat → Bool), zr = none ∧ zW = [(r0, .inr (3, [.ref a0, .ref b0, .int (nI (zRd (fnd q nr T sz0))), .int (nI (zMt (fnd q nr T sz0))), .int (nI (zDr (fnd q nr T sz0))), .ref c0, .ref d0, .ref e0, .ref f0])), (a0, .inr (0, [.ref a1])), (a1, .inl (ty 1, 4, .inr (.inl (zM (zF (fnd q nr T sz0)))))), (b0, .inr (0, [.ref b1])), (b1, .inl (ty 1, 4, .inr (.inl (zM (foll (zF (fnd q nr T sz0))))))), (c0, .inr (0, [.ref c1])), (c1, .inl (ty 1, 4, .inr (.inl (zM U9)))), (d0, .inl (ty 0, 256, .inl (zRo (fnd q nr T sz0)))), (e0, .inl (ty 0, 256, .inl (zRu (fnd q nr T sz0)))), (f0, .inl (ty 0, 105, .inl (zSz (fnd q nr T sz0)))), (l0, .inr (2, [.ref l1, .ref l2, .int (nI nr)])), (l1, .inr (0, [.ref l3])), (l3, .inl (ty 1, 4, .inr (.inl (zM T)))), (l2, .inl (ty 0, 18, .inl (eR q)))]) := by
  have hnr := hq.1
  refine gM_of RX5 rfl (by decide +kernel) (Nat.le_of_ble_eq_true rfl) ?_
  intro pg en s0 mi ag bl mth cd AA HH QQ C E hnm
  show gW pg l en r_X5_run s0 mi ag bl mth cd 4 D AA HH QQ 0 [(0, .ref r0), (1, .ref l0)] [] [(r0, .inr (3, [.ref a0, .ref b0, .int (nI rd0), .int (nI mt0), .int (nI dr0), .ref c0, .ref d0, .ref e0, .ref f0])), (a0, .inr (0, [.ref a1])), (a1, .inl (ty 1, 4, .inr (.inl (zM F0)))), (b0, .inr (0, [.ref b1])), (b1, .inl (ty 1, 4, .inr (.inl (zM G0)))), (c0, .inr (0, [.ref c1])), (c1, .inl (ty 1, 4, .inr (.inl (zM U0)))), (d0, .inl (ty 0, 256, .inl (ro0))), (e0, .inl (ty 0, 256, .inl (ru0))), (f0, .inl (ty 0, 105, .inl (sz0))), (l0, .inr (2, [.ref l1, .ref l2, .int (nI nr)])), (l1, .inr (0, [.ref l3])), (l3, .inl (ty 1, 4, .inr (.inl (zM T)))), (l2, .inl (ty 0, 18, .inl (eR q)))] 0 0
  refine g_aload_n C 0 rfl dX5_run_0 ?_
  refine g_getf C wu_X5 0 rfl rfl 6 (by decide) wf_X5_26 rfl rfl dX5_run_1 ?_
  refine g_iconst C (nI 0) ic_0 dX5_run_4 ?_
  refine g_callS C (nA := 2) (wr := [(r0, .inr (3, [.ref a0, .ref b0, .int (nI rd0), .int (nI mt0), .int (nI dr0), .ref c0, .ref d0, .ref e0, .ref f0])), (a0, .inr (0, [.ref a1])), (a1, .inl (ty 1, 4, .inr (.inl (zM F0)))), (b0, .inr (0, [.ref b1])), (b1, .inl (ty 1, 4, .inr (.inl (zM G0)))), (c0, .inr (0, [.ref c1])), (c1, .inl (ty 1, 4, .inr (.inl (zM U0)))), (e0, .inl (ty 0, 256, .inl (ru0))), (f0, .inl (ty 0, 105, .inl (sz0))), (l0, .inr (2, [.ref l1, .ref l2, .int (nI nr)])), (l1, .inr (0, [.ref l3])), (l3, .inl (ty 1, 4, .inr (.inl (zM T)))), (l2, .inl (ty 0, 18, .inl (eR q)))]) (k_J7_fill_53178 l D ty d0 256 ro0 ((nI 0)) (by decide)) wm_X5_50 ws_J7_fill_53178 wi_J7 wc_J7_fill_53178 rfl (by decide +kernel) ⟨(Nat.le_of_ble_eq_true rfl), (Nat.le_of_ble_eq_true rfl)⟩ ⟨rfl, rfl⟩ dX5_run_5 ⟨Nat.zero_le _, Nat.zero_le _⟩ [7] [0, 1, 2, 3, 4, 5, 6, 8, 9, 10, 11, 12, 13] rfl rfl rfl rfl (by decide) (Nat.le_of_ble_eq_true rfl) rfl (fun r W1 hp => ?_)
  obtain ⟨rfl, rfl⟩ := hp
  refine g_fix [] [(r0, .inr (3, [.ref a0, .ref b0, .int (nI rd0), .int (nI mt0), .int (nI dr0), .ref c0, .ref d0, .ref e0, .ref f0])), (a0, .inr (0, [.ref a1])), (a1, .inl (ty 1, 4, .inr (.inl (zM F0)))), (b0, .inr (0, [.ref b1])), (b1, .inl (ty 1, 4, .inr (.inl (zM G0)))), (c0, .inr (0, [.ref c1])), (c1, .inl (ty 1, 4, .inr (.inl (zM U0)))), (d0, .inl (ty 0, 256, .inl (fun _ => ((nI 0))))), (e0, .inl (ty 0, 256, .inl (ru0))), (f0, .inl (ty 0, 105, .inl (sz0))), (l0, .inr (2, [.ref l1, .ref l2, .int (nI nr)])), (l1, .inr (0, [.ref l3])), (l3, .inl (ty 1, 4, .inr (.inl (zM T)))), (l2, .inl (ty 0, 18, .inl (eR q)))] [0, 1, 2, 3, 4, 5, 6, 13, 7, 8, 9, 10, 11, 12] rfl rfl rfl ?_
  refine g_aload_n C 0 rfl dX5_run_8 ?_
  refine g_getf C wu_X5 0 rfl rfl 7 (by decide) wf_X5_30 rfl rfl dX5_run_9 ?_
  refine g_iconst C (-1) ic_m1 dX5_run_12 ?_
  refine g_callS C (nA := 2) (wr := [(r0, .inr (3, [.ref a0, .ref b0, .int (nI rd0), .int (nI mt0), .int (nI dr0), .ref c0, .ref d0, .ref e0, .ref f0])), (a0, .inr (0, [.ref a1])), (a1, .inl (ty 1, 4, .inr (.inl (zM F0)))), (b0, .inr (0, [.ref b1])), (b1, .inl (ty 1, 4, .inr (.inl (zM G0)))), (c0, .inr (0, [.ref c1])), (c1, .inl (ty 1, 4, .inr (.inl (zM U0)))), (d0, .inl (ty 0, 256, .inl (fun _ => ((nI 0))))), (f0, .inl (ty 0, 105, .inl (sz0))), (l0, .inr (2, [.ref l1, .ref l2, .int (nI nr)])), (l1, .inr (0, [.ref l3])), (l3, .inl (ty 1, 4, .inr (.inl (zM T)))), (l2, .inl (ty 0, 18, .inl (eR q)))]) (k_J7_fill_53178 l D ty e0 256 ru0 (- 1) (by decide)) wm_X5_50 ws_J7_fill_53178 wi_J7 wc_J7_fill_53178 rfl (by decide +kernel) ⟨(Nat.le_of_ble_eq_true rfl), (Nat.le_of_ble_eq_true rfl)⟩ ⟨rfl, rfl⟩ dX5_run_13 ⟨Nat.zero_le _, Nat.zero_le _⟩ [8] [0, 1, 2, 3, 4, 5, 6, 7, 9, 10, 11, 12, 13] rfl rfl rfl rfl (by decide) (Nat.le_of_ble_eq_true rfl) rfl (fun r W1 hp => ?_)
  obtain ⟨rfl, rfl⟩ := hp
  refine g_fix [] [(r0, .inr (3, [.ref a0, .ref b0, .int (nI rd0), .int (nI mt0), .int (nI dr0), .ref c0, .ref d0, .ref e0, .ref f0])), (a0, .inr (0, [.ref a1])), (a1, .inl (ty 1, 4, .inr (.inl (zM F0)))), (b0, .inr (0, [.ref b1])), (b1, .inl (ty 1, 4, .inr (.inl (zM G0)))), (c0, .inr (0, [.ref c1])), (c1, .inl (ty 1, 4, .inr (.inl (zM U0)))), (d0, .inl (ty 0, 256, .inl (fun _ => ((nI 0))))), (e0, .inl (ty 0, 256, .inl (fun _ => (- 1)))), (f0, .inl (ty 0, 105, .inl (sz0))), (l0, .inr (2, [.ref l1, .ref l2, .int (nI nr)])), (l1, .inr (0, [.ref l3])), (l3, .inl (ty 1, 4, .inr (.inl (zM T)))), (l2, .inl (ty 0, 18, .inl (eR q)))] [0, 1, 2, 3, 4, 5, 6, 7, 13, 8, 9, 10, 11, 12] rfl rfl rfl ?_
  refine g_aload_n C 0 rfl dX5_run_16 ?_
  refine g_iconst C (nI 0) ic_0 dX5_run_17 ?_
  refine g_putf C wu_X5 tyX5 tyX5_ok nmX5 0 rfl rfl 2 (by decide) wf_X5_40 rfl rfl rfl rfl (Nat.le_of_ble_eq_true rfl) dX5_run_18 [(r0, .inr (3, [.ref a0, .ref b0, .int (nI 0), .int (nI mt0), .int (nI dr0), .ref c0, .ref d0, .ref e0, .ref f0])), (a0, .inr (0, [.ref a1])), (a1, .inl (ty 1, 4, .inr (.inl (zM F0)))), (b0, .inr (0, [.ref b1])), (b1, .inl (ty 1, 4, .inr (.inl (zM G0)))), (c0, .inr (0, [.ref c1])), (c1, .inl (ty 1, 4, .inr (.inl (zM U0)))), (d0, .inl (ty 0, 256, .inl (fun _ => ((nI 0))))), (e0, .inl (ty 0, 256, .inl (fun _ => (- 1)))), (f0, .inl (ty 0, 105, .inl (sz0))), (l0, .inr (2, [.ref l1, .ref l2, .int (nI nr)])), (l1, .inr (0, [.ref l3])), (l3, .inl (ty 1, 4, .inr (.inl (zM T)))), (l2, .inl (ty 0, 18, .inl (eR q)))] rfl ?_
  refine g_aload_n C 0 rfl dX5_run_21 ?_
  refine g_iconst C (nI 0) ic_0 dX5_run_22 ?_
  refine g_putf C wu_X5 tyX5 tyX5_ok nmX5 0 rfl rfl 3 (by decide) wf_X5_56 rfl rfl rfl rfl (Nat.le_of_ble_eq_true rfl) dX5_run_23 [(r0, .inr (3, [.ref a0, .ref b0, .int (nI 0), .int (nI 0), .int (nI dr0), .ref c0, .ref d0, .ref e0, .ref f0])), (a0, .inr (0, [.ref a1])), (a1, .inl (ty 1, 4, .inr (.inl (zM F0)))), (b0, .inr (0, [.ref b1])), (b1, .inl (ty 1, 4, .inr (.inl (zM G0)))), (c0, .inr (0, [.ref c1])), (c1, .inl (ty 1, 4, .inr (.inl (zM U0)))), (d0, .inl (ty 0, 256, .inl (fun _ => ((nI 0))))), (e0, .inl (ty 0, 256, .inl (fun _ => (- 1)))), (f0, .inl (ty 0, 105, .inl (sz0))), (l0, .inr (2, [.ref l1, .ref l2, .int (nI nr)])), (l1, .inr (0, [.ref l3])), (l3, .inl (ty 1, 4, .inr (.inl (zM T)))), (l2, .inl (ty 0, 18, .inl (eR q)))] rfl ?_
  refine g_aload_n C 0 rfl dX5_run_26 ?_
  refine g_getf C wu_X5 0 rfl rfl 0 (by decide) wf_X5_12 rfl rfl dX5_run_27 ?_
  refine g_aload_n C 1 rfl dX5_run_30 ?_
  refine g_getf C wu_X4 10 rfl rfl 0 (by decide) wf_X5_59 rfl rfl dX5_run_31 ?_
  refine g_callV C (nA := 1) (ci := 0) (q0 := 0) (As := [.ref l1]) (wr := [(r0, .inr (3, [.ref a0, .ref b0, .int (nI 0), .int (nI 0), .int (nI dr0), .ref c0, .ref d0, .ref e0, .ref f0])), (b0, .inr (0, [.ref b1])), (b1, .inl (ty 1, 4, .inr (.inl (zM G0)))), (c0, .inr (0, [.ref c1])), (c1, .inl (ty 1, 4, .inr (.inl (zM U0)))), (d0, .inl (ty 0, 256, .inl (fun _ => ((nI 0))))), (e0, .inl (ty 0, 256, .inl (fun _ => (- 1)))), (f0, .inl (ty 0, 105, .inl (sz0))), (l0, .inr (2, [.ref l1, .ref l2, .int (nI nr)])), (l2, .inl (ty 0, 18, .inl (eR q)))]) (k_X2_copyOf l D ty a0 a1 F0 l1 l3 T ) wm_X5_64 wn_X2_copyOf wv_X2_copyOf wi_X2 wc_X2_copyOf rfl (by decide +kernel) ⟨(Nat.le_of_ble_eq_true rfl), (Nat.le_of_ble_eq_true rfl)⟩ ⟨rfl, rfl⟩ dX5_run_34 ⟨Nat.zero_le _, Nat.zero_le _⟩ rfl rfl rfl [1, 2, 11, 12] [0, 3, 4, 5, 6, 7, 8, 9, 10, 13] rfl rfl rfl rfl (by decide) (Nat.le_of_ble_eq_true rfl) rfl (fun r W1 hp => ?_)
  obtain ⟨rfl, rfl⟩ := hp
  refine g_fix [] [(r0, .inr (3, [.ref a0, .ref b0, .int (nI 0), .int (nI 0), .int (nI dr0), .ref c0, .ref d0, .ref e0, .ref f0])), (a0, .inr (0, [.ref a1])), (a1, .inl (ty 1, 4, .inr (.inl (zM T)))), (b0, .inr (0, [.ref b1])), (b1, .inl (ty 1, 4, .inr (.inl (zM G0)))), (c0, .inr (0, [.ref c1])), (c1, .inl (ty 1, 4, .inr (.inl (zM U0)))), (d0, .inl (ty 0, 256, .inl (fun _ => ((nI 0))))), (e0, .inl (ty 0, 256, .inl (fun _ => (- 1)))), (f0, .inl (ty 0, 105, .inl (sz0))), (l0, .inr (2, [.ref l1, .ref l2, .int (nI nr)])), (l1, .inr (0, [.ref l3])), (l3, .inl (ty 1, 4, .inr (.inl (zM T)))), (l2, .inl (ty 0, 18, .inl (eR q)))] [0, 10, 11, 1, 2, 3, 4, 5, 6, 7, 8, 12, 13, 9] rfl rfl rfl ?_
  refine g_aload_n C 0 rfl dX5_run_37 ?_
  refine g_aload_n C 0 rfl dX5_run_38 ?_
  refine g_getf C wu_X5 0 rfl rfl 0 (by decide) wf_X5_12 rfl rfl dX5_run_39 ?_
  refine g_callV C (nA := 0) (ci := 0) (q0 := 0) (As := []) (wr := [(r0, .inr (3, [.ref a0, .ref b0, .int (nI 0), .int (nI 0), .int (nI dr0), .ref c0, .ref d0, .ref e0, .ref f0])), (b0, .inr (0, [.ref b1])), (b1, .inl (ty 1, 4, .inr (.inl (zM G0)))), (c0, .inr (0, [.ref c1])), (c1, .inl (ty 1, 4, .inr (.inl (zM U0)))), (d0, .inl (ty 0, 256, .inl (fun _ => ((nI 0))))), (e0, .inl (ty 0, 256, .inl (fun _ => (- 1)))), (f0, .inl (ty 0, 105, .inl (sz0))), (l0, .inr (2, [.ref l1, .ref l2, .int (nI nr)])), (l1, .inr (0, [.ref l3])), (l3, .inl (ty 1, 4, .inr (.inl (zM T)))), (l2, .inl (ty 0, 18, .inl (eR q)))]) (k_X2_dropWeaker l D ty a0 a1 T ) wm_X5_68 wn_X2_dropWeaker wv_X2_dropWeaker wi_X2 wc_X2_dropWeaker rfl (by decide +kernel) ⟨(Nat.le_of_ble_eq_true rfl), (Nat.le_of_ble_eq_true rfl)⟩ ⟨rfl, rfl⟩ dX5_run_42 ⟨Nat.zero_le _, Nat.zero_le _⟩ rfl rfl rfl [1, 2] [0, 3, 4, 5, 6, 7, 8, 9, 10, 11, 12, 13] rfl rfl rfl rfl (by decide) (Nat.le_of_ble_eq_true rfl) rfl (fun r W1 hp => ?_)
  obtain ⟨rfl, rfl⟩ := hp
  refine g_fix [.int (nI (zcnt T 256 - zcnt (drp T) 256)), .ref r0] [(r0, .inr (3, [.ref a0, .ref b0, .int (nI 0), .int (nI 0), .int (nI dr0), .ref c0, .ref d0, .ref e0, .ref f0])), (a0, .inr (0, [.ref a1])), (a1, .inl (ty 1, 4, .inr (.inl (zM (drp T))))), (b0, .inr (0, [.ref b1])), (b1, .inl (ty 1, 4, .inr (.inl (zM G0)))), (c0, .inr (0, [.ref c1])), (c1, .inl (ty 1, 4, .inr (.inl (zM U0)))), (d0, .inl (ty 0, 256, .inl (fun _ => ((nI 0))))), (e0, .inl (ty 0, 256, .inl (fun _ => (- 1)))), (f0, .inl (ty 0, 105, .inl (sz0))), (l0, .inr (2, [.ref l1, .ref l2, .int (nI nr)])), (l1, .inr (0, [.ref l3])), (l3, .inl (ty 1, 4, .inr (.inl (zM T)))), (l2, .inl (ty 0, 18, .inl (eR q)))] [0, 12, 13, 1, 2, 3, 4, 5, 6, 7, 8, 9, 10, 11] rfl rfl rfl ?_
  refine g_putf C wu_X5 tyX5 tyX5_ok nmX5 0 rfl rfl 4 (by decide) wf_X5_72 rfl rfl rfl rfl (Nat.le_of_ble_eq_true rfl) dX5_run_45 [(r0, .inr (3, [.ref a0, .ref b0, .int (nI 0), .int (nI 0), .int (nI (zcnt T 256 - zcnt (drp T) 256)), .ref c0, .ref d0, .ref e0, .ref f0])), (a0, .inr (0, [.ref a1])), (a1, .inl (ty 1, 4, .inr (.inl (zM (drp T))))), (b0, .inr (0, [.ref b1])), (b1, .inl (ty 1, 4, .inr (.inl (zM G0)))), (c0, .inr (0, [.ref c1])), (c1, .inl (ty 1, 4, .inr (.inl (zM U0)))), (d0, .inl (ty 0, 256, .inl (fun _ => ((nI 0))))), (e0, .inl (ty 0, 256, .inl (fun _ => (- 1)))), (f0, .inl (ty 0, 105, .inl (sz0))), (l0, .inr (2, [.ref l1, .ref l2, .int (nI nr)])), (l1, .inr (0, [.ref l3])), (l3, .inl (ty 1, 4, .inr (.inl (zM T)))), (l2, .inl (ty 0, 18, .inl (eR q)))] rfl ?_
  refine g_aload_n C 0 rfl dX5_run_48 ?_
  refine g_getf C wu_X5 0 rfl rfl 1 (by decide) wf_X5_18 rfl rfl dX5_run_49 ?_
  refine g_aload_n C 0 rfl dX5_run_52 ?_
  refine g_getf C wu_X5 0 rfl rfl 0 (by decide) wf_X5_12 rfl rfl dX5_run_53 ?_
  refine g_callV C (nA := 1) (ci := 0) (q0 := 0) (As := [.ref a0]) (wr := [(r0, .inr (3, [.ref a0, .ref b0, .int (nI 0), .int (nI 0), .int (nI (zcnt T 256 - zcnt (drp T) 256)), .ref c0, .ref d0, .ref e0, .ref f0])), (c0, .inr (0, [.ref c1])), (c1, .inl (ty 1, 4, .inr (.inl (zM U0)))), (d0, .inl (ty 0, 256, .inl (fun _ => ((nI 0))))), (e0, .inl (ty 0, 256, .inl (fun _ => (- 1)))), (f0, .inl (ty 0, 105, .inl (sz0))), (l0, .inr (2, [.ref l1, .ref l2, .int (nI nr)])), (l1, .inr (0, [.ref l3])), (l3, .inl (ty 1, 4, .inr (.inl (zM T)))), (l2, .inl (ty 0, 18, .inl (eR q)))]) (k_X2_allFrom l D ty b0 b1 G0 a0 a1 (drp T) ) wm_X5_75 wn_X2_allFrom wv_X2_allFrom wi_X2 wc_X2_allFrom rfl (by decide +kernel) ⟨(Nat.le_of_ble_eq_true rfl), (Nat.le_of_ble_eq_true rfl)⟩ ⟨rfl, rfl⟩ dX5_run_56 ⟨Nat.zero_le _, Nat.zero_le _⟩ rfl rfl rfl [3, 4, 1, 2] [0, 5, 6, 7, 8, 9, 10, 11, 12, 13] rfl rfl rfl rfl (by decide) (Nat.le_of_ble_eq_true rfl) rfl (fun r W1 hp => ?_)
  obtain ⟨rfl, rfl⟩ := hp
  refine g_fix [] [(r0, .inr (3, [.ref a0, .ref b0, .int (nI 0), .int (nI 0), .int (nI (zcnt T 256 - zcnt (drp T) 256)), .ref c0, .ref d0, .ref e0, .ref f0])), (a0, .inr (0, [.ref a1])), (a1, .inl (ty 1, 4, .inr (.inl (zM (drp T))))), (b0, .inr (0, [.ref b1])), (b1, .inl (ty 1, 4, .inr (.inl (zM (foll (drp T)))))), (c0, .inr (0, [.ref c1])), (c1, .inl (ty 1, 4, .inr (.inl (zM U0)))), (d0, .inl (ty 0, 256, .inl (fun _ => ((nI 0))))), (e0, .inl (ty 0, 256, .inl (fun _ => (- 1)))), (f0, .inl (ty 0, 105, .inl (sz0))), (l0, .inr (2, [.ref l1, .ref l2, .int (nI nr)])), (l1, .inr (0, [.ref l3])), (l3, .inl (ty 1, 4, .inr (.inl (zM T)))), (l2, .inl (ty 0, 18, .inl (eR q)))] [0, 12, 13, 10, 11, 1, 2, 3, 4, 5, 6, 7, 8, 9] rfl rfl rfl ?_
  refine g_aload_n C 0 rfl dX5_run_59 ?_
  refine g_getf C wu_X5 0 rfl rfl 8 (by decide) wf_X5_33 rfl rfl dX5_run_60 ?_
  refine g_iconst C (nI 0) ic_0 dX5_run_63 ?_
  refine g_aload_n C 0 rfl dX5_run_64 ?_
  refine g_getf C wu_X5 0 rfl rfl 0 (by decide) wf_X5_12 rfl rfl dX5_run_65 ?_
  refine g_callV C (nA := 0) (ci := 0) (q0 := 0) (As := []) (wr := [(r0, .inr (3, [.ref a0, .ref b0, .int (nI 0), .int (nI 0), .int (nI (zcnt T 256 - zcnt (drp T) 256)), .ref c0, .ref d0, .ref e0, .ref f0])), (b0, .inr (0, [.ref b1])), (b1, .inl (ty 1, 4, .inr (.inl (zM (foll (drp T)))))), (c0, .inr (0, [.ref c1])), (c1, .inl (ty 1, 4, .inr (.inl (zM U0)))), (d0, .inl (ty 0, 256, .inl (fun _ => ((nI 0))))), (e0, .inl (ty 0, 256, .inl (fun _ => (- 1)))), (f0, .inl (ty 0, 105, .inl (sz0))), (l0, .inr (2, [.ref l1, .ref l2, .int (nI nr)])), (l1, .inr (0, [.ref l3])), (l3, .inl (ty 1, 4, .inr (.inl (zM T)))), (l2, .inl (ty 0, 18, .inl (eR q)))]) (k_X2_size l D ty a0 a1 (drp T) ) wm_X5_78 wn_X2_size wv_X2_size wi_X2 wc_X2_size rfl (by decide +kernel) ⟨(Nat.le_of_ble_eq_true rfl), (Nat.le_of_ble_eq_true rfl)⟩ ⟨rfl, rfl⟩ dX5_run_68 ⟨Nat.zero_le _, Nat.zero_le _⟩ rfl rfl rfl [1, 2] [0, 3, 4, 5, 6, 7, 8, 9, 10, 11, 12, 13] rfl rfl rfl rfl (by decide) (Nat.le_of_ble_eq_true rfl) rfl (fun r W1 hp => ?_)
  obtain ⟨rfl, rfl⟩ := hp
  refine g_fix [.int (nI (zcnt (drp T) 256)), .int (nI 0), .ref f0] [(r0, .inr (3, [.ref a0, .ref b0, .int (nI 0), .int (nI 0), .int (nI (zcnt T 256 - zcnt (drp T) 256)), .ref c0, .ref d0, .ref e0, .ref f0])), (a0, .inr (0, [.ref a1])), (a1, .inl (ty 1, 4, .inr (.inl (zM (drp T))))), (b0, .inr (0, [.ref b1])), (b1, .inl (ty 1, 4, .inr (.inl (zM (foll (drp T)))))), (c0, .inr (0, [.ref c1])), (c1, .inl (ty 1, 4, .inr (.inl (zM U0)))), (d0, .inl (ty 0, 256, .inl (fun _ => ((nI 0))))), (e0, .inl (ty 0, 256, .inl (fun _ => (- 1)))), (f0, .inl (ty 0, 105, .inl (sz0))), (l0, .inr (2, [.ref l1, .ref l2, .int (nI nr)])), (l1, .inr (0, [.ref l3])), (l3, .inl (ty 1, 4, .inr (.inl (zM T)))), (l2, .inl (ty 0, 18, .inl (eR q)))] [0, 12, 13, 1, 2, 3, 4, 5, 6, 7, 8, 9, 10, 11] rfl rfl rfl ?_
  refine g_iast C 9 rfl 0 rfl (by omega) (by decide) dX5_run_71 (upd (sz0) 0 (nI (zcnt (drp T) 256))) rfl [(r0, .inr (3, [.ref a0, .ref b0, .int (nI 0), .int (nI 0), .int (nI (zcnt T 256 - zcnt (drp T) 256)), .ref c0, .ref d0, .ref e0, .ref f0])), (a0, .inr (0, [.ref a1])), (a1, .inl (ty 1, 4, .inr (.inl (zM (drp T))))), (b0, .inr (0, [.ref b1])), (b1, .inl (ty 1, 4, .inr (.inl (zM (foll (drp T)))))), (c0, .inr (0, [.ref c1])), (c1, .inl (ty 1, 4, .inr (.inl (zM U0)))), (d0, .inl (ty 0, 256, .inl (fun _ => ((nI 0))))), (e0, .inl (ty 0, 256, .inl (fun _ => (- 1)))), (f0, .inl (ty 0, 105, .inl (upd (sz0) 0 (nI (zcnt (drp T) 256))))), (l0, .inr (2, [.ref l1, .ref l2, .int (nI nr)])), (l1, .inr (0, [.ref l3])), (l3, .inl (ty 1, 4, .inr (.inl (zM T)))), (l2, .inl (ty 0, 18, .inl (eR q)))] rfl ?_
  refine g_iconst C (nI 1) ic_1 dX5_run_72 ?_
  refine g_istore_n C [(2, .int (nI 1)), (0, .ref r0), (1, .ref l0)] dX5_run_73 rfl (by decide) rfl ?_
  refine g_lo [1, 2, 0] [(0, .ref r0), (1, .ref l0), (2, .int (nI 1))] rfl ?_
  have L74 : ∀ (fu74 : Nat) (F : Nat → Bool) (U : Nat → Bool) (rd : Nat) (mt : Nat) (dr : Nat) (ro : Nat → Int32) (ru : Nat → Int32) (sz : Nat → Int32) (hF : okF F) (hrd : rd ≤ 104) (hs : srch q nr (104 - rd) (F, rd, mt, dr, ro, ru, sz) = fnd q nr T sz0), (104 - rd) < fu74 → gW pg l en r_X5_run s0 mi ag bl mth cd 4 D AA HH QQ 74 [(0, .ref r0), (1, .ref l0), (2, .int (nI (rd + 1)))] [] [(r0, .inr (3, [.ref a0, .ref b0, .int (nI rd), .int (nI mt), .int (nI dr), .ref c0, .ref d0, .ref e0, .ref f0])), (a0, .inr (0, [.ref a1])), (a1, .inl (ty 1, 4, .inr (.inl (zM F)))), (b0, .inr (0, [.ref b1])), (b1, .inl (ty 1, 4, .inr (.inl (zM (foll F))))), (c0, .inr (0, [.ref c1])), (c1, .inl (ty 1, 4, .inr (.inl (zM U)))), (d0, .inl (ty 0, 256, .inl (ro))), (e0, .inl (ty 0, 256, .inl (ru))), (f0, .inl (ty 0, 105, .inl (sz))), (l0, .inr (2, [.ref l1, .ref l2, .int (nI nr)])), (l1, .inr (0, [.ref l3])), (l3, .inl (ty 1, 4, .inr (.inl (zM T)))), (l2, .inl (ty 0, 18, .inl (eR q)))] 0 0 := by
    intro fu74
    induction fu74 with
    | zero => intro F U rd mt dr ro ru sz hF hrd hs hfu; exact absurd hfu (Nat.not_lt_zero _)
    | succ fu74 ih74 =>
      intro F U rd mt dr ro ru sz hF hrd hs hfu74
      refine g_iload_n C 2 rfl dX5_run_74 ?_
      refine g_aload_n C 0 rfl dX5_run_75 ?_
      refine g_getf C wu_X5 0 rfl rfl 8 (by decide) wf_X5_33 rfl rfl dX5_run_76 ?_
      refine g_alen C 9 0 rfl rfl (nI 105) rfl dX5_run_79 ?_
      refine g_icmp_geN C (rd + 1) 105 185 rfl rfl (by omega) (by omega) dX5_run_80 rfl (fun c80 => ?_) (fun c80 => ?_)
      · skip
        have hz : fnd q nr T sz0 = (F, rd, mt, dr, ro, ru, sz) := by rw [← hs, show 104 - rd = 0 by omega]; rfl
        exact g_vret E dX5_run_185 (by decide) (by decide) ⟨U, rfl, (by rw [hz]; rfl)⟩
      · skip
        refine g_aload_n C 0 rfl dX5_run_83 ?_
        refine g_getf C wu_X5 0 rfl rfl 5 (by decide) wf_X5_21 rfl rfl dX5_run_84 ?_
        refine g_callV C (nA := 0) (ci := 0) (q0 := 0) (As := []) (wr := [(r0, .inr (3, [.ref a0, .ref b0, .int (nI rd), .int (nI mt), .int (nI dr), .ref c0, .ref d0, .ref e0, .ref f0])), (a0, .inr (0, [.ref a1])), (a1, .inl (ty 1, 4, .inr (.inl (zM F)))), (b0, .inr (0, [.ref b1])), (b1, .inl (ty 1, 4, .inr (.inl (zM (foll F))))), (d0, .inl (ty 0, 256, .inl (ro))), (e0, .inl (ty 0, 256, .inl (ru))), (f0, .inl (ty 0, 105, .inl (sz))), (l0, .inr (2, [.ref l1, .ref l2, .int (nI nr)])), (l1, .inr (0, [.ref l3])), (l3, .inl (ty 1, 4, .inr (.inl (zM T)))), (l2, .inl (ty 0, 18, .inl (eR q)))]) (k_X2_empty l D ty c0 c1 U ) wm_X5_81 wn_X2_empty wv_X2_empty wi_X2 wc_X2_empty rfl (by decide +kernel) ⟨(Nat.le_of_ble_eq_true rfl), (Nat.le_of_ble_eq_true rfl)⟩ ⟨rfl, rfl⟩ dX5_run_87 ⟨Nat.zero_le _, Nat.zero_le _⟩ rfl rfl rfl [5, 6] [0, 1, 2, 3, 4, 7, 8, 9, 10, 11, 12, 13] rfl rfl rfl rfl (by decide) (Nat.le_of_ble_eq_true rfl) rfl (fun r W1 hp => ?_)
        obtain ⟨rfl, rfl⟩ := hp
        refine g_fix [] [(r0, .inr (3, [.ref a0, .ref b0, .int (nI rd), .int (nI mt), .int (nI dr), .ref c0, .ref d0, .ref e0, .ref f0])), (a0, .inr (0, [.ref a1])), (a1, .inl (ty 1, 4, .inr (.inl (zM F)))), (b0, .inr (0, [.ref b1])), (b1, .inl (ty 1, 4, .inr (.inl (zM (foll F))))), (c0, .inr (0, [.ref c1])), (c1, .inl (ty 1, 4, .inr (.inl (zM zNo)))), (d0, .inl (ty 0, 256, .inl (ro))), (e0, .inl (ty 0, 256, .inl (ru))), (f0, .inl (ty 0, 105, .inl (sz))), (l0, .inr (2, [.ref l1, .ref l2, .int (nI nr)])), (l1, .inr (0, [.ref l3])), (l3, .inl (ty 1, 4, .inr (.inl (zM T)))), (l2, .inl (ty 0, 18, .inl (eR q)))] [0, 1, 2, 3, 4, 12, 13, 5, 6, 7, 8, 9, 10, 11] rfl rfl rfl ?_
        refine g_iconst C (nI 0) ic_0 dX5_run_90 ?_
        refine g_istore_n C [(3, .int (nI 0)), (0, .ref r0), (1, .ref l0), (2, .int (nI (rd + 1)))] dX5_run_91 rfl (by decide) rfl ?_
        refine g_lo [1, 2, 3, 0] [(0, .ref r0), (1, .ref l0), (2, .int (nI (rd + 1))), (3, .int (nI 0))] rfl ?_
        refine g_ws [(r0, .inr (3, [.ref a0, .ref b0, .int (nI rd), .int (nI mt), .int (nI dr), .ref c0, .ref d0, .ref e0, .ref f0])), (a0, .inr (0, [.ref a1])), (a1, .inl (ty 1, 4, .inr (.inl (zM F)))), (b0, .inr (0, [.ref b1])), (b1, .inl (ty 1, 4, .inr (.inl (zM (foll F))))), (c0, .inr (0, [.ref c1])), (c1, .inl (ty 1, 4, .inr (.inl (zM zNo)))), (d0, .inl (ty 0, 256, .inl (roA zNo rd ro))), (e0, .inl (ty 0, 256, .inl (ruA zNo (fun _ => 0) ru))), (f0, .inl (ty 0, 105, .inl (sz))), (l0, .inr (2, [.ref l1, .ref l2, .int (nI nr)])), (l1, .inr (0, [.ref l3])), (l3, .inl (ty 1, 4, .inr (.inl (zM T)))), (l2, .inl (ty 0, 18, .inl (eR q)))] (by rw [roA_no, ruA_no]) ?_
        have L92 : ∀ (fu92 : Nat) (i : Nat) (hi : i ≤ nr), (nr - i) < fu92 → gW pg l en r_X5_run s0 mi ag bl mth cd 4 D AA HH QQ 92 [(0, .ref r0), (1, .ref l0), (2, .int (nI (rd + 1))), (3, .int (nI i))] [] [(r0, .inr (3, [.ref a0, .ref b0, .int (nI rd), .int (nI ((rus F (foll F) q i (mt, zNo, fun _ => 0)).1)), .int (nI dr), .ref c0, .ref d0, .ref e0, .ref f0])), (a0, .inr (0, [.ref a1])), (a1, .inl (ty 1, 4, .inr (.inl (zM F)))), (b0, .inr (0, [.ref b1])), (b1, .inl (ty 1, 4, .inr (.inl (zM (foll F))))), (c0, .inr (0, [.ref c1])), (c1, .inl (ty 1, 4, .inr (.inl (zM ((rus F (foll F) q i (mt, zNo, fun _ => 0)).2.1))))), (d0, .inl (ty 0, 256, .inl (roA (rus F (foll F) q i (mt, zNo, fun _ => 0)).2.1 rd ro))), (e0, .inl (ty 0, 256, .inl (ruA (rus F (foll F) q i (mt, zNo, fun _ => 0)).2.1 (rus F (foll F) q i (mt, zNo, fun _ => 0)).2.2 ru))), (f0, .inl (ty 0, 105, .inl (sz))), (l0, .inr (2, [.ref l1, .ref l2, .int (nI nr)])), (l1, .inr (0, [.ref l3])), (l3, .inl (ty 1, 4, .inr (.inl (zM T)))), (l2, .inl (ty 0, 18, .inl (eR q)))] 0 0 := by
          intro fu92
          induction fu92 with
          | zero => intro i hi hfu; exact absurd hfu (Nat.not_lt_zero _)
          | succ fu92 ih92 =>
            intro i hi hfu92
            refine g_iload_n C 3 rfl dX5_run_92 ?_
            refine g_aload_n C 1 rfl dX5_run_93 ?_
            refine g_callV C (nA := 0) (ci := 2) (q0 := 0) (As := []) (wr := [(r0, .inr (3, [.ref a0, .ref b0, .int (nI rd), .int (nI ((rus F (foll F) q i (mt, zNo, fun _ => 0)).1)), .int (nI dr), .ref c0, .ref d0, .ref e0, .ref f0])), (a0, .inr (0, [.ref a1])), (a1, .inl (ty 1, 4, .inr (.inl (zM F)))), (b0, .inr (0, [.ref b1])), (b1, .inl (ty 1, 4, .inr (.inl (zM (foll F))))), (c0, .inr (0, [.ref c1])), (c1, .inl (ty 1, 4, .inr (.inl (zM ((rus F (foll F) q i (mt, zNo, fun _ => 0)).2.1))))), (d0, .inl (ty 0, 256, .inl (roA (rus F (foll F) q i (mt, zNo, fun _ => 0)).2.1 rd ro))), (e0, .inl (ty 0, 256, .inl (ruA (rus F (foll F) q i (mt, zNo, fun _ => 0)).2.1 (rus F (foll F) q i (mt, zNo, fun _ => 0)).2.2 ru))), (f0, .inl (ty 0, 105, .inl (sz))), (l1, .inr (0, [.ref l3])), (l3, .inl (ty 1, 4, .inr (.inl (zM T)))), (l2, .inl (ty 0, 18, .inl (eR q)))]) (k_X4_ruleCount l D ty l0 l1 l2 nr ) wm_X5_84 wn_X4_ruleCount wv_X4_ruleCount wi_X4 wc_X4_ruleCount rfl (by decide +kernel) ⟨(Nat.le_of_ble_eq_true rfl), (Nat.le_of_ble_eq_true rfl)⟩ ⟨rfl, rfl⟩ dX5_run_94 ⟨Nat.zero_le _, Nat.zero_le _⟩ rfl rfl rfl [10] [0, 1, 2, 3, 4, 5, 6, 7, 8, 9, 11, 12, 13] rfl rfl rfl rfl (by decide) (Nat.le_of_ble_eq_true rfl) rfl (fun r W1 hp => ?_)
            obtain ⟨rfl, rfl⟩ := hp
            refine g_fix [.int (nI nr), .int (nI i)] [(r0, .inr (3, [.ref a0, .ref b0, .int (nI rd), .int (nI ((rus F (foll F) q i (mt, zNo, fun _ => 0)).1)), .int (nI dr), .ref c0, .ref d0, .ref e0, .ref f0])), (a0, .inr (0, [.ref a1])), (a1, .inl (ty 1, 4, .inr (.inl (zM F)))), (b0, .inr (0, [.ref b1])), (b1, .inl (ty 1, 4, .inr (.inl (zM (foll F))))), (c0, .inr (0, [.ref c1])), (c1, .inl (ty 1, 4, .inr (.inl (zM ((rus F (foll F) q i (mt, zNo, fun _ => 0)).2.1))))), (d0, .inl (ty 0, 256, .inl (roA (rus F (foll F) q i (mt, zNo, fun _ => 0)).2.1 rd ro))), (e0, .inl (ty 0, 256, .inl (ruA (rus F (foll F) q i (mt, zNo, fun _ => 0)).2.1 (rus F (foll F) q i (mt, zNo, fun _ => 0)).2.2 ru))), (f0, .inl (ty 0, 105, .inl (sz))), (l0, .inr (2, [.ref l1, .ref l2, .int (nI nr)])), (l1, .inr (0, [.ref l3])), (l3, .inl (ty 1, 4, .inr (.inl (zM T)))), (l2, .inl (ty 0, 18, .inl (eR q)))] [0, 1, 2, 3, 4, 5, 6, 7, 8, 9, 13, 10, 11, 12] rfl rfl rfl ?_
            refine g_icmp_geN C i nr 112 rfl rfl (by omega) (by omega) dX5_run_97 rfl (fun c97 => ?_) (fun c97 => ?_)
            · skip
              have hin : i = nr := by omega
              have hU : okF (rX q nr F mt).2.1 := okF_rus hq okF_no nr (Nat.le_refl _)
              refine g_ws [(r0, .inr (3, [.ref a0, .ref b0, .int (nI rd), .int (nI ((rX q nr F mt).1)), .int (nI dr), .ref c0, .ref d0, .ref e0, .ref f0])), (a0, .inr (0, [.ref a1])), (a1, .inl (ty 1, 4, .inr (.inl (zM F)))), (b0, .inr (0, [.ref b1])), (b1, .inl (ty 1, 4, .inr (.inl (zM (foll F))))), (c0, .inr (0, [.ref c1])), (c1, .inl (ty 1, 4, .inr (.inl (zM (rX q nr F mt).2.1)))), (d0, .inl (ty 0, 256, .inl (roA (rX q nr F mt).2.1 rd ro))), (e0, .inl (ty 0, 256, .inl (ruA (rX q nr F mt).2.1 (rX q nr F mt).2.2 ru))), (f0, .inl (ty 0, 105, .inl (sz))), (l0, .inr (2, [.ref l1, .ref l2, .int (nI nr)])), (l1, .inr (0, [.ref l3])), (l3, .inl (ty 1, 4, .inr (.inl (zM T)))), (l2, .inl (ty 0, 18, .inl (eR q)))] (by rw [show i = nr by omega]; rfl) ?_
              refine g_aload_n C 0 rfl dX5_run_112 ?_
              refine g_getf C wu_X5 0 rfl rfl 5 (by decide) wf_X5_21 rfl rfl dX5_run_113 ?_
              refine g_callV C (nA := 0) (ci := 0) (q0 := 0) (As := []) (wr := [(r0, .inr (3, [.ref a0, .ref b0, .int (nI rd), .int (nI ((rX q nr F mt).1)), .int (nI dr), .ref c0, .ref d0, .ref e0, .ref f0])), (a0, .inr (0, [.ref a1])), (a1, .inl (ty 1, 4, .inr (.inl (zM F)))), (b0, .inr (0, [.ref b1])), (b1, .inl (ty 1, 4, .inr (.inl (zM (foll F))))), (d0, .inl (ty 0, 256, .inl (roA (rX q nr F mt).2.1 rd ro))), (e0, .inl (ty 0, 256, .inl (ruA (rX q nr F mt).2.1 (rX q nr F mt).2.2 ru))), (f0, .inl (ty 0, 105, .inl (sz))), (l0, .inr (2, [.ref l1, .ref l2, .int (nI nr)])), (l1, .inr (0, [.ref l3])), (l3, .inl (ty 1, 4, .inr (.inl (zM T)))), (l2, .inl (ty 0, 18, .inl (eR q)))]) (k_X2_size l D ty c0 c1 ((rX q nr F mt).2.1) ) wm_X5_78 wn_X2_size wv_X2_size wi_X2 wc_X2_size rfl (by decide +kernel) ⟨(Nat.le_of_ble_eq_true rfl), (Nat.le_of_ble_eq_true rfl)⟩ ⟨rfl, rfl⟩ dX5_run_116 ⟨Nat.zero_le _, Nat.zero_le _⟩ rfl rfl rfl [5, 6] [0, 1, 2, 3, 4, 7, 8, 9, 10, 11, 12, 13] rfl rfl rfl rfl (by decide) (Nat.le_of_ble_eq_true rfl) rfl (fun r W1 hp => ?_)
              obtain ⟨rfl, rfl⟩ := hp
              refine g_fix [.int (nI (zcnt ((rX q nr F mt).2.1) 256))] [(r0, .inr (3, [.ref a0, .ref b0, .int (nI rd), .int (nI ((rX q nr F mt).1)), .int (nI dr), .ref c0, .ref d0, .ref e0, .ref f0])), (a0, .inr (0, [.ref a1])), (a1, .inl (ty 1, 4, .inr (.inl (zM F)))), (b0, .inr (0, [.ref b1])), (b1, .inl (ty 1, 4, .inr (.inl (zM (foll F))))), (c0, .inr (0, [.ref c1])), (c1, .inl (ty 1, 4, .inr (.inl (zM ((rX q nr F mt).2.1))))), (d0, .inl (ty 0, 256, .inl (roA (rX q nr F mt).2.1 rd ro))), (e0, .inl (ty 0, 256, .inl (ruA (rX q nr F mt).2.1 (rX q nr F mt).2.2 ru))), (f0, .inl (ty 0, 105, .inl (sz))), (l0, .inr (2, [.ref l1, .ref l2, .int (nI nr)])), (l1, .inr (0, [.ref l3])), (l3, .inl (ty 1, 4, .inr (.inl (zM T)))), (l2, .inl (ty 0, 18, .inl (eR q)))] [0, 1, 2, 3, 4, 12, 13, 5, 6, 7, 8, 9, 10, 11] rfl rfl rfl ?_
              refine g_if_neN C (zcnt ((rX q nr F mt).2.1) 256) 123 rfl (by have := zcnt_le (rX q nr F mt).2.1 256; omega) dX5_run_119 rfl (fun c119 => ?_) (fun c119 => ?_)
              · skip
                refine g_aload_n C 0 rfl dX5_run_123 ?_
                refine g_iload_n C 2 rfl dX5_run_124 ?_
                refine g_putf C wu_X5 tyX5 tyX5_ok nmX5 0 rfl rfl 2 (by decide) wf_X5_40 rfl rfl rfl rfl (Nat.le_of_ble_eq_true rfl) dX5_run_125 [(r0, .inr (3, [.ref a0, .ref b0, .int (nI (rd + 1)), .int (nI ((rX q nr F mt).1)), .int (nI dr), .ref c0, .ref d0, .ref e0, .ref f0])), (a0, .inr (0, [.ref a1])), (a1, .inl (ty 1, 4, .inr (.inl (zM F)))), (b0, .inr (0, [.ref b1])), (b1, .inl (ty 1, 4, .inr (.inl (zM (foll F))))), (c0, .inr (0, [.ref c1])), (c1, .inl (ty 1, 4, .inr (.inl (zM ((rX q nr F mt).2.1))))), (d0, .inl (ty 0, 256, .inl (roA (rX q nr F mt).2.1 rd ro))), (e0, .inl (ty 0, 256, .inl (ruA (rX q nr F mt).2.1 (rX q nr F mt).2.2 ru))), (f0, .inl (ty 0, 105, .inl (sz))), (l0, .inr (2, [.ref l1, .ref l2, .int (nI nr)])), (l1, .inr (0, [.ref l3])), (l3, .inl (ty 1, 4, .inr (.inl (zM T)))), (l2, .inl (ty 0, 18, .inl (eR q)))] rfl ?_
                refine g_aload_n C 0 rfl dX5_run_128 ?_
                refine g_getf C wu_X5 0 rfl rfl 0 (by decide) wf_X5_12 rfl rfl dX5_run_129 ?_
                refine g_aload_n C 0 rfl dX5_run_132 ?_
                refine g_getf C wu_X5 0 rfl rfl 5 (by decide) wf_X5_21 rfl rfl dX5_run_133 ?_
                refine g_callV C (nA := 1) (ci := 0) (q0 := 0) (As := [.ref c0]) (wr := [(r0, .inr (3, [.ref a0, .ref b0, .int (nI (rd + 1)), .int (nI ((rX q nr F mt).1)), .int (nI dr), .ref c0, .ref d0, .ref e0, .ref f0])), (b0, .inr (0, [.ref b1])), (b1, .inl (ty 1, 4, .inr (.inl (zM (foll F))))), (d0, .inl (ty 0, 256, .inl (roA (rX q nr F mt).2.1 rd ro))), (e0, .inl (ty 0, 256, .inl (ruA (rX q nr F mt).2.1 (rX q nr F mt).2.2 ru))), (f0, .inl (ty 0, 105, .inl (sz))), (l0, .inr (2, [.ref l1, .ref l2, .int (nI nr)])), (l1, .inr (0, [.ref l3])), (l3, .inl (ty 1, 4, .inr (.inl (zM T)))), (l2, .inl (ty 0, 18, .inl (eR q)))]) (k_X2_putAll l D ty a0 a1 F c0 c1 ((rX q nr F mt).2.1) ) wm_X5_91 wn_X2_putAll wv_X2_putAll wi_X2 wc_X2_putAll rfl (by decide +kernel) ⟨(Nat.le_of_ble_eq_true rfl), (Nat.le_of_ble_eq_true rfl)⟩ ⟨rfl, rfl⟩ dX5_run_136 ⟨Nat.zero_le _, Nat.zero_le _⟩ rfl rfl rfl [1, 2, 5, 6] [0, 3, 4, 7, 8, 9, 10, 11, 12, 13] rfl rfl rfl rfl (by decide) (Nat.le_of_ble_eq_true rfl) rfl (fun r W1 hp => ?_)
                obtain ⟨rfl, rfl⟩ := hp
                refine g_fix [] [(r0, .inr (3, [.ref a0, .ref b0, .int (nI (rd + 1)), .int (nI ((rX q nr F mt).1)), .int (nI dr), .ref c0, .ref d0, .ref e0, .ref f0])), (a0, .inr (0, [.ref a1])), (a1, .inl (ty 1, 4, .inr (.inl (zM (zOr F ((rX q nr F mt).2.1)))))), (b0, .inr (0, [.ref b1])), (b1, .inl (ty 1, 4, .inr (.inl (zM (foll F))))), (c0, .inr (0, [.ref c1])), (c1, .inl (ty 1, 4, .inr (.inl (zM ((rX q nr F mt).2.1))))), (d0, .inl (ty 0, 256, .inl (roA (rX q nr F mt).2.1 rd ro))), (e0, .inl (ty 0, 256, .inl (ruA (rX q nr F mt).2.1 (rX q nr F mt).2.2 ru))), (f0, .inl (ty 0, 105, .inl (sz))), (l0, .inr (2, [.ref l1, .ref l2, .int (nI nr)])), (l1, .inr (0, [.ref l3])), (l3, .inl (ty 1, 4, .inr (.inl (zM T)))), (l2, .inl (ty 0, 18, .inl (eR q)))] [0, 10, 11, 1, 2, 12, 13, 3, 4, 5, 6, 7, 8, 9] rfl rfl rfl ?_
                refine g_aload_n C 0 rfl dX5_run_139 ?_
                refine g_dup C rfl dX5_run_140 ?_
                refine g_getf C wu_X5 0 rfl rfl 4 (by decide) wf_X5_72 rfl rfl dX5_run_141 ?_
                refine g_aload_n C 0 rfl dX5_run_144 ?_
                refine g_getf C wu_X5 0 rfl rfl 0 (by decide) wf_X5_12 rfl rfl dX5_run_145 ?_
                refine g_callV C (nA := 0) (ci := 0) (q0 := 0) (As := []) (wr := [(r0, .inr (3, [.ref a0, .ref b0, .int (nI (rd + 1)), .int (nI ((rX q nr F mt).1)), .int (nI dr), .ref c0, .ref d0, .ref e0, .ref f0])), (b0, .inr (0, [.ref b1])), (b1, .inl (ty 1, 4, .inr (.inl (zM (foll F))))), (c0, .inr (0, [.ref c1])), (c1, .inl (ty 1, 4, .inr (.inl (zM ((rX q nr F mt).2.1))))), (d0, .inl (ty 0, 256, .inl (roA (rX q nr F mt).2.1 rd ro))), (e0, .inl (ty 0, 256, .inl (ruA (rX q nr F mt).2.1 (rX q nr F mt).2.2 ru))), (f0, .inl (ty 0, 105, .inl (sz))), (l0, .inr (2, [.ref l1, .ref l2, .int (nI nr)])), (l1, .inr (0, [.ref l3])), (l3, .inl (ty 1, 4, .inr (.inl (zM T)))), (l2, .inl (ty 0, 18, .inl (eR q)))]) (k_X2_dropWeaker l D ty a0 a1 (zOr F (rX q nr F mt).2.1) ) wm_X5_68 wn_X2_dropWeaker wv_X2_dropWeaker wi_X2 wc_X2_dropWeaker rfl (by decide +kernel) ⟨(Nat.le_of_ble_eq_true rfl), (Nat.le_of_ble_eq_true rfl)⟩ ⟨rfl, rfl⟩ dX5_run_148 ⟨Nat.zero_le _, Nat.zero_le _⟩ rfl rfl rfl [1, 2] [0, 3, 4, 5, 6, 7, 8, 9, 10, 11, 12, 13] rfl rfl rfl rfl (by decide) (Nat.le_of_ble_eq_true rfl) rfl (fun r W1 hp => ?_)
                obtain ⟨rfl, rfl⟩ := hp
                refine g_fix [.int (nI (zcnt (zOr F (rX q nr F mt).2.1) 256 - zcnt (drp (zOr F (rX q nr F mt).2.1)) 256)), .int (nI dr), .ref r0] [(r0, .inr (3, [.ref a0, .ref b0, .int (nI (rd + 1)), .int (nI ((rX q nr F mt).1)), .int (nI dr), .ref c0, .ref d0, .ref e0, .ref f0])), (a0, .inr (0, [.ref a1])), (a1, .inl (ty 1, 4, .inr (.inl (zM (drp (zOr F (rX q nr F mt).2.1)))))), (b0, .inr (0, [.ref b1])), (b1, .inl (ty 1, 4, .inr (.inl (zM (foll F))))), (c0, .inr (0, [.ref c1])), (c1, .inl (ty 1, 4, .inr (.inl (zM ((rX q nr F mt).2.1))))), (d0, .inl (ty 0, 256, .inl (roA (rX q nr F mt).2.1 rd ro))), (e0, .inl (ty 0, 256, .inl (ruA (rX q nr F mt).2.1 (rX q nr F mt).2.2 ru))), (f0, .inl (ty 0, 105, .inl (sz))), (l0, .inr (2, [.ref l1, .ref l2, .int (nI nr)])), (l1, .inr (0, [.ref l3])), (l3, .inl (ty 1, 4, .inr (.inl (zM T)))), (l2, .inl (ty 0, 18, .inl (eR q)))] [0, 12, 13, 1, 2, 3, 4, 5, 6, 7, 8, 9, 10, 11] rfl rfl rfl ?_
                refine g_iadd C (nI (dr + (zcnt (zOr F (rX q nr F mt).2.1) 256 - zcnt (drp (zOr F (rX q nr F mt).2.1)) 256))) dX5_run_151 (nI_add _ _) ?_
                refine g_putf C wu_X5 tyX5 tyX5_ok nmX5 0 rfl rfl 4 (by decide) wf_X5_72 rfl rfl rfl rfl (Nat.le_of_ble_eq_true rfl) dX5_run_152 [(r0, .inr (3, [.ref a0, .ref b0, .int (nI (rd + 1)), .int (nI ((rX q nr F mt).1)), .int (nI (dr + (zcnt (zOr F (rX q nr F mt).2.1) 256 - zcnt (drp (zOr F (rX q nr F mt).2.1)) 256))), .ref c0, .ref d0, .ref e0, .ref f0])), (a0, .inr (0, [.ref a1])), (a1, .inl (ty 1, 4, .inr (.inl (zM (drp (zOr F (rX q nr F mt).2.1)))))), (b0, .inr (0, [.ref b1])), (b1, .inl (ty 1, 4, .inr (.inl (zM (foll F))))), (c0, .inr (0, [.ref c1])), (c1, .inl (ty 1, 4, .inr (.inl (zM ((rX q nr F mt).2.1))))), (d0, .inl (ty 0, 256, .inl (roA (rX q nr F mt).2.1 rd ro))), (e0, .inl (ty 0, 256, .inl (ruA (rX q nr F mt).2.1 (rX q nr F mt).2.2 ru))), (f0, .inl (ty 0, 105, .inl (sz))), (l0, .inr (2, [.ref l1, .ref l2, .int (nI nr)])), (l1, .inr (0, [.ref l3])), (l3, .inl (ty 1, 4, .inr (.inl (zM T)))), (l2, .inl (ty 0, 18, .inl (eR q)))] rfl ?_
                refine g_aload_n C 0 rfl dX5_run_155 ?_
                refine g_getf C wu_X5 0 rfl rfl 1 (by decide) wf_X5_18 rfl rfl dX5_run_156 ?_
                refine g_aload_n C 0 rfl dX5_run_159 ?_
                refine g_getf C wu_X5 0 rfl rfl 0 (by decide) wf_X5_12 rfl rfl dX5_run_160 ?_
                refine g_callV C (nA := 1) (ci := 0) (q0 := 0) (As := [.ref a0]) (wr := [(r0, .inr (3, [.ref a0, .ref b0, .int (nI (rd + 1)), .int (nI ((rX q nr F mt).1)), .int (nI (dr + (zcnt (zOr F (rX q nr F mt).2.1) 256 - zcnt (drp (zOr F (rX q nr F mt).2.1)) 256))), .ref c0, .ref d0, .ref e0, .ref f0])), (c0, .inr (0, [.ref c1])), (c1, .inl (ty 1, 4, .inr (.inl (zM ((rX q nr F mt).2.1))))), (d0, .inl (ty 0, 256, .inl (roA (rX q nr F mt).2.1 rd ro))), (e0, .inl (ty 0, 256, .inl (ruA (rX q nr F mt).2.1 (rX q nr F mt).2.2 ru))), (f0, .inl (ty 0, 105, .inl (sz))), (l0, .inr (2, [.ref l1, .ref l2, .int (nI nr)])), (l1, .inr (0, [.ref l3])), (l3, .inl (ty 1, 4, .inr (.inl (zM T)))), (l2, .inl (ty 0, 18, .inl (eR q)))]) (k_X2_allFrom l D ty b0 b1 (foll F) a0 a1 (drp (zOr F (rX q nr F mt).2.1)) ) wm_X5_75 wn_X2_allFrom wv_X2_allFrom wi_X2 wc_X2_allFrom rfl (by decide +kernel) ⟨(Nat.le_of_ble_eq_true rfl), (Nat.le_of_ble_eq_true rfl)⟩ ⟨rfl, rfl⟩ dX5_run_163 ⟨Nat.zero_le _, Nat.zero_le _⟩ rfl rfl rfl [3, 4, 1, 2] [0, 5, 6, 7, 8, 9, 10, 11, 12, 13] rfl rfl rfl rfl (by decide) (Nat.le_of_ble_eq_true rfl) rfl (fun r W1 hp => ?_)
                obtain ⟨rfl, rfl⟩ := hp
                refine g_fix [] [(r0, .inr (3, [.ref a0, .ref b0, .int (nI (rd + 1)), .int (nI ((rX q nr F mt).1)), .int (nI (dr + (zcnt (zOr F (rX q nr F mt).2.1) 256 - zcnt (drp (zOr F (rX q nr F mt).2.1)) 256))), .ref c0, .ref d0, .ref e0, .ref f0])), (a0, .inr (0, [.ref a1])), (a1, .inl (ty 1, 4, .inr (.inl (zM (drp (zOr F (rX q nr F mt).2.1)))))), (b0, .inr (0, [.ref b1])), (b1, .inl (ty 1, 4, .inr (.inl (zM (foll (drp (zOr F (rX q nr F mt).2.1))))))), (c0, .inr (0, [.ref c1])), (c1, .inl (ty 1, 4, .inr (.inl (zM ((rX q nr F mt).2.1))))), (d0, .inl (ty 0, 256, .inl (roA (rX q nr F mt).2.1 rd ro))), (e0, .inl (ty 0, 256, .inl (ruA (rX q nr F mt).2.1 (rX q nr F mt).2.2 ru))), (f0, .inl (ty 0, 105, .inl (sz))), (l0, .inr (2, [.ref l1, .ref l2, .int (nI nr)])), (l1, .inr (0, [.ref l3])), (l3, .inl (ty 1, 4, .inr (.inl (zM T)))), (l2, .inl (ty 0, 18, .inl (eR q)))] [0, 12, 13, 10, 11, 1, 2, 3, 4, 5, 6, 7, 8, 9] rfl rfl rfl ?_
                refine g_aload_n C 0 rfl dX5_run_166 ?_
                refine g_getf C wu_X5 0 rfl rfl 8 (by decide) wf_X5_33 rfl rfl dX5_run_167 ?_
                refine g_iload_n C 2 rfl dX5_run_170 ?_
                refine g_aload_n C 0 rfl dX5_run_171 ?_
                refine g_getf C wu_X5 0 rfl rfl 0 (by decide) wf_X5_12 rfl rfl dX5_run_172 ?_
                refine g_callV C (nA := 0) (ci := 0) (q0 := 0) (As := []) (wr := [(r0, .inr (3, [.ref a0, .ref b0, .int (nI (rd + 1)), .int (nI ((rX q nr F mt).1)), .int (nI (dr + (zcnt (zOr F (rX q nr F mt).2.1) 256 - zcnt (drp (zOr F (rX q nr F mt).2.1)) 256))), .ref c0, .ref d0, .ref e0, .ref f0])), (b0, .inr (0, [.ref b1])), (b1, .inl (ty 1, 4, .inr (.inl (zM (foll (drp (zOr F (rX q nr F mt).2.1))))))), (c0, .inr (0, [.ref c1])), (c1, .inl (ty 1, 4, .inr (.inl (zM ((rX q nr F mt).2.1))))), (d0, .inl (ty 0, 256, .inl (roA (rX q nr F mt).2.1 rd ro))), (e0, .inl (ty 0, 256, .inl (ruA (rX q nr F mt).2.1 (rX q nr F mt).2.2 ru))), (f0, .inl (ty 0, 105, .inl (sz))), (l0, .inr (2, [.ref l1, .ref l2, .int (nI nr)])), (l1, .inr (0, [.ref l3])), (l3, .inl (ty 1, 4, .inr (.inl (zM T)))), (l2, .inl (ty 0, 18, .inl (eR q)))]) (k_X2_size l D ty a0 a1 (drp (zOr F (rX q nr F mt).2.1)) ) wm_X5_78 wn_X2_size wv_X2_size wi_X2 wc_X2_size rfl (by decide +kernel) ⟨(Nat.le_of_ble_eq_true rfl), (Nat.le_of_ble_eq_true rfl)⟩ ⟨rfl, rfl⟩ dX5_run_175 ⟨Nat.zero_le _, Nat.zero_le _⟩ rfl rfl rfl [1, 2] [0, 3, 4, 5, 6, 7, 8, 9, 10, 11, 12, 13] rfl rfl rfl rfl (by decide) (Nat.le_of_ble_eq_true rfl) rfl (fun r W1 hp => ?_)
                obtain ⟨rfl, rfl⟩ := hp
                refine g_fix [.int (nI (zcnt (drp (zOr F (rX q nr F mt).2.1)) 256)), .int (nI (rd + 1)), .ref f0] [(r0, .inr (3, [.ref a0, .ref b0, .int (nI (rd + 1)), .int (nI ((rX q nr F mt).1)), .int (nI (dr + (zcnt (zOr F (rX q nr F mt).2.1) 256 - zcnt (drp (zOr F (rX q nr F mt).2.1)) 256))), .ref c0, .ref d0, .ref e0, .ref f0])), (a0, .inr (0, [.ref a1])), (a1, .inl (ty 1, 4, .inr (.inl (zM (drp (zOr F (rX q nr F mt).2.1)))))), (b0, .inr (0, [.ref b1])), (b1, .inl (ty 1, 4, .inr (.inl (zM (foll (drp (zOr F (rX q nr F mt).2.1))))))), (c0, .inr (0, [.ref c1])), (c1, .inl (ty 1, 4, .inr (.inl (zM ((rX q nr F mt).2.1))))), (d0, .inl (ty 0, 256, .inl (roA (rX q nr F mt).2.1 rd ro))), (e0, .inl (ty 0, 256, .inl (ruA (rX q nr F mt).2.1 (rX q nr F mt).2.2 ru))), (f0, .inl (ty 0, 105, .inl (sz))), (l0, .inr (2, [.ref l1, .ref l2, .int (nI nr)])), (l1, .inr (0, [.ref l3])), (l3, .inl (ty 1, 4, .inr (.inl (zM T)))), (l2, .inl (ty 0, 18, .inl (eR q)))] [0, 12, 13, 1, 2, 3, 4, 5, 6, 7, 8, 9, 10, 11] rfl rfl rfl ?_
                refine g_iast C 9 rfl (rd + 1) rfl (by omega) (by decide) dX5_run_178 (upd (sz) (rd + 1) (nI (zcnt (drp (zOr F (rX q nr F mt).2.1)) 256))) rfl [(r0, .inr (3, [.ref a0, .ref b0, .int (nI (rd + 1)), .int (nI ((rX q nr F mt).1)), .int (nI (dr + (zcnt (zOr F (rX q nr F mt).2.1) 256 - zcnt (drp (zOr F (rX q nr F mt).2.1)) 256))), .ref c0, .ref d0, .ref e0, .ref f0])), (a0, .inr (0, [.ref a1])), (a1, .inl (ty 1, 4, .inr (.inl (zM (drp (zOr F (rX q nr F mt).2.1)))))), (b0, .inr (0, [.ref b1])), (b1, .inl (ty 1, 4, .inr (.inl (zM (foll (drp (zOr F (rX q nr F mt).2.1))))))), (c0, .inr (0, [.ref c1])), (c1, .inl (ty 1, 4, .inr (.inl (zM ((rX q nr F mt).2.1))))), (d0, .inl (ty 0, 256, .inl (roA (rX q nr F mt).2.1 rd ro))), (e0, .inl (ty 0, 256, .inl (ruA (rX q nr F mt).2.1 (rX q nr F mt).2.2 ru))), (f0, .inl (ty 0, 105, .inl (upd (sz) (rd + 1) (nI (zcnt (drp (zOr F (rX q nr F mt).2.1)) 256))))), (l0, .inr (2, [.ref l1, .ref l2, .int (nI nr)])), (l1, .inr (0, [.ref l3])), (l3, .inl (ty 1, 4, .inr (.inl (zM T)))), (l2, .inl (ty 0, 18, .inl (eR q)))] rfl ?_
                refine g_iinc C (nI ((rd + 1) + 1)) [(2, .int (nI ((rd + 1) + 1))), (0, .ref r0), (1, .ref l0), (3, .int (nI i))] 2 dX5_run_179 rfl (ii_1 _) (by decide) rfl ?_
                refine g_goto C 74 dX5_run_182 rfl ?_
                refine g_lo [1, 2, 0] [(0, .ref r0), (1, .ref l0), (2, .int (nI ((rd + 1) + 1)))] rfl ?_
                exact ih74 (drp (zOr F (rX q nr F mt).2.1)) ((rX q nr F mt).2.1) (rd + 1) ((rX q nr F mt).1) (dr + (zcnt (zOr F (rX q nr F mt).2.1) 256 - zcnt (drp (zOr F (rX q nr F mt).2.1)) 256)) (roA (rX q nr F mt).2.1 rd ro) (ruA (rX q nr F mt).2.1 (rX q nr F mt).2.2 ru) (upd sz (rd + 1) (nI (zcnt (drp (zOr F (rX q nr F mt).2.1)) 256))) (okF_drp (okF_or hF hU)) (by omega) (by rw [← hs, show 104 - rd = (104 - (rd + 1)) + 1 by omega]; exact (srch_f (Z := (F, rd, mt, dr, ro, ru, sz)) c119).symm) (by omega)
              · skip
                have hz : fnd q nr T sz0 = fin q nr (F, rd, mt, dr, ro, ru, sz) := by rw [← hs, show 104 - rd = (103 - rd) + 1 by omega]; exact srch_t (Z := (F, rd, mt, dr, ro, ru, sz)) c119
                have hnu := zcnt_zero.mp c119
                refine g_extI 7 rfl (ro) (fun j hj => by unfold roA; rw [hnu j hj]; rfl) [(r0, .inr (3, [.ref a0, .ref b0, .int (nI rd), .int (nI ((rX q nr F mt).1)), .int (nI dr), .ref c0, .ref d0, .ref e0, .ref f0])), (a0, .inr (0, [.ref a1])), (a1, .inl (ty 1, 4, .inr (.inl (zM F)))), (b0, .inr (0, [.ref b1])), (b1, .inl (ty 1, 4, .inr (.inl (zM (foll F))))), (c0, .inr (0, [.ref c1])), (c1, .inl (ty 1, 4, .inr (.inl (zM ((rX q nr F mt).2.1))))), (d0, .inl (ty 0, 256, .inl (ro))), (e0, .inl (ty 0, 256, .inl (ruA (rX q nr F mt).2.1 (rX q nr F mt).2.2 ru))), (f0, .inl (ty 0, 105, .inl (sz))), (l0, .inr (2, [.ref l1, .ref l2, .int (nI nr)])), (l1, .inr (0, [.ref l3])), (l3, .inl (ty 1, 4, .inr (.inl (zM T)))), (l2, .inl (ty 0, 18, .inl (eR q)))] rfl ?_
                refine g_extI 8 rfl (ru) (fun j hj => by unfold ruA; rw [hnu j hj]; rfl) [(r0, .inr (3, [.ref a0, .ref b0, .int (nI rd), .int (nI ((rX q nr F mt).1)), .int (nI dr), .ref c0, .ref d0, .ref e0, .ref f0])), (a0, .inr (0, [.ref a1])), (a1, .inl (ty 1, 4, .inr (.inl (zM F)))), (b0, .inr (0, [.ref b1])), (b1, .inl (ty 1, 4, .inr (.inl (zM (foll F))))), (c0, .inr (0, [.ref c1])), (c1, .inl (ty 1, 4, .inr (.inl (zM ((rX q nr F mt).2.1))))), (d0, .inl (ty 0, 256, .inl (ro))), (e0, .inl (ty 0, 256, .inl (ru))), (f0, .inl (ty 0, 105, .inl (sz))), (l0, .inr (2, [.ref l1, .ref l2, .int (nI nr)])), (l1, .inr (0, [.ref l3])), (l3, .inl (ty 1, 4, .inr (.inl (zM T)))), (l2, .inl (ty 0, 18, .inl (eR q)))] rfl ?_
                exact g_vret E dX5_run_122 (by decide) (by decide) ⟨(rX q nr F mt).2.1, rfl, (by rw [hz]; rfl)⟩
            · skip
              refine g_aload_n C 0 rfl dX5_run_100 ?_
              refine g_aload_n C 1 rfl dX5_run_101 ?_
              refine g_iload_n C 3 rfl dX5_run_102 ?_
              refine g_callV C (nA := 2) (ci := 3) (q0 := 0) (As := [.ref l0, .int (nI i)]) (wr := [(f0, .inl (ty 0, 105, .inl (sz))), (l1, .inr (0, [.ref l3])), (l3, .inl (ty 1, 4, .inr (.inl (zM T))))]) (k_X5_playRule l D ty r0 a0 a1 b0 b1 c0 c1 d0 e0 f0 rd dr F (foll F) ro ru l0 l1 l2 q nr i (rus F (foll F) q i (mt, zNo, fun _ => 0)) hF (by omega) (hq.2 i (by omega)).1 (hq.2 i (by omega)).2.1 (hq.2 i (by omega)).2.2) wm_X5_87 wn_X5_playRule wv_X5_playRule wi_X5 wc_X5_playRule rfl (by decide +kernel) ⟨(Nat.le_of_ble_eq_true rfl), (Nat.le_of_ble_eq_true rfl)⟩ ⟨rfl, rfl⟩ dX5_run_103 ⟨Nat.zero_le _, Nat.zero_le _⟩ rfl rfl rfl [0, 1, 2, 3, 4, 5, 6, 7, 8, 10, 13] [9, 11, 12] rfl rfl rfl rfl (by decide) (Nat.le_of_ble_eq_true rfl) rfl (fun r W1 hp => ?_)
              obtain ⟨rfl, rfl⟩ := hp
              refine g_fix [] [(r0, .inr (3, [.ref a0, .ref b0, .int (nI rd), .int (nI ((pl F (foll F) (q (3 * i + 1)) (q (3 * i + 2)) (q (3 * i)) i 38 (rus F (foll F) q i (mt, zNo, fun _ => 0))).1)), .int (nI dr), .ref c0, .ref d0, .ref e0, .ref f0])), (a0, .inr (0, [.ref a1])), (a1, .inl (ty 1, 4, .inr (.inl (zM F)))), (b0, .inr (0, [.ref b1])), (b1, .inl (ty 1, 4, .inr (.inl (zM (foll F))))), (c0, .inr (0, [.ref c1])), (c1, .inl (ty 1, 4, .inr (.inl (zM ((pl F (foll F) (q (3 * i + 1)) (q (3 * i + 2)) (q (3 * i)) i 38 (rus F (foll F) q i (mt, zNo, fun _ => 0))).2.1))))), (d0, .inl (ty 0, 256, .inl (roA (pl F (foll F) (q (3 * i + 1)) (q (3 * i + 2)) (q (3 * i)) i 38 (rus F (foll F) q i (mt, zNo, fun _ => 0))).2.1 rd ro))), (e0, .inl (ty 0, 256, .inl (ruA (pl F (foll F) (q (3 * i + 1)) (q (3 * i + 2)) (q (3 * i)) i 38 (rus F (foll F) q i (mt, zNo, fun _ => 0))).2.1 (pl F (foll F) (q (3 * i + 1)) (q (3 * i + 2)) (q (3 * i)) i 38 (rus F (foll F) q i (mt, zNo, fun _ => 0))).2.2 ru))), (f0, .inl (ty 0, 105, .inl (sz))), (l0, .inr (2, [.ref l1, .ref l2, .int (nI nr)])), (l1, .inr (0, [.ref l3])), (l3, .inl (ty 1, 4, .inr (.inl (zM T)))), (l2, .inl (ty 0, 18, .inl (eR q)))] [3, 4, 5, 6, 7, 8, 9, 10, 11, 0, 12, 1, 2, 13] rfl rfl rfl ?_
              refine g_iinc C (nI (i + 1)) [(3, .int (nI (i + 1))), (0, .ref r0), (1, .ref l0), (2, .int (nI (rd + 1)))] 3 dX5_run_106 rfl (ii_1 _) (by decide) rfl ?_
              refine g_goto C 92 dX5_run_109 rfl ?_
              refine g_lo [1, 2, 3, 0] [(0, .ref r0), (1, .ref l0), (2, .int (nI (rd + 1))), (3, .int (nI (i + 1)))] rfl ?_
              exact ih92 (i + 1) (by omega) (by omega)
        exact L92 (nr - 0 + 1) 0 (by omega) (Nat.lt_succ_self _)
  exact L74 (104 - 0 + 1) (drp T) U0 0 0 (zcnt T 256 - zcnt (drp T) 256) (fun _ => (nI 0)) (fun _ => (- 1)) (upd sz0 0 (nI (zcnt (drp T) 256))) (okF_drp hT) (by omega) rfl (Nat.lt_succ_self _)
