section GLSW
variable {p : Program} {l : Launch} {e : Env} {R : Room} {s : State} {m : MethodId} {args : Array Value} {below : List Frame} {meth : Method} {c : Code} {cc : ByteArray} {nL : Nat} {own : String} {D : va_G} {ty : Nat → ClassId} {A : Nat → Prop} {H0 : Heap} {Q : State → Prop} {pc : Nat} {lo : List (Nat × Value)} {st : List Value} {ws : va_W} {k n : Nat}
theorem g_lsw (C : gC p R s m args c cc nL own D ty A H0) {x : Int32} (y : Int32) (hx : x = y) {dflt : Int} {ps : Array (Int × Int)} {len : Nat} {off : Int} (tgt : Nat) (hd : decode cc pc = .ok (.lookupswitch dflt ps, len)) (hp : (ps.toList.zip (ps.toList.drop 1)).all (fun (a, next) => a.1 < next.1) = true) (ho : Op.lookupswitch.offset ps.toList dflt y.toInt = off) (ht : (pc : Int) + off = (tgt : Int)) (kk : gW p l e R s m args below meth c nL D A H0 Q tgt lo st ws k n) : gW p l e R s m args below meth c nL D A H0 Q pc lo (.int x :: st) ws k n := by
  subst hx
  exact fun ls H locs hl hP hD hS => lv_lookup C.1 C.2.1 hd hp ho ht (kk ls H locs hl hP hD hS)
end GLSW
/-! what is found doesn't hang on what the sizes' row held before -/
def cz (Z : ZT) : (Nat → Bool) × Nat × Nat × Nat × (Nat → Int32) × (Nat → Int32) := (Z.1, Z.2.1, Z.2.2.1, Z.2.2.2.1, Z.2.2.2.2.1, Z.2.2.2.2.2.1)
theorem srch_cz {q : Nat → Nat} {nr : Nat} (n : Nat) : ∀ {Z Z' : ZT}, cz Z = cz Z' → cz (srch q nr n Z) = cz (srch q nr n Z') := by
  induction n with
  | zero => intro Z Z' h; exact h
  | succ n ih =>
    intro Z Z' h
    obtain ⟨F, rd, mt, dr, ro, ru, sz⟩ := Z
    obtain ⟨F', rd', mt', dr', ro', ru', sz'⟩ := Z'
    simp only [cz, Prod.mk.injEq] at h
    obtain ⟨rfl, rfl, rfl, rfl, rfl, rfl⟩ := h
    by_cases z : zcnt (rX q nr (zF (F, rd, mt, dr, ro, ru, sz)) (zMt (F, rd, mt, dr, ro, ru, sz))).2.1 256 = 0
    · rw [srch_t z, srch_t (Z := (F, rd, mt, dr, ro, ru, sz')) z]
      rfl
    · rw [srch_f z, srch_f (Z := (F, rd, mt, dr, ro, ru, sz')) z]
      exact ih rfl
def fn0 (q : Nat → Nat) (nr : Nat) (T : Nat → Bool) : ZT := fnd q nr T (fun _ => 0)
theorem fnd_cz (q : Nat → Nat) (nr : Nat) (T : Nat → Bool) (sz : Nat → Int32) : cz (fnd q nr T sz) = cz (fn0 q nr T) := srch_cz 104 rfl
theorem fnd_F (q : Nat → Nat) (nr : Nat) (T : Nat → Bool) (sz : Nat → Int32) : zF (fnd q nr T sz) = zF (fn0 q nr T) := congrArg (fun c => c.1) (fnd_cz q nr T sz)
theorem fnd_rd (q : Nat → Nat) (nr : Nat) (T : Nat → Bool) (sz : Nat → Int32) : zRd (fnd q nr T sz) = zRd (fn0 q nr T) := congrArg (fun c => c.2.1) (fnd_cz q nr T sz)
theorem iM_lt2 : ∀ a, a < 256 → iM a < 2 ^ 16 := by decide +kernel
def iB (a : Nat) : Nat := zcnt (fun k => (iM a).testBit k) 32
theorem nI_nm1 {a : Nat} (h : a < 256) : nI a ≠ -1 := fun e => by
  have := (eA_m1 (v := a) (by omega)).mp (by rw [eA_n (by omega)]; exact e)
  omega
/-- answers of looks -/
def fdA (Z : ZT) (k w : Nat) : Int32 := match nth (zF Z) k 256 with
  | none => -1
  | some a => if w = 0 then nI a else if w = 1 then zRo Z a else if w = 2 then zRu Z a else nI (iB a)
theorem fdA_n {Z : ZT} {k : Nat} (h : nth (zF Z) k 256 = none) (w : Nat) : fdA Z k w = -1 := by unfold fdA; rw [h]
theorem fdA_s {Z : ZT} {k a : Nat} (h : nth (zF Z) k 256 = some a) (w : Nat) : fdA Z k w = if w = 0 then nI a else if w = 1 then zRo Z a else if w = 2 then zRu Z a else nI (iB a) := by unfold fdA; rw [h]
def cnA (T : Nat → Bool) (nr : Nat) (Z : ZT) (sc w : Nat) : Nat := if w = 0 then zcnt T 256 else if w = 1 then nr else if w = 2 then zcnt (zF Z) 256 else if w = 3 then zRd Z else if w = 4 then zMt Z else if w = 5 then zDr Z else if w = 6 then insU (zF Z) 4 else sc
def flA (F : Nat → Bool) (a : Nat) : Nat := if F a = true then 2 else if foll F a = true then 1 else 0
def wiA (Z : ZT) (q : Nat → Nat) (nr : Nat) (T : Nat → Bool) (r w : Nat) : Int32 := if w = 0 then nI (zcnt (zF (fn0 (dRi q r 15) (nr - 1) T)) 256) else if w = 1 then nI (zRd (fn0 (dRi q r 15) (nr - 1) T)) else nI (insU (zF Z) 4) - nI (insU (zF (fn0 (dRi q r 15) (nr - 1) T)) 4)
def spA (q : Nat → Nat) (nr : Nat) (T : Nat → Bool) (k : Nat) : Int32 := match nth T k 256 with
  | none => -1
  | some a => bI (foll (zF (fn0 q nr (zTake T a))) a)
theorem spA_n {q : Nat → Nat} {nr : Nat} {T : Nat → Bool} {k : Nat} (h : nth T k 256 = none) : spA q nr T k = -1 := by unfold spA; rw [h]
theorem spA_s {q : Nat → Nat} {nr : Nat} {T : Nat → Bool} {k a : Nat} (h : nth T k 256 = some a) : spA q nr T k = bI (foll (zF (fn0 q nr (zTake T a))) a) := by unfold spA; rw [h]
def rcv (q : Nat → Nat) (nr : Nat) (T : Nat → Bool) (p j : Nat) : Nat := insU (zF (fn0 q nr (zPut T (64 * p + 8 * (j / 4) + j % 4)))) 4
def rch (q : Nat → Nat) (nr : Nat) (T : Nat → Bool) (p : Nat) : Nat → Int32 × Nat
  | 0 => (-1, 0)
  | n + 1 => if (rch q nr T p n).1 < nI (rcv q nr T p n) then (nI (rcv q nr T p n), 8 * (n / 4) + n % 4) else rch q nr T p n
theorem isF_c {p f g : Nat} (hp : p < 4) (hf : f < 4) (hg : g < 4) : isF (64 * p + 8 * f + g) = true := by
  unfold isF
  simp only [decide_eq_true_eq]
  omega

def r_X7_told : Room := { frames := 3, cells := 0, slots := 0, locals := 64 }
set_option maxRecDepth 100000 in
set_option maxHeartbeats 4000000 in
theorem k_X7_told (l : Launch) (D : va_G) (ty : Nat → ClassId) (x0 : Nat) (l0 : Nat) (v0 : Nat) (t0 : Nat) (y0 : Nat) (r0 : Nat) (p0 : Nat) (w0 : Nat) (l1 : Nat) (l2 : Nat) (l3 : Nat) (T : Nat → Bool) (q : Nat → Nat) (nr : Nat) (sc : Nat) (k : Nat) (hk : k < 2 ^ 31) : gM l D ty yX7_told cX7_told 2 (some (FieldType.int : FieldType)) r_X7_told 0 0 [.ref x0, .int (nI k)] [(x0, .inr (5, [.ref l0, .ref v0, .int (nI sc), .ref t0, .ref y0, .ref r0, .ref p0, .ref w0])), (l0, .inr (2, [.ref l1, .ref l2, .int (nI nr)])), (l1, .inr (0, [.ref l3])), (l3, .inl (ty 1, 4, .inr (.inl (zM T)))), (l2, .inl (ty 0, 18, .inl (eR q)))] (fun (zr : Option Value) (zW : va_W) => zr = some (.int (eO (nth T k 256))) ∧ zW = [(x0, .inr (5, [.ref l0, .ref v0, .int (nI sc), .ref t0, .ref y0, .ref r0, .ref p0, .ref w0])), (l0, .inr (2, [.ref l1, .ref l2, .int (nI nr)])), (l1, .inr (0, [.ref l3])), (l3, .inl (ty 1, 4, .inr (.inl (zM T)))), (l2, .inl (ty 0, 18, .inl (eR q)))]) := by
  refine gM_of RX7 rfl (by decide +kernel) (Nat.le_of_ble_eq_true rfl) ?_
  intro pg en s0 mi ag bl mth cd AA HH QQ C E hnm
  show gW pg l en r_X7_told s0 mi ag bl mth cd 2 D AA HH QQ 0 [(0, .ref x0), (1, .int (nI k))] [] [(x0, .inr (5, [.ref l0, .ref v0, .int (nI sc), .ref t0, .ref y0, .ref r0, .ref p0, .ref w0])), (l0, .inr (2, [.ref l1, .ref l2, .int (nI nr)])), (l1, .inr (0, [.ref l3])), (l3, .inl (ty 1, 4, .inr (.inl (zM T)))), (l2, .inl (ty 0, 18, .inl (eR q)))] 0 0
  refine g_iload_n C 1 rfl dX7_told_0 ?_
  refine g_if_ge C 14 dX7_told_1 rfl (fun c1 => ?_) (fun c1 => ?_)
  · skip
    refine g_aload_n C 0 rfl dX7_told_14 ?_
    refine g_getf C wu_X7 0 rfl rfl 0 (by decide) wf_X7_10 rfl rfl dX7_told_15 ?_
    refine g_getf C wu_X4 1 rfl rfl 0 (by decide) wf_X7_64 rfl rfl dX7_told_18 ?_
    refine g_iload_n C 1 rfl dX7_told_21 ?_
    refine g_callV C (nA := 1) (ci := 0) (q0 := 0) (As := [.int (nI k)]) (wr := [(x0, .inr (5, [.ref l0, .ref v0, .int (nI sc), .ref t0, .ref y0, .ref r0, .ref p0, .ref w0])), (l0, .inr (2, [.ref l1, .ref l2, .int (nI nr)])), (l2, .inl (ty 0, 18, .inl (eR q)))]) (k_X2_at l D ty l1 l3 T k (by omega)) wm_X7_165 wn_X2_at wv_X2_at wi_X2 wc_X2_at rfl (by decide +kernel) ⟨(Nat.le_of_ble_eq_true rfl), (Nat.le_of_ble_eq_true rfl)⟩ ⟨rfl, rfl⟩ dX7_told_22 ⟨Nat.zero_le _, Nat.zero_le _⟩ rfl rfl rfl [2, 3] [0, 1, 4] rfl rfl rfl rfl (by decide) (Nat.le_of_ble_eq_true rfl) rfl (fun r W1 hp => ?_)
    obtain ⟨rfl, rfl⟩ := hp
    refine g_fix [.int (eO (nth T k 256))] [(x0, .inr (5, [.ref l0, .ref v0, .int (nI sc), .ref t0, .ref y0, .ref r0, .ref p0, .ref w0])), (l0, .inr (2, [.ref l1, .ref l2, .int (nI nr)])), (l1, .inr (0, [.ref l3])), (l3, .inl (ty 1, 4, .inr (.inl (zM T)))), (l2, .inl (ty 0, 18, .inl (eR q)))] [0, 1, 3, 4, 2] rfl rfl rfl ?_
    exact g_iret E dX7_told_25 (by decide) (by decide) ⟨rfl, rfl⟩
  · skip
    exact absurd (nI_pos' (by omega)) c1
def r_X7_partOf : Room := { frames := 1, cells := 0, slots := 0, locals := 23 }
set_option maxRecDepth 100000 in
set_option maxHeartbeats 4000000 in
theorem k_X7_partOf (l : Launch) (D : va_G) (ty : Nat → ClassId) (x0 : Nat) (l0 : Nat) (v0 : Nat) (t0 : Nat) (y0 : Nat) (r0 : Nat) (p0 : Nat) (w0 : Nat) (l1 : Nat) (l2 : Nat) (l3 : Nat) (T : Nat → Bool) (q : Nat → Nat) (nr : Nat) (sc : Nat) (r : Nat) (j : Nat) (hr : r < nr) (hj : j < 3) (h6 : nr ≤ 6) : gM l D ty yX7_partOf cX7_partOf 3 (some (FieldType.int : FieldType)) r_X7_partOf 0 0 [.ref x0, .int (nI r), .int (nI j)] [(x0, .inr (5, [.ref l0, .ref v0, .int (nI sc), .ref t0, .ref y0, .ref r0, .ref p0, .ref w0])), (l0, .inr (2, [.ref l1, .ref l2, .int (nI nr)])), (l1, .inr (0, [.ref l3])), (l3, .inl (ty 1, 4, .inr (.inl (zM T)))), (l2, .inl (ty 0, 18, .inl (eR q)))] (fun (zr : Option Value) (zW : va_W) => zr = some (.int (eA (q (3 * r + j)))) ∧ zW = [(x0, .inr (5, [.ref l0, .ref v0, .int (nI sc), .ref t0, .ref y0, .ref r0, .ref p0, .ref w0])), (l0, .inr (2, [.ref l1, .ref l2, .int (nI nr)])), (l1, .inr (0, [.ref l3])), (l3, .inl (ty 1, 4, .inr (.inl (zM T)))), (l2, .inl (ty 0, 18, .inl (eR q)))]) := by
  refine gM_of RX7 rfl (by decide +kernel) (Nat.le_of_ble_eq_true rfl) ?_
  intro pg en s0 mi ag bl mth cd AA HH QQ C E hnm
  show gW pg l en r_X7_partOf s0 mi ag bl mth cd 3 D AA HH QQ 0 [(0, .ref x0), (1, .int (nI r)), (2, .int (nI j))] [] [(x0, .inr (5, [.ref l0, .ref v0, .int (nI sc), .ref t0, .ref y0, .ref r0, .ref p0, .ref w0])), (l0, .inr (2, [.ref l1, .ref l2, .int (nI nr)])), (l1, .inr (0, [.ref l3])), (l3, .inl (ty 1, 4, .inr (.inl (zM T)))), (l2, .inl (ty 0, 18, .inl (eR q)))] 0 0
  refine g_aload_n C 0 rfl dX7_partOf_0 ?_
  refine g_getf C wu_X7 0 rfl rfl 0 (by decide) wf_X7_10 rfl rfl dX7_partOf_1 ?_
  refine g_iload_n C 1 rfl dX7_partOf_4 ?_
  refine g_callV C (nA := 1) (ci := 2) (q0 := 0) (As := [.int (nI r)]) (wr := [(x0, .inr (5, [.ref l0, .ref v0, .int (nI sc), .ref t0, .ref y0, .ref r0, .ref p0, .ref w0])), (l1, .inr (0, [.ref l3])), (l3, .inl (ty 1, 4, .inr (.inl (zM T)))), (l2, .inl (ty 0, 18, .inl (eR q)))]) (k_X4_hasRule l D ty l0 l1 l2 nr ((nI r)) ) wm_X7_110 wn_X4_hasRule wv_X4_hasRule wi_X4 wc_X4_hasRule rfl (by decide +kernel) ⟨(Nat.le_of_ble_eq_true rfl), (Nat.le_of_ble_eq_true rfl)⟩ ⟨rfl, rfl⟩ dX7_partOf_5 ⟨Nat.zero_le _, Nat.zero_le _⟩ rfl rfl rfl [1] [0, 2, 3, 4] rfl rfl rfl rfl (by decide) (Nat.le_of_ble_eq_true rfl) rfl (fun r W1 hp => ?_)
  obtain ⟨rfl, rfl⟩ := hp
  refine g_fix [.int (bI (hR ((nI r)) nr))] [(x0, .inr (5, [.ref l0, .ref v0, .int (nI sc), .ref t0, .ref y0, .ref r0, .ref p0, .ref w0])), (l0, .inr (2, [.ref l1, .ref l2, .int (nI nr)])), (l1, .inr (0, [.ref l3])), (l3, .inl (ty 1, 4, .inr (.inl (zM T)))), (l2, .inl (ty 0, 18, .inl (eR q)))] [0, 4, 1, 2, 3] rfl rfl rfl ?_
  refine g_if_neB C (hR ((nI r)) nr) 21 rfl dX7_partOf_8 rfl (fun c8 => ?_) (fun c8 => ?_)
  · skip
    refine g_iload_n C 2 rfl dX7_partOf_21 ?_
    refine g_if_lt C 30 dX7_partOf_22 rfl (fun c22 => ?_) (fun c22 => ?_)
    · skip
      exact absurd c22 (nI_pos (by omega))
    · skip
      refine g_iload_n C 2 rfl dX7_partOf_25 ?_
      refine g_iconst C (nI 2) ic_2 dX7_partOf_26 ?_
      refine g_icmp_leN C j 2 40 rfl rfl (by omega) (by omega) dX7_partOf_27 rfl (fun c27 => ?_) (fun c27 => ?_)
      · skip
        refine g_aload_n C 0 rfl dX7_partOf_40 ?_
        refine g_getf C wu_X7 0 rfl rfl 0 (by decide) wf_X7_10 rfl rfl dX7_partOf_41 ?_
        refine g_iload_n C 1 rfl dX7_partOf_44 ?_
        refine g_iload_n C 2 rfl dX7_partOf_45 ?_
        refine g_callV C (nA := 2) (ci := 2) (q0 := 0) (As := [.int (nI r), .int (nI j)]) (wr := [(x0, .inr (5, [.ref l0, .ref v0, .int (nI sc), .ref t0, .ref y0, .ref r0, .ref p0, .ref w0])), (l1, .inr (0, [.ref l3])), (l3, .inl (ty 1, 4, .inr (.inl (zM T))))]) (k_X4_atomAt l D ty l0 l1 l2 q nr r j (by omega) (by omega)) wm_X7_171 wn_X4_atomAt wv_X4_atomAt wi_X4 wc_X4_atomAt rfl (by decide +kernel) ⟨(Nat.le_of_ble_eq_true rfl), (Nat.le_of_ble_eq_true rfl)⟩ ⟨rfl, rfl⟩ dX7_partOf_46 ⟨Nat.zero_le _, Nat.zero_le _⟩ rfl rfl rfl [1, 4] [0, 2, 3] rfl rfl rfl rfl (by decide) (Nat.le_of_ble_eq_true rfl) rfl (fun r W1 hp => ?_)
        obtain ⟨rfl, rfl⟩ := hp
        refine g_fix [.int (eA (q (3 * r + j)))] [(x0, .inr (5, [.ref l0, .ref v0, .int (nI sc), .ref t0, .ref y0, .ref r0, .ref p0, .ref w0])), (l0, .inr (2, [.ref l1, .ref l2, .int (nI nr)])), (l1, .inr (0, [.ref l3])), (l3, .inl (ty 1, 4, .inr (.inl (zM T)))), (l2, .inl (ty 0, 18, .inl (eR q)))] [0, 3, 1, 2, 4] rfl rfl rfl ?_
        exact g_iret E dX7_partOf_49 (by decide) (by decide) ⟨rfl, rfl⟩
      · skip
        exact absurd c27 (by omega)
  · skip
    exact absurd c8 (by rw [hR_N (by omega) (by omega)]; simp; omega)
def r_X7_found : Room := { frames := 3, cells := 0, slots := 0, locals := 64 }
set_option maxRecDepth 100000 in
set_option maxHeartbeats 4000000 in
theorem k_X7_found (l : Launch) (D : va_G) (ty : Nat → ClassId) (x0 : Nat) (l0 : Nat) (v0 : Nat) (t0 : Nat) (y0 : Nat) (r0 : Nat) (p0 : Nat) (w0 : Nat) (a0 : Nat) (a1 : Nat) (b0 : Nat) (c0 : Nat) (d0 : Nat) (e0 : Nat) (f0 : Nat) (Z : ZT) (sc : Nat) (k : Nat) (w : Nat) (hk : k < 2 ^ 31) (hw : w < 4) : gM l D ty yX7_found cX7_found 4 (some (FieldType.int : FieldType)) r_X7_found 0 0 [.ref x0, .int (nI k), .int (nI w)] [(x0, .inr (5, [.ref l0, .ref v0, .int (nI sc), .ref t0, .ref y0, .ref r0, .ref p0, .ref w0])), (r0, .inr (3, [.ref a0, .ref b0, .int (nI (zRd Z)), .int (nI (zMt Z)), .int (nI (zDr Z)), .ref c0, .ref d0, .ref e0, .ref f0])), (a0, .inr (0, [.ref a1])), (a1, .inl (ty 1, 4, .inr (.inl (zM (zF Z))))), (d0, .inl (ty 0, 256, .inl (zRo Z))), (e0, .inl (ty 0, 256, .inl (zRu Z)))] (fun (zr : Option Value) (zW : va_W) => zr = some (.int (fdA Z k w)) ∧ zW = [(x0, .inr (5, [.ref l0, .ref v0, .int (nI sc), .ref t0, .ref y0, .ref r0, .ref p0, .ref w0])), (r0, .inr (3, [.ref a0, .ref b0, .int (nI (zRd Z)), .int (nI (zMt Z)), .int (nI (zDr Z)), .ref c0, .ref d0, .ref e0, .ref f0])), (a0, .inr (0, [.ref a1])), (a1, .inl (ty 1, 4, .inr (.inl (zM (zF Z))))), (d0, .inl (ty 0, 256, .inl (zRo Z))), (e0, .inl (ty 0, 256, .inl (zRu Z)))]) := by
  refine gM_of RX7 rfl (by decide +kernel) (Nat.le_of_ble_eq_true rfl) ?_
  intro pg en s0 mi ag bl mth cd AA HH QQ C E hnm
  show gW pg l en r_X7_found s0 mi ag bl mth cd 4 D AA HH QQ 0 [(0, .ref x0), (1, .int (nI k)), (2, .int (nI w))] [] [(x0, .inr (5, [.ref l0, .ref v0, .int (nI sc), .ref t0, .ref y0, .ref r0, .ref p0, .ref w0])), (r0, .inr (3, [.ref a0, .ref b0, .int (nI (zRd Z)), .int (nI (zMt Z)), .int (nI (zDr Z)), .ref c0, .ref d0, .ref e0, .ref f0])), (a0, .inr (0, [.ref a1])), (a1, .inl (ty 1, 4, .inr (.inl (zM (zF Z))))), (d0, .inl (ty 0, 256, .inl (zRo Z))), (e0, .inl (ty 0, 256, .inl (zRu Z)))] 0 0
  refine g_iload_n C 1 rfl dX7_found_0 ?_
  refine g_if_lt C 13 dX7_found_1 rfl (fun c1 => ?_) (fun c1 => ?_)
  · skip
    exact absurd c1 (nI_pos (by omega))
  · skip
    refine g_iload_n C 2 rfl dX7_found_4 ?_
    refine g_if_lt C 13 dX7_found_5 rfl (fun c5 => ?_) (fun c5 => ?_)
    · skip
      exact absurd c5 (nI_pos (by omega))
    · skip
      refine g_iload_n C 2 rfl dX7_found_8 ?_
      refine g_iconst C (nI 3) ic_3 dX7_found_9 ?_
      refine g_icmp_leN C w 3 23 rfl rfl (by omega) (by omega) dX7_found_10 rfl (fun c10 => ?_) (fun c10 => ?_)
      · skip
        refine g_aload_n C 0 rfl dX7_found_23 ?_
        refine g_getf C wu_X7 0 rfl rfl 5 (by decide) wf_X7_37 rfl rfl dX7_found_24 ?_
        refine g_getf C wu_X5 1 rfl rfl 0 (by decide) wf_X7_121 rfl rfl dX7_found_27 ?_
        refine g_iload_n C 1 rfl dX7_found_30 ?_
        refine g_callV C (nA := 1) (ci := 0) (q0 := 0) (As := [.int (nI k)]) (wr := [(x0, .inr (5, [.ref l0, .ref v0, .int (nI sc), .ref t0, .ref y0, .ref r0, .ref p0, .ref w0])), (r0, .inr (3, [.ref a0, .ref b0, .int (nI (zRd Z)), .int (nI (zMt Z)), .int (nI (zDr Z)), .ref c0, .ref d0, .ref e0, .ref f0])), (d0, .inl (ty 0, 256, .inl (zRo Z))), (e0, .inl (ty 0, 256, .inl (zRu Z)))]) (k_X2_at l D ty a0 a1 (zF Z) k (by omega)) wm_X7_165 wn_X2_at wv_X2_at wi_X2 wc_X2_at rfl (by decide +kernel) ⟨(Nat.le_of_ble_eq_true rfl), (Nat.le_of_ble_eq_true rfl)⟩ ⟨rfl, rfl⟩ dX7_found_31 ⟨Nat.zero_le _, Nat.zero_le _⟩ rfl rfl rfl [2, 3] [0, 1, 4, 5] rfl rfl rfl rfl (by decide) (Nat.le_of_ble_eq_true rfl) rfl (fun r W1 hp => ?_)
        obtain ⟨rfl, rfl⟩ := hp
        refine g_fix [.int (eO (nth (zF Z) k 256))] [(x0, .inr (5, [.ref l0, .ref v0, .int (nI sc), .ref t0, .ref y0, .ref r0, .ref p0, .ref w0])), (r0, .inr (3, [.ref a0, .ref b0, .int (nI (zRd Z)), .int (nI (zMt Z)), .int (nI (zDr Z)), .ref c0, .ref d0, .ref e0, .ref f0])), (a0, .inr (0, [.ref a1])), (a1, .inl (ty 1, 4, .inr (.inl (zM (zF Z))))), (d0, .inl (ty 0, 256, .inl (zRo Z))), (e0, .inl (ty 0, 256, .inl (zRu Z)))] [0, 1, 4, 5, 2, 3] rfl rfl rfl ?_
        rcases hn : nth (zF Z) k 256 with _ | a
        · skip
          refine g_st [.int (-1)] rfl ?_
          refine g_istore_n C [(3, .int (-1)), (0, .ref x0), (1, .int (nI k)), (2, .int (nI w))] dX7_found_34 rfl (by decide) rfl ?_
          refine g_iload_n C 0 rfl dX7_found_35 ?_
          refine g_iconst C (-1) ic_m1 dX7_found_36 ?_
          refine g_icmp_ne C 42 dX7_found_37 rfl (fun c37 => ?_) (fun c37 => ?_)
          · skip
            exact absurd rfl c37
          · skip
            refine g_iconst C (-1) ic_m1 dX7_found_40 ?_
            exact g_iret E dX7_found_41 (by decide) (by decide) ⟨(congrArg (fun z => some (Value.int z)) (by rw [fdA_n hn])), rfl⟩
        · skip
          have ha := (nth_sp hn).1
          refine g_st [.int (nI a)] rfl ?_
          refine g_istore_n C [(3, .int (nI a)), (0, .ref x0), (1, .int (nI k)), (2, .int (nI w))] dX7_found_34 rfl (by decide) rfl ?_
          refine g_iload_n C 0 rfl dX7_found_35 ?_
          refine g_iconst C (-1) ic_m1 dX7_found_36 ?_
          refine g_icmp_ne C 42 dX7_found_37 rfl (fun c37 => ?_) (fun c37 => ?_)
          · skip
            refine g_iload_n C 3 rfl dX7_found_42 ?_
            rcases (show w = 0 ∨ w = 1 ∨ w = 2 ∨ w = 3 by omega) with hs | hs | hs | hs
            · skip
              refine g_tswIn C (off := 25) (nI 0) (by rw [hs]) 68 dX7_found_43 (by decide +kernel) (by decide +kernel) (by decide +kernel) rfl ?_
              refine g_iload_n C 0 rfl dX7_found_68 ?_
              exact g_iret E dX7_found_69 (by decide) (by decide) ⟨(congrArg (fun z => some (Value.int z)) (by rw [fdA_s hn, hs]; rfl)), rfl⟩
            · skip
              refine g_tswIn C (off := 27) (nI 1) (by rw [hs]) 70 dX7_found_43 (by decide +kernel) (by decide +kernel) (by decide +kernel) rfl ?_
              refine g_aload_n C 1 rfl dX7_found_70 ?_
              refine g_getf C wu_X7 0 rfl rfl 5 (by decide) wf_X7_37 rfl rfl dX7_found_71 ?_
              refine g_iload_n C 0 rfl dX7_found_74 ?_
              refine g_callV C (nA := 1) (ci := 3) (q0 := 0) (As := [.int (nI a)]) (wr := [(x0, .inr (5, [.ref l0, .ref v0, .int (nI sc), .ref t0, .ref y0, .ref r0, .ref p0, .ref w0])), (a0, .inr (0, [.ref a1])), (a1, .inl (ty 1, 4, .inr (.inl (zM (zF Z))))), (e0, .inl (ty 0, 256, .inl (zRu Z)))]) (k_X5_roundOf l D ty r0 a0 b0 c0 d0 e0 f0 (zRd Z) (zMt Z) (zDr Z) (zRo Z) a (by omega)) wm_X7_177 wn_X5_roundOf wv_X5_roundOf wi_X5 wc_X5_roundOf rfl (by decide +kernel) ⟨(Nat.le_of_ble_eq_true rfl), (Nat.le_of_ble_eq_true rfl)⟩ ⟨rfl, rfl⟩ dX7_found_75 ⟨Nat.zero_le _, Nat.zero_le _⟩ rfl rfl rfl [1, 4] [0, 2, 3, 5] rfl rfl rfl rfl (by decide) (Nat.le_of_ble_eq_true rfl) rfl (fun r W1 hp => ?_)
              obtain ⟨rfl, rfl⟩ := hp
              refine g_fix [.int ((zRo Z) a)] [(x0, .inr (5, [.ref l0, .ref v0, .int (nI sc), .ref t0, .ref y0, .ref r0, .ref p0, .ref w0])), (r0, .inr (3, [.ref a0, .ref b0, .int (nI ((zRd Z))), .int (nI ((zMt Z))), .int (nI ((zDr Z))), .ref c0, .ref d0, .ref e0, .ref f0])), (a0, .inr (0, [.ref a1])), (a1, .inl (ty 1, 4, .inr (.inl (zM (zF Z))))), (d0, .inl (ty 0, 256, .inl ((zRo Z)))), (e0, .inl (ty 0, 256, .inl (zRu Z)))] [0, 4, 1, 2, 5, 3] rfl rfl rfl ?_
              exact g_iret E dX7_found_78 (by decide) (by decide) ⟨(congrArg (fun z => some (Value.int z)) (by rw [fdA_s hn, hs]; rfl)), rfl⟩
            · skip
              refine g_tswIn C (off := 36) (nI 2) (by rw [hs]) 79 dX7_found_43 (by decide +kernel) (by decide +kernel) (by decide +kernel) rfl ?_
              refine g_aload_n C 1 rfl dX7_found_79 ?_
              refine g_getf C wu_X7 0 rfl rfl 5 (by decide) wf_X7_37 rfl rfl dX7_found_80 ?_
              refine g_iload_n C 0 rfl dX7_found_83 ?_
              refine g_callV C (nA := 1) (ci := 3) (q0 := 0) (As := [.int (nI a)]) (wr := [(x0, .inr (5, [.ref l0, .ref v0, .int (nI sc), .ref t0, .ref y0, .ref r0, .ref p0, .ref w0])), (a0, .inr (0, [.ref a1])), (a1, .inl (ty 1, 4, .inr (.inl (zM (zF Z))))), (d0, .inl (ty 0, 256, .inl (zRo Z)))]) (k_X5_ruleOf l D ty r0 a0 b0 c0 d0 e0 f0 (zRd Z) (zMt Z) (zDr Z) (zRu Z) a (by omega)) wm_X7_180 wn_X5_ruleOf wv_X5_ruleOf wi_X5 wc_X5_ruleOf rfl (by decide +kernel) ⟨(Nat.le_of_ble_eq_true rfl), (Nat.le_of_ble_eq_true rfl)⟩ ⟨rfl, rfl⟩ dX7_found_84 ⟨Nat.zero_le _, Nat.zero_le _⟩ rfl rfl rfl [1, 5] [0, 2, 3, 4] rfl rfl rfl rfl (by decide) (Nat.le_of_ble_eq_true rfl) rfl (fun r W1 hp => ?_)
              obtain ⟨rfl, rfl⟩ := hp
              refine g_fix [.int ((zRu Z) a)] [(x0, .inr (5, [.ref l0, .ref v0, .int (nI sc), .ref t0, .ref y0, .ref r0, .ref p0, .ref w0])), (r0, .inr (3, [.ref a0, .ref b0, .int (nI ((zRd Z))), .int (nI ((zMt Z))), .int (nI ((zDr Z))), .ref c0, .ref d0, .ref e0, .ref f0])), (a0, .inr (0, [.ref a1])), (a1, .inl (ty 1, 4, .inr (.inl (zM (zF Z))))), (d0, .inl (ty 0, 256, .inl (zRo Z))), (e0, .inl (ty 0, 256, .inl ((zRu Z))))] [0, 4, 1, 2, 3, 5] rfl rfl rfl ?_
              exact g_iret E dX7_found_87 (by decide) (by decide) ⟨(congrArg (fun z => some (Value.int z)) (by rw [fdA_s hn, hs]; rfl)), rfl⟩
            · skip
              refine g_tswOut C 88 dX7_found_43 (by rw [hs]; decide +kernel) rfl ?_
              refine g_iload_n C 0 rfl dX7_found_88 ?_
              refine g_callS0 C (nA := 1) (k_X1_instanceMask l D ty a (by omega)) wm_X7_183 ws_X1_instanceMask wi_X1 wc_X1_instanceMask rfl (by decide +kernel) ⟨(Nat.le_of_ble_eq_true rfl), (Nat.le_of_ble_eq_true rfl)⟩ ⟨rfl, rfl⟩ dX7_found_89 (fun _ _ h => h.2) (Nat.le_of_ble_eq_true rfl) rfl ⟨Nat.zero_le _, Nat.zero_le _⟩ (fun r hp => ?_)
              obtain ⟨rfl, -⟩ := hp
              refine g_st [.int (nI (iM a))] rfl ?_
              refine g_callS0 C (nA := 1) (k_J6_bitCount_0f7a4 l D ty ((nI (iM a))) (fun k => (iM a).testBit k) (by rw [zmsk_of (Nat.lt_trans (iM_lt2 a ha) (by decide))])) wm_X7_186 ws_J6_bitCount_0f7a4 wi_J6 wc_J6_bitCount_0f7a4 rfl (by decide +kernel) ⟨(Nat.le_of_ble_eq_true rfl), (Nat.le_of_ble_eq_true rfl)⟩ ⟨rfl, rfl⟩ dX7_found_92 (fun _ _ h => h.2) (Nat.le_of_ble_eq_true rfl) rfl ⟨Nat.zero_le _, Nat.zero_le _⟩ (fun r hp => ?_)
              obtain ⟨rfl, -⟩ := hp
              refine g_st [.int (nI (zcnt (fun k => (iM a).testBit k) 32))] rfl ?_
              exact g_iret E dX7_found_95 (by decide) (by decide) ⟨(congrArg (fun z => some (Value.int z)) (by rw [fdA_s hn, hs]; rfl)), rfl⟩
          · skip
            exact absurd c37 (nI_nm1 (by omega))
      · skip
        exact absurd c10 (by omega)
def r_X7_count : Room := { frames := 4, cells := 0, slots := 0, locals := 87 }
set_option maxRecDepth 100000 in
set_option maxHeartbeats 4000000 in
theorem k_X7_count (l : Launch) (D : va_G) (ty : Nat → ClassId) (x0 : Nat) (l0 : Nat) (v0 : Nat) (t0 : Nat) (y0 : Nat) (r0 : Nat) (p0 : Nat) (w0 : Nat) (l1 : Nat) (l2 : Nat) (l3 : Nat) (T : Nat → Bool) (q : Nat → Nat) (nr : Nat) (a0 : Nat) (a1 : Nat) (b0 : Nat) (c0 : Nat) (d0 : Nat) (e0 : Nat) (f0 : Nat) (Z : ZT) (sc : Nat) (w : Nat) (hw : w < 8) : gM l D ty yX7_count cX7_count 2 (some (FieldType.int : FieldType)) r_X7_count 0 0 [.ref x0, .int (nI w)] [(x0, .inr (5, [.ref l0, .ref v0, .int (nI sc), .ref t0, .ref y0, .ref r0, .ref p0, .ref w0])), (l0, .inr (2, [.ref l1, .ref l2, .int (nI nr)])), (l1, .inr (0, [.ref l3])), (l3, .inl (ty 1, 4, .inr (.inl (zM T)))), (l2, .inl (ty 0, 18, .inl (eR q))), (r0, .inr (3, [.ref a0, .ref b0, .int (nI (zRd Z)), .int (nI (zMt Z)), .int (nI (zDr Z)), .ref c0, .ref d0, .ref e0, .ref f0])), (a0, .inr (0, [.ref a1])), (a1, .inl (ty 1, 4, .inr (.inl (zM (zF Z)))))] (fun (zr : Option Value) (zW : va_W) => zr = some (.int (nI (cnA T nr Z sc w))) ∧ zW = [(x0, .inr (5, [.ref l0, .ref v0, .int (nI sc), .ref t0, .ref y0, .ref r0, .ref p0, .ref w0])), (l0, .inr (2, [.ref l1, .ref l2, .int (nI nr)])), (l1, .inr (0, [.ref l3])), (l3, .inl (ty 1, 4, .inr (.inl (zM T)))), (l2, .inl (ty 0, 18, .inl (eR q))), (r0, .inr (3, [.ref a0, .ref b0, .int (nI (zRd Z)), .int (nI (zMt Z)), .int (nI (zDr Z)), .ref c0, .ref d0, .ref e0, .ref f0])), (a0, .inr (0, [.ref a1])), (a1, .inl (ty 1, 4, .inr (.inl (zM (zF Z)))))]) := by
  refine gM_of RX7 rfl (by decide +kernel) (Nat.le_of_ble_eq_true rfl) ?_
  intro pg en s0 mi ag bl mth cd AA HH QQ C E hnm
  show gW pg l en r_X7_count s0 mi ag bl mth cd 2 D AA HH QQ 0 [(0, .ref x0), (1, .int (nI w))] [] [(x0, .inr (5, [.ref l0, .ref v0, .int (nI sc), .ref t0, .ref y0, .ref r0, .ref p0, .ref w0])), (l0, .inr (2, [.ref l1, .ref l2, .int (nI nr)])), (l1, .inr (0, [.ref l3])), (l3, .inl (ty 1, 4, .inr (.inl (zM T)))), (l2, .inl (ty 0, 18, .inl (eR q))), (r0, .inr (3, [.ref a0, .ref b0, .int (nI (zRd Z)), .int (nI (zMt Z)), .int (nI (zDr Z)), .ref c0, .ref d0, .ref e0, .ref f0])), (a0, .inr (0, [.ref a1])), (a1, .inl (ty 1, 4, .inr (.inl (zM (zF Z)))))] 0 0
  refine g_iload_n C 1 rfl dX7_count_0 ?_
  refine g_if_lt C 10 dX7_count_1 rfl (fun c1 => ?_) (fun c1 => ?_)
  · skip
    exact absurd c1 (nI_pos (by omega))
  · skip
    refine g_iload_n C 1 rfl dX7_count_4 ?_
    refine g_bipush C (nI 7) bp_7 dX7_count_5 ?_
    refine g_icmp_leN C w 7 20 rfl rfl (by omega) (by omega) dX7_count_7 rfl (fun c7 => ?_) (fun c7 => ?_)
    · skip
      refine g_iload_n C 1 rfl dX7_count_20 ?_
      rcases (show w = 0 ∨ w = 1 ∨ w = 2 ∨ w = 3 ∨ w = 4 ∨ w = 5 ∨ w = 6 ∨ w = 7 by omega) with hs | hs | hs | hs | hs | hs | hs | hs
      · skip
        refine g_tswIn C (off := 43) (nI 0) (by rw [hs]) 64 dX7_count_21 (by decide +kernel) (by decide +kernel) (by decide +kernel) rfl ?_
        refine g_aload_n C 0 rfl dX7_count_64 ?_
        refine g_getf C wu_X7 0 rfl rfl 0 (by decide) wf_X7_10 rfl rfl dX7_count_65 ?_
        refine g_getf C wu_X4 1 rfl rfl 0 (by decide) wf_X7_64 rfl rfl dX7_count_68 ?_
        refine g_callV C (nA := 0) (ci := 0) (q0 := 0) (As := []) (wr := [(x0, .inr (5, [.ref l0, .ref v0, .int (nI sc), .ref t0, .ref y0, .ref r0, .ref p0, .ref w0])), (l0, .inr (2, [.ref l1, .ref l2, .int (nI nr)])), (l2, .inl (ty 0, 18, .inl (eR q))), (r0, .inr (3, [.ref a0, .ref b0, .int (nI (zRd Z)), .int (nI (zMt Z)), .int (nI (zDr Z)), .ref c0, .ref d0, .ref e0, .ref f0])), (a0, .inr (0, [.ref a1])), (a1, .inl (ty 1, 4, .inr (.inl (zM (zF Z)))))]) (k_X2_size l D ty l1 l3 T ) wm_X7_74 wn_X2_size wv_X2_size wi_X2 wc_X2_size rfl (by decide +kernel) ⟨(Nat.le_of_ble_eq_true rfl), (Nat.le_of_ble_eq_true rfl)⟩ ⟨rfl, rfl⟩ dX7_count_71 ⟨Nat.zero_le _, Nat.zero_le _⟩ rfl rfl rfl [2, 3] [0, 1, 4, 5, 6, 7] rfl rfl rfl rfl (by decide) (Nat.le_of_ble_eq_true rfl) rfl (fun r W1 hp => ?_)
        obtain ⟨rfl, rfl⟩ := hp
        refine g_fix [.int (nI (zcnt T 256))] [(x0, .inr (5, [.ref l0, .ref v0, .int (nI sc), .ref t0, .ref y0, .ref r0, .ref p0, .ref w0])), (l0, .inr (2, [.ref l1, .ref l2, .int (nI nr)])), (l1, .inr (0, [.ref l3])), (l3, .inl (ty 1, 4, .inr (.inl (zM T)))), (l2, .inl (ty 0, 18, .inl (eR q))), (r0, .inr (3, [.ref a0, .ref b0, .int (nI (zRd Z)), .int (nI (zMt Z)), .int (nI (zDr Z)), .ref c0, .ref d0, .ref e0, .ref f0])), (a0, .inr (0, [.ref a1])), (a1, .inl (ty 1, 4, .inr (.inl (zM (zF Z)))))] [0, 1, 6, 7, 2, 3, 4, 5] rfl rfl rfl ?_
        exact g_iret E dX7_count_74 (by decide) (by decide) ⟨(congrArg (fun z => some (Value.int (nI z))) (by rw [hs]; rfl)), rfl⟩
      · skip
        refine g_tswIn C (off := 54) (nI 1) (by rw [hs]) 75 dX7_count_21 (by decide +kernel) (by decide +kernel) (by decide +kernel) rfl ?_
        refine g_aload_n C 0 rfl dX7_count_75 ?_
        refine g_getf C wu_X7 0 rfl rfl 0 (by decide) wf_X7_10 rfl rfl dX7_count_76 ?_
        refine g_callV C (nA := 0) (ci := 2) (q0 := 0) (As := []) (wr := [(x0, .inr (5, [.ref l0, .ref v0, .int (nI sc), .ref t0, .ref y0, .ref r0, .ref p0, .ref w0])), (l1, .inr (0, [.ref l3])), (l3, .inl (ty 1, 4, .inr (.inl (zM T)))), (l2, .inl (ty 0, 18, .inl (eR q))), (r0, .inr (3, [.ref a0, .ref b0, .int (nI (zRd Z)), .int (nI (zMt Z)), .int (nI (zDr Z)), .ref c0, .ref d0, .ref e0, .ref f0])), (a0, .inr (0, [.ref a1])), (a1, .inl (ty 1, 4, .inr (.inl (zM (zF Z)))))]) (k_X4_ruleCount l D ty l0 l1 l2 nr ) wm_X7_102 wn_X4_ruleCount wv_X4_ruleCount wi_X4 wc_X4_ruleCount rfl (by decide +kernel) ⟨(Nat.le_of_ble_eq_true rfl), (Nat.le_of_ble_eq_true rfl)⟩ ⟨rfl, rfl⟩ dX7_count_79 ⟨Nat.zero_le _, Nat.zero_le _⟩ rfl rfl rfl [1] [0, 2, 3, 4, 5, 6, 7] rfl rfl rfl rfl (by decide) (Nat.le_of_ble_eq_true rfl) rfl (fun r W1 hp => ?_)
        obtain ⟨rfl, rfl⟩ := hp
        refine g_fix [.int (nI nr)] [(x0, .inr (5, [.ref l0, .ref v0, .int (nI sc), .ref t0, .ref y0, .ref r0, .ref p0, .ref w0])), (l0, .inr (2, [.ref l1, .ref l2, .int (nI nr)])), (l1, .inr (0, [.ref l3])), (l3, .inl (ty 1, 4, .inr (.inl (zM T)))), (l2, .inl (ty 0, 18, .inl (eR q))), (r0, .inr (3, [.ref a0, .ref b0, .int (nI (zRd Z)), .int (nI (zMt Z)), .int (nI (zDr Z)), .ref c0, .ref d0, .ref e0, .ref f0])), (a0, .inr (0, [.ref a1])), (a1, .inl (ty 1, 4, .inr (.inl (zM (zF Z)))))] [0, 7, 1, 2, 3, 4, 5, 6] rfl rfl rfl ?_
        exact g_iret E dX7_count_82 (by decide) (by decide) ⟨(congrArg (fun z => some (Value.int (nI z))) (by rw [hs]; rfl)), rfl⟩
      · skip
        refine g_tswIn C (off := 62) (nI 2) (by rw [hs]) 83 dX7_count_21 (by decide +kernel) (by decide +kernel) (by decide +kernel) rfl ?_
        refine g_aload_n C 0 rfl dX7_count_83 ?_
        refine g_getf C wu_X7 0 rfl rfl 5 (by decide) wf_X7_37 rfl rfl dX7_count_84 ?_
        refine g_getf C wu_X5 5 rfl rfl 0 (by decide) wf_X7_121 rfl rfl dX7_count_87 ?_
        refine g_callV C (nA := 0) (ci := 0) (q0 := 0) (As := []) (wr := [(x0, .inr (5, [.ref l0, .ref v0, .int (nI sc), .ref t0, .ref y0, .ref r0, .ref p0, .ref w0])), (l0, .inr (2, [.ref l1, .ref l2, .int (nI nr)])), (l1, .inr (0, [.ref l3])), (l3, .inl (ty 1, 4, .inr (.inl (zM T)))), (l2, .inl (ty 0, 18, .inl (eR q))), (r0, .inr (3, [.ref a0, .ref b0, .int (nI (zRd Z)), .int (nI (zMt Z)), .int (nI (zDr Z)), .ref c0, .ref d0, .ref e0, .ref f0]))]) (k_X2_size l D ty a0 a1 (zF Z) ) wm_X7_74 wn_X2_size wv_X2_size wi_X2 wc_X2_size rfl (by decide +kernel) ⟨(Nat.le_of_ble_eq_true rfl), (Nat.le_of_ble_eq_true rfl)⟩ ⟨rfl, rfl⟩ dX7_count_90 ⟨Nat.zero_le _, Nat.zero_le _⟩ rfl rfl rfl [6, 7] [0, 1, 2, 3, 4, 5] rfl rfl rfl rfl (by decide) (Nat.le_of_ble_eq_true rfl) rfl (fun r W1 hp => ?_)
        obtain ⟨rfl, rfl⟩ := hp
        refine g_fix [.int (nI (zcnt (zF Z) 256))] [(x0, .inr (5, [.ref l0, .ref v0, .int (nI sc), .ref t0, .ref y0, .ref r0, .ref p0, .ref w0])), (l0, .inr (2, [.ref l1, .ref l2, .int (nI nr)])), (l1, .inr (0, [.ref l3])), (l3, .inl (ty 1, 4, .inr (.inl (zM T)))), (l2, .inl (ty 0, 18, .inl (eR q))), (r0, .inr (3, [.ref a0, .ref b0, .int (nI (zRd Z)), .int (nI (zMt Z)), .int (nI (zDr Z)), .ref c0, .ref d0, .ref e0, .ref f0])), (a0, .inr (0, [.ref a1])), (a1, .inl (ty 1, 4, .inr (.inl (zM (zF Z)))))] [0, 1, 2, 3, 4, 5, 6, 7] rfl rfl rfl ?_
        exact g_iret E dX7_count_93 (by decide) (by decide) ⟨(congrArg (fun z => some (Value.int (nI z))) (by rw [hs]; rfl)), rfl⟩
      · skip
        refine g_tswIn C (off := 73) (nI 3) (by rw [hs]) 94 dX7_count_21 (by decide +kernel) (by decide +kernel) (by decide +kernel) rfl ?_
        refine g_aload_n C 0 rfl dX7_count_94 ?_
        refine g_getf C wu_X7 0 rfl rfl 5 (by decide) wf_X7_37 rfl rfl dX7_count_95 ?_
        refine g_getf C wu_X5 5 rfl rfl 2 (by decide) wf_X7_193 rfl rfl dX7_count_98 ?_
        exact g_iret E dX7_count_101 (by decide) (by decide) ⟨(congrArg (fun z => some (Value.int (nI z))) (by rw [hs]; rfl)), rfl⟩
      · skip
        refine g_tswIn C (off := 81) (nI 4) (by rw [hs]) 102 dX7_count_21 (by decide +kernel) (by decide +kernel) (by decide +kernel) rfl ?_
        refine g_aload_n C 0 rfl dX7_count_102 ?_
        refine g_getf C wu_X7 0 rfl rfl 5 (by decide) wf_X7_37 rfl rfl dX7_count_103 ?_
        refine g_getf C wu_X5 5 rfl rfl 3 (by decide) wf_X7_196 rfl rfl dX7_count_106 ?_
        exact g_iret E dX7_count_109 (by decide) (by decide) ⟨(congrArg (fun z => some (Value.int (nI z))) (by rw [hs]; rfl)), rfl⟩
      · skip
        refine g_tswIn C (off := 89) (nI 5) (by rw [hs]) 110 dX7_count_21 (by decide +kernel) (by decide +kernel) (by decide +kernel) rfl ?_
        refine g_aload_n C 0 rfl dX7_count_110 ?_
        refine g_getf C wu_X7 0 rfl rfl 5 (by decide) wf_X7_37 rfl rfl dX7_count_111 ?_
        refine g_getf C wu_X5 5 rfl rfl 4 (by decide) wf_X7_199 rfl rfl dX7_count_114 ?_
        exact g_iret E dX7_count_117 (by decide) (by decide) ⟨(congrArg (fun z => some (Value.int (nI z))) (by rw [hs]; rfl)), rfl⟩
      · skip
        refine g_tswIn C (off := 97) (nI 6) (by rw [hs]) 118 dX7_count_21 (by decide +kernel) (by decide +kernel) (by decide +kernel) rfl ?_
        refine g_aload_n C 0 rfl dX7_count_118 ?_
        refine g_getf C wu_X7 0 rfl rfl 5 (by decide) wf_X7_37 rfl rfl dX7_count_119 ?_
        refine g_getf C wu_X5 5 rfl rfl 0 (by decide) wf_X7_121 rfl rfl dX7_count_122 ?_
        refine g_callV C (nA := 0) (ci := 0) (q0 := 0) (As := []) (wr := [(x0, .inr (5, [.ref l0, .ref v0, .int (nI sc), .ref t0, .ref y0, .ref r0, .ref p0, .ref w0])), (l0, .inr (2, [.ref l1, .ref l2, .int (nI nr)])), (l1, .inr (0, [.ref l3])), (l3, .inl (ty 1, 4, .inr (.inl (zM T)))), (l2, .inl (ty 0, 18, .inl (eR q))), (r0, .inr (3, [.ref a0, .ref b0, .int (nI (zRd Z)), .int (nI (zMt Z)), .int (nI (zDr Z)), .ref c0, .ref d0, .ref e0, .ref f0]))]) (k_X2_instanceCount l D ty a0 a1 (zF Z) ) wm_X7_202 wn_X2_instanceCount wv_X2_instanceCount wi_X2 wc_X2_instanceCount rfl (by decide +kernel) ⟨(Nat.le_of_ble_eq_true rfl), (Nat.le_of_ble_eq_true rfl)⟩ ⟨rfl, rfl⟩ dX7_count_125 ⟨Nat.zero_le _, Nat.zero_le _⟩ rfl rfl rfl [6, 7] [0, 1, 2, 3, 4, 5] rfl rfl rfl rfl (by decide) (Nat.le_of_ble_eq_true rfl) rfl (fun r W1 hp => ?_)
        obtain ⟨rfl, rfl⟩ := hp
        refine g_fix [.int (nI (insU (zF Z) 4))] [(x0, .inr (5, [.ref l0, .ref v0, .int (nI sc), .ref t0, .ref y0, .ref r0, .ref p0, .ref w0])), (l0, .inr (2, [.ref l1, .ref l2, .int (nI nr)])), (l1, .inr (0, [.ref l3])), (l3, .inl (ty 1, 4, .inr (.inl (zM T)))), (l2, .inl (ty 0, 18, .inl (eR q))), (r0, .inr (3, [.ref a0, .ref b0, .int (nI (zRd Z)), .int (nI (zMt Z)), .int (nI (zDr Z)), .ref c0, .ref d0, .ref e0, .ref f0])), (a0, .inr (0, [.ref a1])), (a1, .inl (ty 1, 4, .inr (.inl (zM (zF Z)))))] [0, 1, 2, 3, 4, 5, 6, 7] rfl rfl rfl ?_
        exact g_iret E dX7_count_128 (by decide) (by decide) ⟨(congrArg (fun z => some (Value.int (nI z))) (by rw [hs]; rfl)), rfl⟩
      · skip
        refine g_tswOut C 129 dX7_count_21 (by rw [hs]; decide +kernel) rfl ?_
        refine g_aload_n C 0 rfl dX7_count_129 ?_
        refine g_getf C wu_X7 0 rfl rfl 2 (by decide) wf_X7_157 rfl rfl dX7_count_130 ?_
        exact g_iret E dX7_count_133 (by decide) (by decide) ⟨(congrArg (fun z => some (Value.int (nI z))) (by rw [hs]; rfl)), rfl⟩
    · skip
      exact absurd c7 (by omega)
def r_X7_follows : Room := { frames := 2, cells := 0, slots := 0, locals := 41 }
set_option maxRecDepth 100000 in
set_option maxHeartbeats 4000000 in
theorem k_X7_follows (l : Launch) (D : va_G) (ty : Nat → ClassId) (x0 : Nat) (l0 : Nat) (v0 : Nat) (t0 : Nat) (y0 : Nat) (r0 : Nat) (p0 : Nat) (w0 : Nat) (a0 : Nat) (a1 : Nat) (b0 : Nat) (b1 : Nat) (c0 : Nat) (d0 : Nat) (e0 : Nat) (f0 : Nat) (Z : ZT) (sc : Nat) (a : Nat) (ha : a < 256) (hf : isF a = true) : gM l D ty yX7_follows cX7_follows 5 (some (FieldType.int : FieldType)) r_X7_follows 0 0 [.ref x0, .int (nI (a / 64)), .int (nI (a / 8 % 8)), .int (nI (a % 8))] [(x0, .inr (5, [.ref l0, .ref v0, .int (nI sc), .ref t0, .ref y0, .ref r0, .ref p0, .ref w0])), (r0, .inr (3, [.ref a0, .ref b0, .int (nI (zRd Z)), .int (nI (zMt Z)), .int (nI (zDr Z)), .ref c0, .ref d0, .ref e0, .ref f0])), (a0, .inr (0, [.ref a1])), (a1, .inl (ty 1, 4, .inr (.inl (zM (zF Z))))), (b0, .inr (0, [.ref b1])), (b1, .inl (ty 1, 4, .inr (.inl (zM (foll (zF Z))))))] (fun (zr : Option Value) (zW : va_W) => zr = some (.int (nI (flA (zF Z) a))) ∧ zW = [(x0, .inr (5, [.ref l0, .ref v0, .int (nI sc), .ref t0, .ref y0, .ref r0, .ref p0, .ref w0])), (r0, .inr (3, [.ref a0, .ref b0, .int (nI (zRd Z)), .int (nI (zMt Z)), .int (nI (zDr Z)), .ref c0, .ref d0, .ref e0, .ref f0])), (a0, .inr (0, [.ref a1])), (a1, .inl (ty 1, 4, .inr (.inl (zM (zF Z))))), (b0, .inr (0, [.ref b1])), (b1, .inl (ty 1, 4, .inr (.inl (zM (foll (zF Z))))))]) := by
  refine gM_of RX7 rfl (by decide +kernel) (Nat.le_of_ble_eq_true rfl) ?_
  intro pg en s0 mi ag bl mth cd AA HH QQ C E hnm
  show gW pg l en r_X7_follows s0 mi ag bl mth cd 5 D AA HH QQ 0 [(0, .ref x0), (1, .int (nI (a / 64))), (2, .int (nI (a / 8 % 8))), (3, .int (nI (a % 8)))] [] [(x0, .inr (5, [.ref l0, .ref v0, .int (nI sc), .ref t0, .ref y0, .ref r0, .ref p0, .ref w0])), (r0, .inr (3, [.ref a0, .ref b0, .int (nI (zRd Z)), .int (nI (zMt Z)), .int (nI (zDr Z)), .ref c0, .ref d0, .ref e0, .ref f0])), (a0, .inr (0, [.ref a1])), (a1, .inl (ty 1, 4, .inr (.inl (zM (zF Z))))), (b0, .inr (0, [.ref b1])), (b1, .inl (ty 1, 4, .inr (.inl (zM (foll (zF Z))))))] 0 0
  refine g_iload_n C 1 rfl dX7_follows_0 ?_
  refine g_iload_n C 2 rfl dX7_follows_1 ?_
  refine g_iload_n C 3 rfl dX7_follows_2 ?_
  refine g_callS0 C (nA := 3) (k_X1_isFact l D ty ((nI (a / 64))) ((nI (a / 8 % 8))) ((nI (a % 8))) ) wm_X7_47 ws_X1_isFact wi_X1 wc_X1_isFact rfl (by decide +kernel) ⟨(Nat.le_of_ble_eq_true rfl), (Nat.le_of_ble_eq_true rfl)⟩ ⟨rfl, rfl⟩ dX7_follows_3 (fun _ _ h => h.2) (Nat.le_of_ble_eq_true rfl) rfl ⟨Nat.zero_le _, Nat.zero_le _⟩ (fun r hp => ?_)
  obtain ⟨rfl, -⟩ := hp
  refine g_st [.int (bI (isFi ((nI (a / 64))) ((nI (a / 8 % 8))) ((nI (a % 8)))))] rfl ?_
  refine g_if_neB C (isFi ((nI (a / 64))) ((nI (a / 8 % 8))) ((nI (a % 8)))) 19 rfl dX7_follows_6 rfl (fun c6 => ?_) (fun c6 => ?_)
  · skip
    refine g_iload_n C 1 rfl dX7_follows_19 ?_
    refine g_iload_n C 2 rfl dX7_follows_20 ?_
    refine g_iload_n C 3 rfl dX7_follows_21 ?_
    refine g_callS0 C (nA := 3) (k_X1_of l D ty (a / 64) (a / 8 % 8) (a % 8) ) wm_X7_60 ws_X1_of wi_X1 wc_X1_of rfl (by decide +kernel) ⟨(Nat.le_of_ble_eq_true rfl), (Nat.le_of_ble_eq_true rfl)⟩ ⟨rfl, rfl⟩ dX7_follows_22 (fun _ _ h => h.2) (Nat.le_of_ble_eq_true rfl) rfl ⟨Nat.zero_le _, Nat.zero_le _⟩ (fun r hp => ?_)
    obtain ⟨rfl, -⟩ := hp
    refine g_st [.int (nI (64 * (a / 64) + 8 * (a / 8 % 8) + (a % 8)))] rfl ?_
    refine g_st [.int (nI a)] (by rw [show 64 * (a / 64) + 8 * (a / 8 % 8) + a % 8 = a by omega]) ?_
    refine g_istore C [(4, .int (nI a)), (0, .ref x0), (1, .int (nI (a / 64))), (2, .int (nI (a / 8 % 8))), (3, .int (nI (a % 8)))] dX7_follows_25 (by decide) rfl ?_
    refine g_aload_n C 1 rfl dX7_follows_27 ?_
    refine g_getf C wu_X7 0 rfl rfl 5 (by decide) wf_X7_37 rfl rfl dX7_follows_28 ?_
    refine g_getf C wu_X5 1 rfl rfl 0 (by decide) wf_X7_121 rfl rfl dX7_follows_31 ?_
    refine g_iload C 0 rfl dX7_follows_34 ?_
    refine g_callV C (nA := 1) (ci := 0) (q0 := 0) (As := [.int (nI a)]) (wr := [(x0, .inr (5, [.ref l0, .ref v0, .int (nI sc), .ref t0, .ref y0, .ref r0, .ref p0, .ref w0])), (r0, .inr (3, [.ref a0, .ref b0, .int (nI (zRd Z)), .int (nI (zMt Z)), .int (nI (zDr Z)), .ref c0, .ref d0, .ref e0, .ref f0])), (b0, .inr (0, [.ref b1])), (b1, .inl (ty 1, 4, .inr (.inl (zM (foll (zF Z))))))]) (k_X2_has l D ty a0 a1 (zF Z) a (by omega)) wm_X7_68 wn_X2_has wv_X2_has wi_X2 wc_X2_has rfl (by decide +kernel) ⟨(Nat.le_of_ble_eq_true rfl), (Nat.le_of_ble_eq_true rfl)⟩ ⟨rfl, rfl⟩ dX7_follows_36 ⟨Nat.zero_le _, Nat.zero_le _⟩ rfl rfl rfl [2, 3] [0, 1, 4, 5] rfl rfl rfl rfl (by decide) (Nat.le_of_ble_eq_true rfl) rfl (fun r W1 hp => ?_)
    obtain ⟨rfl, rfl⟩ := hp
    refine g_fix [.int (bI ((zF Z) a))] [(x0, .inr (5, [.ref l0, .ref v0, .int (nI sc), .ref t0, .ref y0, .ref r0, .ref p0, .ref w0])), (r0, .inr (3, [.ref a0, .ref b0, .int (nI (zRd Z)), .int (nI (zMt Z)), .int (nI (zDr Z)), .ref c0, .ref d0, .ref e0, .ref f0])), (a0, .inr (0, [.ref a1])), (a1, .inl (ty 1, 4, .inr (.inl (zM (zF Z))))), (b0, .inr (0, [.ref b1])), (b1, .inl (ty 1, 4, .inr (.inl (zM (foll (zF Z))))))] [0, 1, 4, 5, 2, 3] rfl rfl rfl ?_
    refine g_if_eqB C ((zF Z) a) 44 rfl dX7_follows_39 rfl (fun c39 => ?_) (fun c39 => ?_)
    · skip
      refine g_aload_n C 1 rfl dX7_follows_44 ?_
      refine g_getf C wu_X7 0 rfl rfl 5 (by decide) wf_X7_37 rfl rfl dX7_follows_45 ?_
      refine g_getf C wu_X5 1 rfl rfl 1 (by decide) wf_X7_205 rfl rfl dX7_follows_48 ?_
      refine g_iload C 0 rfl dX7_follows_51 ?_
      refine g_callV C (nA := 1) (ci := 0) (q0 := 0) (As := [.int (nI a)]) (wr := [(x0, .inr (5, [.ref l0, .ref v0, .int (nI sc), .ref t0, .ref y0, .ref r0, .ref p0, .ref w0])), (r0, .inr (3, [.ref a0, .ref b0, .int (nI (zRd Z)), .int (nI (zMt Z)), .int (nI (zDr Z)), .ref c0, .ref d0, .ref e0, .ref f0])), (a0, .inr (0, [.ref a1])), (a1, .inl (ty 1, 4, .inr (.inl (zM (zF Z)))))]) (k_X2_has l D ty b0 b1 (foll (zF Z)) a (by omega)) wm_X7_68 wn_X2_has wv_X2_has wi_X2 wc_X2_has rfl (by decide +kernel) ⟨(Nat.le_of_ble_eq_true rfl), (Nat.le_of_ble_eq_true rfl)⟩ ⟨rfl, rfl⟩ dX7_follows_53 ⟨Nat.zero_le _, Nat.zero_le _⟩ rfl rfl rfl [4, 5] [0, 1, 2, 3] rfl rfl rfl rfl (by decide) (Nat.le_of_ble_eq_true rfl) rfl (fun r W1 hp => ?_)
      obtain ⟨rfl, rfl⟩ := hp
      refine g_fix [.int (bI ((foll (zF Z)) a))] [(x0, .inr (5, [.ref l0, .ref v0, .int (nI sc), .ref t0, .ref y0, .ref r0, .ref p0, .ref w0])), (r0, .inr (3, [.ref a0, .ref b0, .int (nI (zRd Z)), .int (nI (zMt Z)), .int (nI (zDr Z)), .ref c0, .ref d0, .ref e0, .ref f0])), (a0, .inr (0, [.ref a1])), (a1, .inl (ty 1, 4, .inr (.inl (zM (zF Z))))), (b0, .inr (0, [.ref b1])), (b1, .inl (ty 1, 4, .inr (.inl (zM (foll (zF Z))))))] [0, 1, 2, 3, 4, 5] rfl rfl rfl ?_
      refine g_if_eqB C ((foll (zF Z)) a) 63 rfl dX7_follows_56 rfl (fun c56 => ?_) (fun c56 => ?_)
      · skip
        refine g_iconst C (nI 0) ic_0 dX7_follows_63 ?_
        exact g_iret E dX7_follows_64 (by decide) (by decide) ⟨(congrArg (fun z => some (Value.int (nI z))) (by unfold flA; simp only [*]; rfl)), rfl⟩
      · skip
        refine g_iconst C (nI 1) ic_1 dX7_follows_59 ?_
        refine g_goto C 64 dX7_follows_60 rfl ?_
        exact g_iret E dX7_follows_64 (by decide) (by decide) ⟨(congrArg (fun z => some (Value.int (nI z))) (by unfold flA; simp only [*]; rfl)), rfl⟩
    · skip
      refine g_iconst C (nI 2) ic_2 dX7_follows_42 ?_
      exact g_iret E dX7_follows_43 (by decide) (by decide) ⟨(congrArg (fun z => some (Value.int (nI z))) (by unfold flA; simp only [*]; rfl)), rfl⟩
  · skip
    exact absurd c6 (by rw [isFi_N a ha, hf]; decide)
def r_X7_instances : Room := { frames := 3, cells := 0, slots := 0, locals := 65 }
set_option maxRecDepth 100000 in
set_option maxHeartbeats 4000000 in
theorem k_X7_instances (l : Launch) (D : va_G) (ty : Nat → ClassId) (x0 : Nat) (l0 : Nat) (v0 : Nat) (t0 : Nat) (y0 : Nat) (r0 : Nat) (p0 : Nat) (w0 : Nat) (a0 : Nat) (a1 : Nat) (b0 : Nat) (c0 : Nat) (d0 : Nat) (e0 : Nat) (f0 : Nat) (Z : ZT) (sc : Nat) (a : Nat) (ha : a < 256) (hf : isF a = true) : gM l D ty yX7_instances cX7_instances 5 (some (FieldType.int : FieldType)) r_X7_instances 0 0 [.ref x0, .int (nI (a / 64)), .int (nI (a / 8 % 8)), .int (nI (a % 8))] [(x0, .inr (5, [.ref l0, .ref v0, .int (nI sc), .ref t0, .ref y0, .ref r0, .ref p0, .ref w0])), (r0, .inr (3, [.ref a0, .ref b0, .int (nI (zRd Z)), .int (nI (zMt Z)), .int (nI (zDr Z)), .ref c0, .ref d0, .ref e0, .ref f0])), (a0, .inr (0, [.ref a1])), (a1, .inl (ty 1, 4, .inr (.inl (zM (zF Z)))))] (fun (zr : Option Value) (zW : va_W) => zr = some (.int (nI (iM a &&& imp (zF Z) (a / 64) 38))) ∧ zW = [(x0, .inr (5, [.ref l0, .ref v0, .int (nI sc), .ref t0, .ref y0, .ref r0, .ref p0, .ref w0])), (r0, .inr (3, [.ref a0, .ref b0, .int (nI (zRd Z)), .int (nI (zMt Z)), .int (nI (zDr Z)), .ref c0, .ref d0, .ref e0, .ref f0])), (a0, .inr (0, [.ref a1])), (a1, .inl (ty 1, 4, .inr (.inl (zM (zF Z)))))]) := by
  refine gM_of RX7 rfl (by decide +kernel) (Nat.le_of_ble_eq_true rfl) ?_
  intro pg en s0 mi ag bl mth cd AA HH QQ C E hnm
  show gW pg l en r_X7_instances s0 mi ag bl mth cd 5 D AA HH QQ 0 [(0, .ref x0), (1, .int (nI (a / 64))), (2, .int (nI (a / 8 % 8))), (3, .int (nI (a % 8)))] [] [(x0, .inr (5, [.ref l0, .ref v0, .int (nI sc), .ref t0, .ref y0, .ref r0, .ref p0, .ref w0])), (r0, .inr (3, [.ref a0, .ref b0, .int (nI (zRd Z)), .int (nI (zMt Z)), .int (nI (zDr Z)), .ref c0, .ref d0, .ref e0, .ref f0])), (a0, .inr (0, [.ref a1])), (a1, .inl (ty 1, 4, .inr (.inl (zM (zF Z)))))] 0 0
  refine g_iload_n C 1 rfl dX7_instances_0 ?_
  refine g_iload_n C 2 rfl dX7_instances_1 ?_
  refine g_iload_n C 3 rfl dX7_instances_2 ?_
  refine g_callS0 C (nA := 3) (k_X1_isFact l D ty ((nI (a / 64))) ((nI (a / 8 % 8))) ((nI (a % 8))) ) wm_X7_47 ws_X1_isFact wi_X1 wc_X1_isFact rfl (by decide +kernel) ⟨(Nat.le_of_ble_eq_true rfl), (Nat.le_of_ble_eq_true rfl)⟩ ⟨rfl, rfl⟩ dX7_instances_3 (fun _ _ h => h.2) (Nat.le_of_ble_eq_true rfl) rfl ⟨Nat.zero_le _, Nat.zero_le _⟩ (fun r hp => ?_)
  obtain ⟨rfl, -⟩ := hp
  refine g_st [.int (bI (isFi ((nI (a / 64))) ((nI (a / 8 % 8))) ((nI (a % 8)))))] rfl ?_
  refine g_if_neB C (isFi ((nI (a / 64))) ((nI (a / 8 % 8))) ((nI (a % 8)))) 19 rfl dX7_instances_6 rfl (fun c6 => ?_) (fun c6 => ?_)
  · skip
    refine g_iload_n C 1 rfl dX7_instances_19 ?_
    refine g_iload_n C 2 rfl dX7_instances_20 ?_
    refine g_iload_n C 3 rfl dX7_instances_21 ?_
    refine g_callS0 C (nA := 3) (k_X1_of l D ty (a / 64) (a / 8 % 8) (a % 8) ) wm_X7_60 ws_X1_of wi_X1 wc_X1_of rfl (by decide +kernel) ⟨(Nat.le_of_ble_eq_true rfl), (Nat.le_of_ble_eq_true rfl)⟩ ⟨rfl, rfl⟩ dX7_instances_22 (fun _ _ h => h.2) (Nat.le_of_ble_eq_true rfl) rfl ⟨Nat.zero_le _, Nat.zero_le _⟩ (fun r hp => ?_)
    obtain ⟨rfl, -⟩ := hp
    refine g_st [.int (nI (64 * (a / 64) + 8 * (a / 8 % 8) + (a % 8)))] rfl ?_
    refine g_st [.int (nI a)] (by rw [show 64 * (a / 64) + 8 * (a / 8 % 8) + a % 8 = a by omega]) ?_
    refine g_istore C [(4, .int (nI a)), (0, .ref x0), (1, .int (nI (a / 64))), (2, .int (nI (a / 8 % 8))), (3, .int (nI (a % 8)))] dX7_instances_25 (by decide) rfl ?_
    refine g_iload C 0 rfl dX7_instances_27 ?_
    refine g_callS0 C (nA := 1) (k_X1_instanceMask l D ty a (by omega)) wm_X7_183 ws_X1_instanceMask wi_X1 wc_X1_instanceMask rfl (by decide +kernel) ⟨(Nat.le_of_ble_eq_true rfl), (Nat.le_of_ble_eq_true rfl)⟩ ⟨rfl, rfl⟩ dX7_instances_29 (fun _ _ h => h.2) (Nat.le_of_ble_eq_true rfl) rfl ⟨Nat.zero_le _, Nat.zero_le _⟩ (fun r hp => ?_)
    obtain ⟨rfl, -⟩ := hp
    refine g_st [.int (nI (iM a))] rfl ?_
    refine g_aload_n C 1 rfl dX7_instances_32 ?_
    refine g_getf C wu_X7 0 rfl rfl 5 (by decide) wf_X7_37 rfl rfl dX7_instances_33 ?_
    refine g_getf C wu_X5 1 rfl rfl 0 (by decide) wf_X7_121 rfl rfl dX7_instances_36 ?_
    refine g_iload_n C 2 rfl dX7_instances_39 ?_
    refine g_callV C (nA := 1) (ci := 0) (q0 := 0) (As := [.int (nI (a / 64))]) (wr := [(x0, .inr (5, [.ref l0, .ref v0, .int (nI sc), .ref t0, .ref y0, .ref r0, .ref p0, .ref w0])), (r0, .inr (3, [.ref a0, .ref b0, .int (nI (zRd Z)), .int (nI (zMt Z)), .int (nI (zDr Z)), .ref c0, .ref d0, .ref e0, .ref f0]))]) (k_X2_instancesWith l D ty a0 a1 (zF Z) (a / 64) (by omega)) wm_X7_208 wn_X2_instancesWith wv_X2_instancesWith wi_X2 wc_X2_instancesWith rfl (by decide +kernel) ⟨(Nat.le_of_ble_eq_true rfl), (Nat.le_of_ble_eq_true rfl)⟩ ⟨rfl, rfl⟩ dX7_instances_40 ⟨Nat.zero_le _, Nat.zero_le _⟩ rfl rfl rfl [2, 3] [0, 1] rfl rfl rfl rfl (by decide) (Nat.le_of_ble_eq_true rfl) rfl (fun r W1 hp => ?_)
    obtain ⟨rfl, rfl⟩ := hp
    refine g_fix [.int (nI (imp (zF Z) (a / 64) 38)), .int (nI (iM a))] [(x0, .inr (5, [.ref l0, .ref v0, .int (nI sc), .ref t0, .ref y0, .ref r0, .ref p0, .ref w0])), (r0, .inr (3, [.ref a0, .ref b0, .int (nI (zRd Z)), .int (nI (zMt Z)), .int (nI (zDr Z)), .ref c0, .ref d0, .ref e0, .ref f0])), (a0, .inr (0, [.ref a1])), (a1, .inl (ty 1, 4, .inr (.inl (zM (zF Z)))))] [0, 1, 2, 3] rfl rfl rfl ?_
    refine g_iand C (nI (iM a &&& imp (zF Z) (a / 64) 38)) dX7_instances_43 (nI_andw _ _) ?_
    exact g_iret E dX7_instances_44 (by decide) (by decide) ⟨rfl, rfl⟩
  · skip
    exact absurd c6 (by rw [isFi_N a ha, hf]; decide)
def r_X7_behind : Room := { frames := 2, cells := 0, slots := 0, locals := 43 }
set_option maxRecDepth 100000 in
set_option maxHeartbeats 4000000 in
theorem k_X7_behind (l : Launch) (D : va_G) (ty : Nat → ClassId) (x0 : Nat) (l0 : Nat) (v0 : Nat) (t0 : Nat) (y0 : Nat) (r0 : Nat) (p0 : Nat) (w0 : Nat) (a0 : Nat) (b0 : Nat) (c0 : Nat) (d0 : Nat) (e0 : Nat) (f0 : Nat) (Z : ZT) (sc : Nat) (r : Nat) (hr : r < 2 ^ 31) (hrd : zRd Z < 105) : gM l D ty yX7_behind cX7_behind 2 (some (FieldType.int : FieldType)) r_X7_behind 0 0 [.ref x0, .int (nI r)] [(x0, .inr (5, [.ref l0, .ref v0, .int (nI sc), .ref t0, .ref y0, .ref r0, .ref p0, .ref w0])), (r0, .inr (3, [.ref a0, .ref b0, .int (nI (zRd Z)), .int (nI (zMt Z)), .int (nI (zDr Z)), .ref c0, .ref d0, .ref e0, .ref f0])), (f0, .inl (ty 0, 105, .inl (zSz Z)))] (fun (zr : Option Value) (zW : va_W) => zr = some (.int (zSz Z (min r (zRd Z)))) ∧ zW = [(x0, .inr (5, [.ref l0, .ref v0, .int (nI sc), .ref t0, .ref y0, .ref r0, .ref p0, .ref w0])), (r0, .inr (3, [.ref a0, .ref b0, .int (nI (zRd Z)), .int (nI (zMt Z)), .int (nI (zDr Z)), .ref c0, .ref d0, .ref e0, .ref f0])), (f0, .inl (ty 0, 105, .inl (zSz Z)))]) := by
  refine gM_of RX7 rfl (by decide +kernel) (Nat.le_of_ble_eq_true rfl) ?_
  intro pg en s0 mi ag bl mth cd AA HH QQ C E hnm
  show gW pg l en r_X7_behind s0 mi ag bl mth cd 2 D AA HH QQ 0 [(0, .ref x0), (1, .int (nI r))] [] [(x0, .inr (5, [.ref l0, .ref v0, .int (nI sc), .ref t0, .ref y0, .ref r0, .ref p0, .ref w0])), (r0, .inr (3, [.ref a0, .ref b0, .int (nI (zRd Z)), .int (nI (zMt Z)), .int (nI (zDr Z)), .ref c0, .ref d0, .ref e0, .ref f0])), (f0, .inl (ty 0, 105, .inl (zSz Z)))] 0 0
  refine g_iload_n C 1 rfl dX7_behind_0 ?_
  refine g_if_ge C 14 dX7_behind_1 rfl (fun c1 => ?_) (fun c1 => ?_)
  · skip
    refine g_aload_n C 0 rfl dX7_behind_14 ?_
    refine g_getf C wu_X7 0 rfl rfl 5 (by decide) wf_X7_37 rfl rfl dX7_behind_15 ?_
    refine g_iload_n C 1 rfl dX7_behind_18 ?_
    refine g_callV C (nA := 1) (ci := 3) (q0 := 0) (As := [.int (nI r)]) (wr := [(x0, .inr (5, [.ref l0, .ref v0, .int (nI sc), .ref t0, .ref y0, .ref r0, .ref p0, .ref w0]))]) (k_X5_sizeBehind l D ty r0 a0 b0 c0 d0 e0 f0 (zRd Z) (zMt Z) (zDr Z) (zSz Z) r (by omega) (by omega)) wm_X7_213 wn_X5_sizeBehind wv_X5_sizeBehind wi_X5 wc_X5_sizeBehind rfl (by decide +kernel) ⟨(Nat.le_of_ble_eq_true rfl), (Nat.le_of_ble_eq_true rfl)⟩ ⟨rfl, rfl⟩ dX7_behind_19 ⟨Nat.zero_le _, Nat.zero_le _⟩ rfl rfl rfl [1, 2] [0] rfl rfl rfl rfl (by decide) (Nat.le_of_ble_eq_true rfl) rfl (fun r W1 hp => ?_)
    obtain ⟨rfl, rfl⟩ := hp
    refine g_fix [.int ((zSz Z) (min r (zRd Z)))] [(x0, .inr (5, [.ref l0, .ref v0, .int (nI sc), .ref t0, .ref y0, .ref r0, .ref p0, .ref w0])), (r0, .inr (3, [.ref a0, .ref b0, .int (nI ((zRd Z))), .int (nI ((zMt Z))), .int (nI ((zDr Z))), .ref c0, .ref d0, .ref e0, .ref f0])), (f0, .inl (ty 0, 105, .inl ((zSz Z))))] [0, 1, 2] rfl rfl rfl ?_
    exact g_iret E dX7_behind_22 (by decide) (by decide) ⟨rfl, rfl⟩
  · skip
    exact absurd (nI_pos' (by omega)) c1
def r_X7_without : Room := { frames := 5, cells := 0, slots := 0, locals := 132 }
set_option maxRecDepth 100000 in
set_option maxHeartbeats 4000000 in
theorem k_X7_without (l : Launch) (D : va_G) (ty : Nat → ClassId) (x0 : Nat) (l0 : Nat) (v0 : Nat) (t0 : Nat) (y0 : Nat) (r0 : Nat) (p0 : Nat) (w0 : Nat) (l1 : Nat) (l2 : Nat) (l3 : Nat) (T : Nat → Bool) (q : Nat → Nat) (nr : Nat) (a0 : Nat) (a1 : Nat) (b0 : Nat) (c0 : Nat) (d0 : Nat) (e0 : Nat) (f0 : Nat) (Z : ZT) (sc : Nat) (p1 : Nat) (p2 : Nat) (p3 : Nat) (P : LT) (g0 : Nat) (g1 : Nat) (h0 : Nat) (h1 : Nat) (i0 : Nat) (i1 : Nat) (m0 : Nat) (n0 : Nat) (o0 : Nat) (Z2 : ZT) (K2 : Nat → Bool) (r : Nat) (w : Nat) (hr : r < nr) (hw : w < 3) (hq : okQ q nr) (hT : okF T) : gM l D ty yX7_without cX7_without 3 (some (FieldType.int : FieldType)) r_X7_without 0 0 [.ref x0, .int (nI r), .int (nI w)] [(x0, .inr (5, [.ref l0, .ref v0, .int (nI sc), .ref t0, .ref y0, .ref r0, .ref p0, .ref w0])), (l0, .inr (2, [.ref l1, .ref l2, .int (nI nr)])), (l1, .inr (0, [.ref l3])), (l3, .inl (ty 1, 4, .inr (.inl (zM T)))), (l2, .inl (ty 0, 18, .inl (eR q))), (p0, .inr (2, [.ref p1, .ref p2, .int (nI (P.2.2))])), (p1, .inr (0, [.ref p3])), (p3, .inl (ty 1, 4, .inr (.inl (zM P.1)))), (p2, .inl (ty 0, 18, .inl (eR P.2.1))), (r0, .inr (3, [.ref a0, .ref b0, .int (nI (zRd Z)), .int (nI (zMt Z)), .int (nI (zDr Z)), .ref c0, .ref d0, .ref e0, .ref f0])), (a0, .inr (0, [.ref a1])), (a1, .inl (ty 1, 4, .inr (.inl (zM (zF Z))))), (w0, .inr (3, [.ref g0, .ref h0, .int (nI (zRd Z2)), .int (nI (zMt Z2)), .int (nI (zDr Z2)), .ref i0, .ref m0, .ref n0, .ref o0])), (g0, .inr (0, [.ref g1])), (g1, .inl (ty 1, 4, .inr (.inl (zM (zF Z2))))), (h0, .inr (0, [.ref h1])), (h1, .inl (ty 1, 4, .inr (.inl (zM (foll (zF Z2)))))), (i0, .inr (0, [.ref i1])), (i1, .inl (ty 1, 4, .inr (.inl (zM K2)))), (m0, .inl (ty 0, 256, .inl (zRo Z2))), (n0, .inl (ty 0, 256, .inl (zRu Z2))), (o0, .inl (ty 0, 105, .inl (zSz Z2)))] (fun (zr : Option Value) (zW : va_W) => ∃ (P9 : LT) (Z9 : ZT) (K9 : Nat → Bool), zr = some (.int (wiA Z q nr T r w)) ∧ zW = [(x0, .inr (5, [.ref l0, .ref v0, .int (nI sc), .ref t0, .ref y0, .ref r0, .ref p0, .ref w0])), (l0, .inr (2, [.ref l1, .ref l2, .int (nI nr)])), (l1, .inr (0, [.ref l3])), (l3, .inl (ty 1, 4, .inr (.inl (zM T)))), (l2, .inl (ty 0, 18, .inl (eR q))), (p0, .inr (2, [.ref p1, .ref p2, .int (nI (P9.2.2))])), (p1, .inr (0, [.ref p3])), (p3, .inl (ty 1, 4, .inr (.inl (zM P9.1)))), (p2, .inl (ty 0, 18, .inl (eR P9.2.1))), (r0, .inr (3, [.ref a0, .ref b0, .int (nI (zRd Z)), .int (nI (zMt Z)), .int (nI (zDr Z)), .ref c0, .ref d0, .ref e0, .ref f0])), (a0, .inr (0, [.ref a1])), (a1, .inl (ty 1, 4, .inr (.inl (zM (zF Z))))), (w0, .inr (3, [.ref g0, .ref h0, .int (nI (zRd Z9)), .int (nI (zMt Z9)), .int (nI (zDr Z9)), .ref i0, .ref m0, .ref n0, .ref o0])), (g0, .inr (0, [.ref g1])), (g1, .inl (ty 1, 4, .inr (.inl (zM (zF Z9))))), (h0, .inr (0, [.ref h1])), (h1, .inl (ty 1, 4, .inr (.inl (zM (foll (zF Z9)))))), (i0, .inr (0, [.ref i1])), (i1, .inl (ty 1, 4, .inr (.inl (zM K9)))), (m0, .inl (ty 0, 256, .inl (zRo Z9))), (n0, .inl (ty 0, 256, .inl (zRu Z9))), (o0, .inl (ty 0, 105, .inl (zSz Z9)))]) := by
  have h6 := hq.1
  refine gM_of RX7 rfl (by decide +kernel) (Nat.le_of_ble_eq_true rfl) ?_
  intro pg en s0 mi ag bl mth cd AA HH QQ C E hnm
  show gW pg l en r_X7_without s0 mi ag bl mth cd 3 D AA HH QQ 0 [(0, .ref x0), (1, .int (nI r)), (2, .int (nI w))] [] [(x0, .inr (5, [.ref l0, .ref v0, .int (nI sc), .ref t0, .ref y0, .ref r0, .ref p0, .ref w0])), (l0, .inr (2, [.ref l1, .ref l2, .int (nI nr)])), (l1, .inr (0, [.ref l3])), (l3, .inl (ty 1, 4, .inr (.inl (zM T)))), (l2, .inl (ty 0, 18, .inl (eR q))), (p0, .inr (2, [.ref p1, .ref p2, .int (nI (P.2.2))])), (p1, .inr (0, [.ref p3])), (p3, .inl (ty 1, 4, .inr (.inl (zM P.1)))), (p2, .inl (ty 0, 18, .inl (eR P.2.1))), (r0, .inr (3, [.ref a0, .ref b0, .int (nI (zRd Z)), .int (nI (zMt Z)), .int (nI (zDr Z)), .ref c0, .ref d0, .ref e0, .ref f0])), (a0, .inr (0, [.ref a1])), (a1, .inl (ty 1, 4, .inr (.inl (zM (zF Z))))), (w0, .inr (3, [.ref g0, .ref h0, .int (nI (zRd Z2)), .int (nI (zMt Z2)), .int (nI (zDr Z2)), .ref i0, .ref m0, .ref n0, .ref o0])), (g0, .inr (0, [.ref g1])), (g1, .inl (ty 1, 4, .inr (.inl (zM (zF Z2))))), (h0, .inr (0, [.ref h1])), (h1, .inl (ty 1, 4, .inr (.inl (zM (foll (zF Z2)))))), (i0, .inr (0, [.ref i1])), (i1, .inl (ty 1, 4, .inr (.inl (zM K2)))), (m0, .inl (ty 0, 256, .inl (zRo Z2))), (n0, .inl (ty 0, 256, .inl (zRu Z2))), (o0, .inl (ty 0, 105, .inl (zSz Z2)))] 0 0
  refine g_aload_n C 0 rfl dX7_without_0 ?_
  refine g_getf C wu_X7 0 rfl rfl 0 (by decide) wf_X7_10 rfl rfl dX7_without_1 ?_
  refine g_iload_n C 1 rfl dX7_without_4 ?_
  refine g_callV C (nA := 1) (ci := 2) (q0 := 0) (As := [.int (nI r)]) (wr := [(x0, .inr (5, [.ref l0, .ref v0, .int (nI sc), .ref t0, .ref y0, .ref r0, .ref p0, .ref w0])), (l1, .inr (0, [.ref l3])), (l3, .inl (ty 1, 4, .inr (.inl (zM T)))), (l2, .inl (ty 0, 18, .inl (eR q))), (p0, .inr (2, [.ref p1, .ref p2, .int (nI (P.2.2))])), (p1, .inr (0, [.ref p3])), (p3, .inl (ty 1, 4, .inr (.inl (zM P.1)))), (p2, .inl (ty 0, 18, .inl (eR P.2.1))), (r0, .inr (3, [.ref a0, .ref b0, .int (nI (zRd Z)), .int (nI (zMt Z)), .int (nI (zDr Z)), .ref c0, .ref d0, .ref e0, .ref f0])), (a0, .inr (0, [.ref a1])), (a1, .inl (ty 1, 4, .inr (.inl (zM (zF Z))))), (w0, .inr (3, [.ref g0, .ref h0, .int (nI (zRd Z2)), .int (nI (zMt Z2)), .int (nI (zDr Z2)), .ref i0, .ref m0, .ref n0, .ref o0])), (g0, .inr (0, [.ref g1])), (g1, .inl (ty 1, 4, .inr (.inl (zM (zF Z2))))), (h0, .inr (0, [.ref h1])), (h1, .inl (ty 1, 4, .inr (.inl (zM (foll (zF Z2)))))), (i0, .inr (0, [.ref i1])), (i1, .inl (ty 1, 4, .inr (.inl (zM K2)))), (m0, .inl (ty 0, 256, .inl (zRo Z2))), (n0, .inl (ty 0, 256, .inl (zRu Z2))), (o0, .inl (ty 0, 105, .inl (zSz Z2)))]) (k_X4_hasRule l D ty l0 l1 l2 nr ((nI r)) ) wm_X7_110 wn_X4_hasRule wv_X4_hasRule wi_X4 wc_X4_hasRule rfl (by decide +kernel) ⟨(Nat.le_of_ble_eq_true rfl), (Nat.le_of_ble_eq_true rfl)⟩ ⟨rfl, rfl⟩ dX7_without_5 ⟨Nat.zero_le _, Nat.zero_le _⟩ rfl rfl rfl [1] [0, 2, 3, 4, 5, 6, 7, 8, 9, 10, 11, 12, 13, 14, 15, 16, 17, 18, 19, 20, 21] rfl rfl rfl rfl (by decide) (Nat.le_of_ble_eq_true rfl) rfl (fun r W1 hp => ?_)
  obtain ⟨rfl, rfl⟩ := hp
  refine g_fix [.int (bI (hR ((nI r)) nr))] [(x0, .inr (5, [.ref l0, .ref v0, .int (nI sc), .ref t0, .ref y0, .ref r0, .ref p0, .ref w0])), (l0, .inr (2, [.ref l1, .ref l2, .int (nI nr)])), (l1, .inr (0, [.ref l3])), (l3, .inl (ty 1, 4, .inr (.inl (zM T)))), (l2, .inl (ty 0, 18, .inl (eR q))), (p0, .inr (2, [.ref p1, .ref p2, .int (nI (P.2.2))])), (p1, .inr (0, [.ref p3])), (p3, .inl (ty 1, 4, .inr (.inl (zM P.1)))), (p2, .inl (ty 0, 18, .inl (eR P.2.1))), (r0, .inr (3, [.ref a0, .ref b0, .int (nI (zRd Z)), .int (nI (zMt Z)), .int (nI (zDr Z)), .ref c0, .ref d0, .ref e0, .ref f0])), (a0, .inr (0, [.ref a1])), (a1, .inl (ty 1, 4, .inr (.inl (zM (zF Z))))), (w0, .inr (3, [.ref g0, .ref h0, .int (nI (zRd Z2)), .int (nI (zMt Z2)), .int (nI (zDr Z2)), .ref i0, .ref m0, .ref n0, .ref o0])), (g0, .inr (0, [.ref g1])), (g1, .inl (ty 1, 4, .inr (.inl (zM (zF Z2))))), (h0, .inr (0, [.ref h1])), (h1, .inl (ty 1, 4, .inr (.inl (zM (foll (zF Z2)))))), (i0, .inr (0, [.ref i1])), (i1, .inl (ty 1, 4, .inr (.inl (zM K2)))), (m0, .inl (ty 0, 256, .inl (zRo Z2))), (n0, .inl (ty 0, 256, .inl (zRu Z2))), (o0, .inl (ty 0, 105, .inl (zSz Z2)))] [0, 21, 1, 2, 3, 4, 5, 6, 7, 8, 9, 10, 11, 12, 13, 14, 15, 16, 17, 18, 19, 20] rfl rfl rfl ?_
  refine g_if_neB C (hR ((nI r)) nr) 21 rfl dX7_without_8 rfl (fun c8 => ?_) (fun c8 => ?_)
  · skip
    refine g_iload_n C 2 rfl dX7_without_21 ?_
    refine g_if_lt C 30 dX7_without_22 rfl (fun c22 => ?_) (fun c22 => ?_)
    · skip
      exact absurd c22 (nI_pos (by omega))
    · skip
      refine g_iload_n C 2 rfl dX7_without_25 ?_
      refine g_iconst C (nI 2) ic_2 dX7_without_26 ?_
      refine g_icmp_leN C w 2 40 rfl rfl (by omega) (by omega) dX7_without_27 rfl (fun c27 => ?_) (fun c27 => ?_)
      · skip
        refine g_aload_n C 0 rfl dX7_without_40 ?_
        refine g_getf C wu_X7 0 rfl rfl 6 (by decide) wf_X7_41 rfl rfl dX7_without_41 ?_
        refine g_aload_n C 0 rfl dX7_without_44 ?_
        refine g_getf C wu_X7 0 rfl rfl 0 (by decide) wf_X7_10 rfl rfl dX7_without_45 ?_
        refine g_callV C (nA := 1) (ci := 2) (q0 := 0) (As := [.ref l0]) (wr := [(x0, .inr (5, [.ref l0, .ref v0, .int (nI sc), .ref t0, .ref y0, .ref r0, .ref p0, .ref w0])), (r0, .inr (3, [.ref a0, .ref b0, .int (nI (zRd Z)), .int (nI (zMt Z)), .int (nI (zDr Z)), .ref c0, .ref d0, .ref e0, .ref f0])), (a0, .inr (0, [.ref a1])), (a1, .inl (ty 1, 4, .inr (.inl (zM (zF Z))))), (w0, .inr (3, [.ref g0, .ref h0, .int (nI (zRd Z2)), .int (nI (zMt Z2)), .int (nI (zDr Z2)), .ref i0, .ref m0, .ref n0, .ref o0])), (g0, .inr (0, [.ref g1])), (g1, .inl (ty 1, 4, .inr (.inl (zM (zF Z2))))), (h0, .inr (0, [.ref h1])), (h1, .inl (ty 1, 4, .inr (.inl (zM (foll (zF Z2)))))), (i0, .inr (0, [.ref i1])), (i1, .inl (ty 1, 4, .inr (.inl (zM K2)))), (m0, .inl (ty 0, 256, .inl (zRo Z2))), (n0, .inl (ty 0, 256, .inl (zRu Z2))), (o0, .inl (ty 0, 105, .inl (zSz Z2)))]) (k_X4_copyOf l D ty p0 p1 p2 p3 P.1 P.2.1 P.2.2 l0 l1 l2 l3 T q nr ) wm_X7_149 wn_X4_copyOf wv_X4_copyOf wi_X4 wc_X4_copyOf rfl (by decide +kernel) ⟨(Nat.le_of_ble_eq_true rfl), (Nat.le_of_ble_eq_true rfl)⟩ ⟨rfl, rfl⟩ dX7_without_48 ⟨Nat.zero_le _, Nat.zero_le _⟩ rfl rfl rfl [5, 6, 7, 8, 1, 2, 3, 4] [0, 9, 10, 11, 12, 13, 14, 15, 16, 17, 18, 19, 20, 21] rfl rfl rfl rfl (by decide) (Nat.le_of_ble_eq_true rfl) rfl (fun r W1 hp => ?_)
        obtain ⟨rfl, rfl⟩ := hp
        refine g_fix [] [(x0, .inr (5, [.ref l0, .ref v0, .int (nI sc), .ref t0, .ref y0, .ref r0, .ref p0, .ref w0])), (l0, .inr (2, [.ref l1, .ref l2, .int (nI nr)])), (l1, .inr (0, [.ref l3])), (l3, .inl (ty 1, 4, .inr (.inl (zM T)))), (l2, .inl (ty 0, 18, .inl (eR q))), (p0, .inr (2, [.ref p1, .ref p2, .int (nI nr)])), (p1, .inr (0, [.ref p3])), (p3, .inl (ty 1, 4, .inr (.inl (zM T)))), (p2, .inl (ty 0, 18, .inl (eR q))), (r0, .inr (3, [.ref a0, .ref b0, .int (nI (zRd Z)), .int (nI (zMt Z)), .int (nI (zDr Z)), .ref c0, .ref d0, .ref e0, .ref f0])), (a0, .inr (0, [.ref a1])), (a1, .inl (ty 1, 4, .inr (.inl (zM (zF Z))))), (w0, .inr (3, [.ref g0, .ref h0, .int (nI (zRd Z2)), .int (nI (zMt Z2)), .int (nI (zDr Z2)), .ref i0, .ref m0, .ref n0, .ref o0])), (g0, .inr (0, [.ref g1])), (g1, .inl (ty 1, 4, .inr (.inl (zM (zF Z2))))), (h0, .inr (0, [.ref h1])), (h1, .inl (ty 1, 4, .inr (.inl (zM (foll (zF Z2)))))), (i0, .inr (0, [.ref i1])), (i1, .inl (ty 1, 4, .inr (.inl (zM K2)))), (m0, .inl (ty 0, 256, .inl (zRo Z2))), (n0, .inl (ty 0, 256, .inl (zRu Z2))), (o0, .inl (ty 0, 105, .inl (zSz Z2)))] [0, 18, 19, 20, 21, 14, 15, 16, 17, 1, 2, 3, 4, 5, 6, 7, 8, 9, 10, 11, 12, 13] rfl rfl rfl ?_
        refine g_aload_n C 0 rfl dX7_without_51 ?_
        refine g_getf C wu_X7 0 rfl rfl 6 (by decide) wf_X7_41 rfl rfl dX7_without_52 ?_
        refine g_iload_n C 1 rfl dX7_without_55 ?_
        refine g_callV C (nA := 1) (ci := 2) (q0 := 0) (As := [.int (nI r)]) (wr := [(x0, .inr (5, [.ref l0, .ref v0, .int (nI sc), .ref t0, .ref y0, .ref r0, .ref p0, .ref w0])), (l0, .inr (2, [.ref l1, .ref l2, .int (nI nr)])), (l1, .inr (0, [.ref l3])), (l3, .inl (ty 1, 4, .inr (.inl (zM T)))), (l2, .inl (ty 0, 18, .inl (eR q))), (p1, .inr (0, [.ref p3])), (p3, .inl (ty 1, 4, .inr (.inl (zM T)))), (r0, .inr (3, [.ref a0, .ref b0, .int (nI (zRd Z)), .int (nI (zMt Z)), .int (nI (zDr Z)), .ref c0, .ref d0, .ref e0, .ref f0])), (a0, .inr (0, [.ref a1])), (a1, .inl (ty 1, 4, .inr (.inl (zM (zF Z))))), (w0, .inr (3, [.ref g0, .ref h0, .int (nI (zRd Z2)), .int (nI (zMt Z2)), .int (nI (zDr Z2)), .ref i0, .ref m0, .ref n0, .ref o0])), (g0, .inr (0, [.ref g1])), (g1, .inl (ty 1, 4, .inr (.inl (zM (zF Z2))))), (h0, .inr (0, [.ref h1])), (h1, .inl (ty 1, 4, .inr (.inl (zM (foll (zF Z2)))))), (i0, .inr (0, [.ref i1])), (i1, .inl (ty 1, 4, .inr (.inl (zM K2)))), (m0, .inl (ty 0, 256, .inl (zRo Z2))), (n0, .inl (ty 0, 256, .inl (zRu Z2))), (o0, .inl (ty 0, 105, .inl (zSz Z2)))]) (k_X4_dropRule l D ty p0 p1 p2 q nr r (by omega) (by omega)) wm_X7_118 wn_X4_dropRule wv_X4_dropRule wi_X4 wc_X4_dropRule rfl (by decide +kernel) ⟨(Nat.le_of_ble_eq_true rfl), (Nat.le_of_ble_eq_true rfl)⟩ ⟨rfl, rfl⟩ dX7_without_56 ⟨Nat.zero_le _, Nat.zero_le _⟩ rfl rfl rfl [5, 8] [0, 1, 2, 3, 4, 6, 7, 9, 10, 11, 12, 13, 14, 15, 16, 17, 18, 19, 20, 21] rfl rfl rfl rfl (by decide) (Nat.le_of_ble_eq_true rfl) rfl (fun r W1 hp => ?_)
        obtain ⟨rfl, rfl⟩ := hp
        refine g_fix [] [(x0, .inr (5, [.ref l0, .ref v0, .int (nI sc), .ref t0, .ref y0, .ref r0, .ref p0, .ref w0])), (l0, .inr (2, [.ref l1, .ref l2, .int (nI nr)])), (l1, .inr (0, [.ref l3])), (l3, .inl (ty 1, 4, .inr (.inl (zM T)))), (l2, .inl (ty 0, 18, .inl (eR q))), (p0, .inr (2, [.ref p1, .ref p2, .int (nI (nr - 1))])), (p1, .inr (0, [.ref p3])), (p3, .inl (ty 1, 4, .inr (.inl (zM T)))), (p2, .inl (ty 0, 18, .inl (eR (dRi q r 15)))), (r0, .inr (3, [.ref a0, .ref b0, .int (nI (zRd Z)), .int (nI (zMt Z)), .int (nI (zDr Z)), .ref c0, .ref d0, .ref e0, .ref f0])), (a0, .inr (0, [.ref a1])), (a1, .inl (ty 1, 4, .inr (.inl (zM (zF Z))))), (w0, .inr (3, [.ref g0, .ref h0, .int (nI (zRd Z2)), .int (nI (zMt Z2)), .int (nI (zDr Z2)), .ref i0, .ref m0, .ref n0, .ref o0])), (g0, .inr (0, [.ref g1])), (g1, .inl (ty 1, 4, .inr (.inl (zM (zF Z2))))), (h0, .inr (0, [.ref h1])), (h1, .inl (ty 1, 4, .inr (.inl (zM (foll (zF Z2)))))), (i0, .inr (0, [.ref i1])), (i1, .inl (ty 1, 4, .inr (.inl (zM K2)))), (m0, .inl (ty 0, 256, .inl (zRo Z2))), (n0, .inl (ty 0, 256, .inl (zRu Z2))), (o0, .inl (ty 0, 105, .inl (zSz Z2)))] [0, 1, 2, 3, 4, 20, 5, 6, 21, 7, 8, 9, 10, 11, 12, 13, 14, 15, 16, 17, 18, 19] rfl rfl rfl ?_
        refine g_aload_n C 0 rfl dX7_without_59 ?_
        refine g_getf C wu_X7 0 rfl rfl 7 (by decide) wf_X7_44 rfl rfl dX7_without_60 ?_
        refine g_aload_n C 0 rfl dX7_without_63 ?_
        refine g_getf C wu_X7 0 rfl rfl 6 (by decide) wf_X7_41 rfl rfl dX7_without_64 ?_
        refine g_callV C (nA := 1) (ci := 3) (q0 := 0) (As := [.ref p0]) (wr := [(x0, .inr (5, [.ref l0, .ref v0, .int (nI sc), .ref t0, .ref y0, .ref r0, .ref p0, .ref w0])), (l0, .inr (2, [.ref l1, .ref l2, .int (nI nr)])), (l1, .inr (0, [.ref l3])), (l3, .inl (ty 1, 4, .inr (.inl (zM T)))), (l2, .inl (ty 0, 18, .inl (eR q))), (r0, .inr (3, [.ref a0, .ref b0, .int (nI (zRd Z)), .int (nI (zMt Z)), .int (nI (zDr Z)), .ref c0, .ref d0, .ref e0, .ref f0])), (a0, .inr (0, [.ref a1])), (a1, .inl (ty 1, 4, .inr (.inl (zM (zF Z)))))]) (k_X5_run l D ty w0 g0 g1 h0 h1 i0 i1 m0 n0 o0 p0 p1 p2 p3 (zF Z2) (foll (zF Z2)) K2 (zRd Z2) (zMt Z2) (zDr Z2) (zRo Z2) (zRu Z2) (zSz Z2) T (dRi q r 15) (nr - 1) hT (okQ_dRi hq hr)) wm_X7_90 wn_X5_run wv_X5_run wi_X5 wc_X5_run rfl (by decide +kernel) ⟨(Nat.le_of_ble_eq_true rfl), (Nat.le_of_ble_eq_true rfl)⟩ ⟨rfl, rfl⟩ dX7_without_67 ⟨Nat.zero_le _, Nat.zero_le _⟩ rfl rfl rfl [12, 13, 14, 15, 16, 17, 18, 19, 20, 21, 5, 6, 7, 8] [0, 1, 2, 3, 4, 9, 10, 11] rfl rfl rfl rfl (by decide) (Nat.le_of_ble_eq_true rfl) rfl (fun r W1 hp => ?_)
        obtain ⟨U91, rfl, rfl⟩ := hp
        refine g_fix [] [(x0, .inr (5, [.ref l0, .ref v0, .int (nI sc), .ref t0, .ref y0, .ref r0, .ref p0, .ref w0])), (l0, .inr (2, [.ref l1, .ref l2, .int (nI nr)])), (l1, .inr (0, [.ref l3])), (l3, .inl (ty 1, 4, .inr (.inl (zM T)))), (l2, .inl (ty 0, 18, .inl (eR q))), (p0, .inr (2, [.ref p1, .ref p2, .int (nI ((nr - 1)))])), (p1, .inr (0, [.ref p3])), (p3, .inl (ty 1, 4, .inr (.inl (zM T)))), (p2, .inl (ty 0, 18, .inl (eR (dRi q r 15)))), (r0, .inr (3, [.ref a0, .ref b0, .int (nI (zRd Z)), .int (nI (zMt Z)), .int (nI (zDr Z)), .ref c0, .ref d0, .ref e0, .ref f0])), (a0, .inr (0, [.ref a1])), (a1, .inl (ty 1, 4, .inr (.inl (zM (zF Z))))), (w0, .inr (3, [.ref g0, .ref h0, .int (nI (zRd (fnd (dRi q r 15) (nr - 1) T (zSz Z2)))), .int (nI (zMt (fnd (dRi q r 15) (nr - 1) T (zSz Z2)))), .int (nI (zDr (fnd (dRi q r 15) (nr - 1) T (zSz Z2)))), .ref i0, .ref m0, .ref n0, .ref o0])), (g0, .inr (0, [.ref g1])), (g1, .inl (ty 1, 4, .inr (.inl (zM (zF (fnd (dRi q r 15) (nr - 1) T (zSz Z2))))))), (h0, .inr (0, [.ref h1])), (h1, .inl (ty 1, 4, .inr (.inl (zM (foll (zF (fnd (dRi q r 15) (nr - 1) T (zSz Z2)))))))), (i0, .inr (0, [.ref i1])), (i1, .inl (ty 1, 4, .inr (.inl (zM U91)))), (m0, .inl (ty 0, 256, .inl (zRo (fnd (dRi q r 15) (nr - 1) T (zSz Z2))))), (n0, .inl (ty 0, 256, .inl (zRu (fnd (dRi q r 15) (nr - 1) T (zSz Z2))))), (o0, .inl (ty 0, 105, .inl (zSz (fnd (dRi q r 15) (nr - 1) T (zSz Z2)))))] [0, 1, 2, 3, 4, 18, 19, 20, 21, 5, 6, 7, 8, 9, 10, 11, 12, 13, 14, 15, 16, 17] rfl rfl rfl ?_
        refine g_iload_n C 2 rfl dX7_without_70 ?_
        rcases (show w = 0 ∨ w = 1 ∨ w = 2 by omega) with hs | hs | hs
        · skip
          refine g_lsw C (off := 25) (nI 0) (by rw [hs]) 96 dX7_without_71 (by decide +kernel) (by decide +kernel) rfl ?_
          refine g_aload_n C 0 rfl dX7_without_96 ?_
          refine g_getf C wu_X7 0 rfl rfl 7 (by decide) wf_X7_44 rfl rfl dX7_without_97 ?_
          refine g_getf C wu_X5 12 rfl rfl 0 (by decide) wf_X7_121 rfl rfl dX7_without_100 ?_
          refine g_callV C (nA := 0) (ci := 0) (q0 := 0) (As := []) (wr := [(x0, .inr (5, [.ref l0, .ref v0, .int (nI sc), .ref t0, .ref y0, .ref r0, .ref p0, .ref w0])), (l0, .inr (2, [.ref l1, .ref l2, .int (nI nr)])), (l1, .inr (0, [.ref l3])), (l3, .inl (ty 1, 4, .inr (.inl (zM T)))), (l2, .inl (ty 0, 18, .inl (eR q))), (p0, .inr (2, [.ref p1, .ref p2, .int (nI ((nr - 1)))])), (p1, .inr (0, [.ref p3])), (p3, .inl (ty 1, 4, .inr (.inl (zM T)))), (p2, .inl (ty 0, 18, .inl (eR (dRi q r 15)))), (r0, .inr (3, [.ref a0, .ref b0, .int (nI (zRd Z)), .int (nI (zMt Z)), .int (nI (zDr Z)), .ref c0, .ref d0, .ref e0, .ref f0])), (a0, .inr (0, [.ref a1])), (a1, .inl (ty 1, 4, .inr (.inl (zM (zF Z))))), (w0, .inr (3, [.ref g0, .ref h0, .int (nI (zRd (fnd (dRi q r 15) (nr - 1) T (zSz Z2)))), .int (nI (zMt (fnd (dRi q r 15) (nr - 1) T (zSz Z2)))), .int (nI (zDr (fnd (dRi q r 15) (nr - 1) T (zSz Z2)))), .ref i0, .ref m0, .ref n0, .ref o0])), (h0, .inr (0, [.ref h1])), (h1, .inl (ty 1, 4, .inr (.inl (zM (foll (zF (fnd (dRi q r 15) (nr - 1) T (zSz Z2)))))))), (i0, .inr (0, [.ref i1])), (i1, .inl (ty 1, 4, .inr (.inl (zM U91)))), (m0, .inl (ty 0, 256, .inl (zRo (fnd (dRi q r 15) (nr - 1) T (zSz Z2))))), (n0, .inl (ty 0, 256, .inl (zRu (fnd (dRi q r 15) (nr - 1) T (zSz Z2))))), (o0, .inl (ty 0, 105, .inl (zSz (fnd (dRi q r 15) (nr - 1) T (zSz Z2)))))]) (k_X2_size l D ty g0 g1 (zF (fnd (dRi q r 15) (nr - 1) T (zSz Z2))) ) wm_X7_74 wn_X2_size wv_X2_size wi_X2 wc_X2_size rfl (by decide +kernel) ⟨(Nat.le_of_ble_eq_true rfl), (Nat.le_of_ble_eq_true rfl)⟩ ⟨rfl, rfl⟩ dX7_without_103 ⟨Nat.zero_le _, Nat.zero_le _⟩ rfl rfl rfl [13, 14] [0, 1, 2, 3, 4, 5, 6, 7, 8, 9, 10, 11, 12, 15, 16, 17, 18, 19, 20, 21] rfl rfl rfl rfl (by decide) (Nat.le_of_ble_eq_true rfl) rfl (fun r W1 hp => ?_)
          obtain ⟨rfl, rfl⟩ := hp
          refine g_fix [.int (nI (zcnt (zF (fnd (dRi q r 15) (nr - 1) T (zSz Z2))) 256))] [(x0, .inr (5, [.ref l0, .ref v0, .int (nI sc), .ref t0, .ref y0, .ref r0, .ref p0, .ref w0])), (l0, .inr (2, [.ref l1, .ref l2, .int (nI nr)])), (l1, .inr (0, [.ref l3])), (l3, .inl (ty 1, 4, .inr (.inl (zM T)))), (l2, .inl (ty 0, 18, .inl (eR q))), (p0, .inr (2, [.ref p1, .ref p2, .int (nI ((nr - 1)))])), (p1, .inr (0, [.ref p3])), (p3, .inl (ty 1, 4, .inr (.inl (zM T)))), (p2, .inl (ty 0, 18, .inl (eR (dRi q r 15)))), (r0, .inr (3, [.ref a0, .ref b0, .int (nI (zRd Z)), .int (nI (zMt Z)), .int (nI (zDr Z)), .ref c0, .ref d0, .ref e0, .ref f0])), (a0, .inr (0, [.ref a1])), (a1, .inl (ty 1, 4, .inr (.inl (zM (zF Z))))), (w0, .inr (3, [.ref g0, .ref h0, .int (nI (zRd (fnd (dRi q r 15) (nr - 1) T (zSz Z2)))), .int (nI (zMt (fnd (dRi q r 15) (nr - 1) T (zSz Z2)))), .int (nI (zDr (fnd (dRi q r 15) (nr - 1) T (zSz Z2)))), .ref i0, .ref m0, .ref n0, .ref o0])), (g0, .inr (0, [.ref g1])), (g1, .inl (ty 1, 4, .inr (.inl (zM (zF (fnd (dRi q r 15) (nr - 1) T (zSz Z2))))))), (h0, .inr (0, [.ref h1])), (h1, .inl (ty 1, 4, .inr (.inl (zM (foll (zF (fnd (dRi q r 15) (nr - 1) T (zSz Z2)))))))), (i0, .inr (0, [.ref i1])), (i1, .inl (ty 1, 4, .inr (.inl (zM U91)))), (m0, .inl (ty 0, 256, .inl (zRo (fnd (dRi q r 15) (nr - 1) T (zSz Z2))))), (n0, .inl (ty 0, 256, .inl (zRu (fnd (dRi q r 15) (nr - 1) T (zSz Z2))))), (o0, .inl (ty 0, 105, .inl (zSz (fnd (dRi q r 15) (nr - 1) T (zSz Z2)))))] [0, 1, 2, 3, 4, 5, 6, 7, 8, 9, 10, 11, 12, 20, 21, 13, 14, 15, 16, 17, 18, 19] rfl rfl rfl ?_
          exact g_iret E dX7_without_106 (by decide) (by decide) ⟨(T, dRi q r 15, nr - 1), (fnd (dRi q r 15) (nr - 1) T (zSz Z2)), U91, (congrArg (fun z => some (Value.int z)) (by rw [wiA, hs, fnd_F]; rfl)), rfl⟩
        · skip
          refine g_lsw C (off := 36) (nI 1) (by rw [hs]) 107 dX7_without_71 (by decide +kernel) (by decide +kernel) rfl ?_
          refine g_aload_n C 0 rfl dX7_without_107 ?_
          refine g_getf C wu_X7 0 rfl rfl 7 (by decide) wf_X7_44 rfl rfl dX7_without_108 ?_
          refine g_getf C wu_X5 12 rfl rfl 2 (by decide) wf_X7_193 rfl rfl dX7_without_111 ?_
          exact g_iret E dX7_without_114 (by decide) (by decide) ⟨(T, dRi q r 15, nr - 1), (fnd (dRi q r 15) (nr - 1) T (zSz Z2)), U91, (congrArg (fun z => some (Value.int z)) (by rw [wiA, hs, fnd_rd]; rfl)), rfl⟩
        · skip
          refine g_lsw C (off := 44) (nI 2) (by rw [hs]) 115 dX7_without_71 (by decide +kernel) (by decide +kernel) rfl ?_
          refine g_aload_n C 0 rfl dX7_without_115 ?_
          refine g_getf C wu_X7 0 rfl rfl 5 (by decide) wf_X7_37 rfl rfl dX7_without_116 ?_
          refine g_getf C wu_X5 9 rfl rfl 0 (by decide) wf_X7_121 rfl rfl dX7_without_119 ?_
          refine g_callV C (nA := 0) (ci := 0) (q0 := 0) (As := []) (wr := [(x0, .inr (5, [.ref l0, .ref v0, .int (nI sc), .ref t0, .ref y0, .ref r0, .ref p0, .ref w0])), (l0, .inr (2, [.ref l1, .ref l2, .int (nI nr)])), (l1, .inr (0, [.ref l3])), (l3, .inl (ty 1, 4, .inr (.inl (zM T)))), (l2, .inl (ty 0, 18, .inl (eR q))), (p0, .inr (2, [.ref p1, .ref p2, .int (nI ((nr - 1)))])), (p1, .inr (0, [.ref p3])), (p3, .inl (ty 1, 4, .inr (.inl (zM T)))), (p2, .inl (ty 0, 18, .inl (eR (dRi q r 15)))), (r0, .inr (3, [.ref a0, .ref b0, .int (nI (zRd Z)), .int (nI (zMt Z)), .int (nI (zDr Z)), .ref c0, .ref d0, .ref e0, .ref f0])), (w0, .inr (3, [.ref g0, .ref h0, .int (nI (zRd (fnd (dRi q r 15) (nr - 1) T (zSz Z2)))), .int (nI (zMt (fnd (dRi q r 15) (nr - 1) T (zSz Z2)))), .int (nI (zDr (fnd (dRi q r 15) (nr - 1) T (zSz Z2)))), .ref i0, .ref m0, .ref n0, .ref o0])), (g0, .inr (0, [.ref g1])), (g1, .inl (ty 1, 4, .inr (.inl (zM (zF (fnd (dRi q r 15) (nr - 1) T (zSz Z2))))))), (h0, .inr (0, [.ref h1])), (h1, .inl (ty 1, 4, .inr (.inl (zM (foll (zF (fnd (dRi q r 15) (nr - 1) T (zSz Z2)))))))), (i0, .inr (0, [.ref i1])), (i1, .inl (ty 1, 4, .inr (.inl (zM U91)))), (m0, .inl (ty 0, 256, .inl (zRo (fnd (dRi q r 15) (nr - 1) T (zSz Z2))))), (n0, .inl (ty 0, 256, .inl (zRu (fnd (dRi q r 15) (nr - 1) T (zSz Z2))))), (o0, .inl (ty 0, 105, .inl (zSz (fnd (dRi q r 15) (nr - 1) T (zSz Z2)))))]) (k_X2_instanceCount l D ty a0 a1 (zF Z) ) wm_X7_202 wn_X2_instanceCount wv_X2_instanceCount wi_X2 wc_X2_instanceCount rfl (by decide +kernel) ⟨(Nat.le_of_ble_eq_true rfl), (Nat.le_of_ble_eq_true rfl)⟩ ⟨rfl, rfl⟩ dX7_without_122 ⟨Nat.zero_le _, Nat.zero_le _⟩ rfl rfl rfl [10, 11] [0, 1, 2, 3, 4, 5, 6, 7, 8, 9, 12, 13, 14, 15, 16, 17, 18, 19, 20, 21] rfl rfl rfl rfl (by decide) (Nat.le_of_ble_eq_true rfl) rfl (fun r W1 hp => ?_)
          obtain ⟨rfl, rfl⟩ := hp
          refine g_fix [.int (nI (insU (zF Z) 4))] [(x0, .inr (5, [.ref l0, .ref v0, .int (nI sc), .ref t0, .ref y0, .ref r0, .ref p0, .ref w0])), (l0, .inr (2, [.ref l1, .ref l2, .int (nI nr)])), (l1, .inr (0, [.ref l3])), (l3, .inl (ty 1, 4, .inr (.inl (zM T)))), (l2, .inl (ty 0, 18, .inl (eR q))), (p0, .inr (2, [.ref p1, .ref p2, .int (nI ((nr - 1)))])), (p1, .inr (0, [.ref p3])), (p3, .inl (ty 1, 4, .inr (.inl (zM T)))), (p2, .inl (ty 0, 18, .inl (eR (dRi q r 15)))), (r0, .inr (3, [.ref a0, .ref b0, .int (nI (zRd Z)), .int (nI (zMt Z)), .int (nI (zDr Z)), .ref c0, .ref d0, .ref e0, .ref f0])), (a0, .inr (0, [.ref a1])), (a1, .inl (ty 1, 4, .inr (.inl (zM (zF Z))))), (w0, .inr (3, [.ref g0, .ref h0, .int (nI (zRd (fnd (dRi q r 15) (nr - 1) T (zSz Z2)))), .int (nI (zMt (fnd (dRi q r 15) (nr - 1) T (zSz Z2)))), .int (nI (zDr (fnd (dRi q r 15) (nr - 1) T (zSz Z2)))), .ref i0, .ref m0, .ref n0, .ref o0])), (g0, .inr (0, [.ref g1])), (g1, .inl (ty 1, 4, .inr (.inl (zM (zF (fnd (dRi q r 15) (nr - 1) T (zSz Z2))))))), (h0, .inr (0, [.ref h1])), (h1, .inl (ty 1, 4, .inr (.inl (zM (foll (zF (fnd (dRi q r 15) (nr - 1) T (zSz Z2)))))))), (i0, .inr (0, [.ref i1])), (i1, .inl (ty 1, 4, .inr (.inl (zM U91)))), (m0, .inl (ty 0, 256, .inl (zRo (fnd (dRi q r 15) (nr - 1) T (zSz Z2))))), (n0, .inl (ty 0, 256, .inl (zRu (fnd (dRi q r 15) (nr - 1) T (zSz Z2))))), (o0, .inl (ty 0, 105, .inl (zSz (fnd (dRi q r 15) (nr - 1) T (zSz Z2)))))] [0, 1, 2, 3, 4, 5, 6, 7, 8, 9, 20, 21, 10, 11, 12, 13, 14, 15, 16, 17, 18, 19] rfl rfl rfl ?_
          refine g_aload_n C 0 rfl dX7_without_125 ?_
          refine g_getf C wu_X7 0 rfl rfl 7 (by decide) wf_X7_44 rfl rfl dX7_without_126 ?_
          refine g_getf C wu_X5 12 rfl rfl 0 (by decide) wf_X7_121 rfl rfl dX7_without_129 ?_
          refine g_callV C (nA := 0) (ci := 0) (q0 := 0) (As := []) (wr := [(x0, .inr (5, [.ref l0, .ref v0, .int (nI sc), .ref t0, .ref y0, .ref r0, .ref p0, .ref w0])), (l0, .inr (2, [.ref l1, .ref l2, .int (nI nr)])), (l1, .inr (0, [.ref l3])), (l3, .inl (ty 1, 4, .inr (.inl (zM T)))), (l2, .inl (ty 0, 18, .inl (eR q))), (p0, .inr (2, [.ref p1, .ref p2, .int (nI ((nr - 1)))])), (p1, .inr (0, [.ref p3])), (p3, .inl (ty 1, 4, .inr (.inl (zM T)))), (p2, .inl (ty 0, 18, .inl (eR (dRi q r 15)))), (r0, .inr (3, [.ref a0, .ref b0, .int (nI (zRd Z)), .int (nI (zMt Z)), .int (nI (zDr Z)), .ref c0, .ref d0, .ref e0, .ref f0])), (a0, .inr (0, [.ref a1])), (a1, .inl (ty 1, 4, .inr (.inl (zM (zF Z))))), (w0, .inr (3, [.ref g0, .ref h0, .int (nI (zRd (fnd (dRi q r 15) (nr - 1) T (zSz Z2)))), .int (nI (zMt (fnd (dRi q r 15) (nr - 1) T (zSz Z2)))), .int (nI (zDr (fnd (dRi q r 15) (nr - 1) T (zSz Z2)))), .ref i0, .ref m0, .ref n0, .ref o0])), (h0, .inr (0, [.ref h1])), (h1, .inl (ty 1, 4, .inr (.inl (zM (foll (zF (fnd (dRi q r 15) (nr - 1) T (zSz Z2)))))))), (i0, .inr (0, [.ref i1])), (i1, .inl (ty 1, 4, .inr (.inl (zM U91)))), (m0, .inl (ty 0, 256, .inl (zRo (fnd (dRi q r 15) (nr - 1) T (zSz Z2))))), (n0, .inl (ty 0, 256, .inl (zRu (fnd (dRi q r 15) (nr - 1) T (zSz Z2))))), (o0, .inl (ty 0, 105, .inl (zSz (fnd (dRi q r 15) (nr - 1) T (zSz Z2)))))]) (k_X2_instanceCount l D ty g0 g1 (zF (fnd (dRi q r 15) (nr - 1) T (zSz Z2))) ) wm_X7_202 wn_X2_instanceCount wv_X2_instanceCount wi_X2 wc_X2_instanceCount rfl (by decide +kernel) ⟨(Nat.le_of_ble_eq_true rfl), (Nat.le_of_ble_eq_true rfl)⟩ ⟨rfl, rfl⟩ dX7_without_132 ⟨Nat.zero_le _, Nat.zero_le _⟩ rfl rfl rfl [13, 14] [0, 1, 2, 3, 4, 5, 6, 7, 8, 9, 10, 11, 12, 15, 16, 17, 18, 19, 20, 21] rfl rfl rfl rfl (by decide) (Nat.le_of_ble_eq_true rfl) rfl (fun r W1 hp => ?_)
          obtain ⟨rfl, rfl⟩ := hp
          refine g_fix [.int (nI (insU (zF (fnd (dRi q r 15) (nr - 1) T (zSz Z2))) 4)), .int (nI (insU (zF Z) 4))] [(x0, .inr (5, [.ref l0, .ref v0, .int (nI sc), .ref t0, .ref y0, .ref r0, .ref p0, .ref w0])), (l0, .inr (2, [.ref l1, .ref l2, .int (nI nr)])), (l1, .inr (0, [.ref l3])), (l3, .inl (ty 1, 4, .inr (.inl (zM T)))), (l2, .inl (ty 0, 18, .inl (eR q))), (p0, .inr (2, [.ref p1, .ref p2, .int (nI ((nr - 1)))])), (p1, .inr (0, [.ref p3])), (p3, .inl (ty 1, 4, .inr (.inl (zM T)))), (p2, .inl (ty 0, 18, .inl (eR (dRi q r 15)))), (r0, .inr (3, [.ref a0, .ref b0, .int (nI (zRd Z)), .int (nI (zMt Z)), .int (nI (zDr Z)), .ref c0, .ref d0, .ref e0, .ref f0])), (a0, .inr (0, [.ref a1])), (a1, .inl (ty 1, 4, .inr (.inl (zM (zF Z))))), (w0, .inr (3, [.ref g0, .ref h0, .int (nI (zRd (fnd (dRi q r 15) (nr - 1) T (zSz Z2)))), .int (nI (zMt (fnd (dRi q r 15) (nr - 1) T (zSz Z2)))), .int (nI (zDr (fnd (dRi q r 15) (nr - 1) T (zSz Z2)))), .ref i0, .ref m0, .ref n0, .ref o0])), (g0, .inr (0, [.ref g1])), (g1, .inl (ty 1, 4, .inr (.inl (zM (zF (fnd (dRi q r 15) (nr - 1) T (zSz Z2))))))), (h0, .inr (0, [.ref h1])), (h1, .inl (ty 1, 4, .inr (.inl (zM (foll (zF (fnd (dRi q r 15) (nr - 1) T (zSz Z2)))))))), (i0, .inr (0, [.ref i1])), (i1, .inl (ty 1, 4, .inr (.inl (zM U91)))), (m0, .inl (ty 0, 256, .inl (zRo (fnd (dRi q r 15) (nr - 1) T (zSz Z2))))), (n0, .inl (ty 0, 256, .inl (zRu (fnd (dRi q r 15) (nr - 1) T (zSz Z2))))), (o0, .inl (ty 0, 105, .inl (zSz (fnd (dRi q r 15) (nr - 1) T (zSz Z2)))))] [0, 1, 2, 3, 4, 5, 6, 7, 8, 9, 10, 11, 12, 20, 21, 13, 14, 15, 16, 17, 18, 19] rfl rfl rfl ?_
          refine g_isub C (nI (insU (zF Z) 4) - nI (insU (zF (fnd (dRi q r 15) (nr - 1) T (zSz Z2))) 4)) dX7_without_135 rfl ?_
          exact g_iret E dX7_without_136 (by decide) (by decide) ⟨(T, dRi q r 15, nr - 1), (fnd (dRi q r 15) (nr - 1) T (zSz Z2)), U91, (congrArg (fun z => some (Value.int z)) (by rw [wiA, hs, fnd_F]; rfl)), rfl⟩
      · skip
        exact absurd c27 (by omega)
  · skip
    exact absurd c8 (by rw [hR_N (by omega) (by omega)]; simp; omega)
def r_X7_spare : Room := { frames := 5, cells := 0, slots := 0, locals := 132 }
set_option maxRecDepth 100000 in
set_option maxHeartbeats 4000000 in
theorem k_X7_spare (l : Launch) (D : va_G) (ty : Nat → ClassId) (x0 : Nat) (l0 : Nat) (v0 : Nat) (t0 : Nat) (y0 : Nat) (r0 : Nat) (p0 : Nat) (w0 : Nat) (l1 : Nat) (l2 : Nat) (l3 : Nat) (T : Nat → Bool) (q : Nat → Nat) (nr : Nat) (sc : Nat) (p1 : Nat) (p2 : Nat) (p3 : Nat) (P : LT) (g0 : Nat) (g1 : Nat) (h0 : Nat) (h1 : Nat) (i0 : Nat) (i1 : Nat) (m0 : Nat) (n0 : Nat) (o0 : Nat) (Z2 : ZT) (K2 : Nat → Bool) (k : Nat) (hk : k < 2 ^ 31) (hq : okQ q nr) (hT : okF T) : gM l D ty yX7_spare cX7_spare 3 (some (FieldType.int : FieldType)) r_X7_spare 0 0 [.ref x0, .int (nI k)] [(x0, .inr (5, [.ref l0, .ref v0, .int (nI sc), .ref t0, .ref y0, .ref r0, .ref p0, .ref w0])), (l0, .inr (2, [.ref l1, .ref l2, .int (nI nr)])), (l1, .inr (0, [.ref l3])), (l3, .inl (ty 1, 4, .inr (.inl (zM T)))), (l2, .inl (ty 0, 18, .inl (eR q))), (p0, .inr (2, [.ref p1, .ref p2, .int (nI (P.2.2))])), (p1, .inr (0, [.ref p3])), (p3, .inl (ty 1, 4, .inr (.inl (zM P.1)))), (p2, .inl (ty 0, 18, .inl (eR P.2.1))), (w0, .inr (3, [.ref g0, .ref h0, .int (nI (zRd Z2)), .int (nI (zMt Z2)), .int (nI (zDr Z2)), .ref i0, .ref m0, .ref n0, .ref o0])), (g0, .inr (0, [.ref g1])), (g1, .inl (ty 1, 4, .inr (.inl (zM (zF Z2))))), (h0, .inr (0, [.ref h1])), (h1, .inl (ty 1, 4, .inr (.inl (zM (foll (zF Z2)))))), (i0, .inr (0, [.ref i1])), (i1, .inl (ty 1, 4, .inr (.inl (zM K2)))), (m0, .inl (ty 0, 256, .inl (zRo Z2))), (n0, .inl (ty 0, 256, .inl (zRu Z2))), (o0, .inl (ty 0, 105, .inl (zSz Z2)))] (fun (zr : Option Value) (zW : va_W) => ∃ (P9 : LT) (Z9 : ZT) (K9 : Nat → Bool), zr = some (.int (spA q nr T k)) ∧ zW = [(x0, .inr (5, [.ref l0, .ref v0, .int (nI sc), .ref t0, .ref y0, .ref r0, .ref p0, .ref w0])), (l0, .inr (2, [.ref l1, .ref l2, .int (nI nr)])), (l1, .inr (0, [.ref l3])), (l3, .inl (ty 1, 4, .inr (.inl (zM T)))), (l2, .inl (ty 0, 18, .inl (eR q))), (p0, .inr (2, [.ref p1, .ref p2, .int (nI (P9.2.2))])), (p1, .inr (0, [.ref p3])), (p3, .inl (ty 1, 4, .inr (.inl (zM P9.1)))), (p2, .inl (ty 0, 18, .inl (eR P9.2.1))), (w0, .inr (3, [.ref g0, .ref h0, .int (nI (zRd Z9)), .int (nI (zMt Z9)), .int (nI (zDr Z9)), .ref i0, .ref m0, .ref n0, .ref o0])), (g0, .inr (0, [.ref g1])), (g1, .inl (ty 1, 4, .inr (.inl (zM (zF Z9))))), (h0, .inr (0, [.ref h1])), (h1, .inl (ty 1, 4, .inr (.inl (zM (foll (zF Z9)))))), (i0, .inr (0, [.ref i1])), (i1, .inl (ty 1, 4, .inr (.inl (zM K9)))), (m0, .inl (ty 0, 256, .inl (zRo Z9))), (n0, .inl (ty 0, 256, .inl (zRu Z9))), (o0, .inl (ty 0, 105, .inl (zSz Z9)))]) := by
  refine gM_of RX7 rfl (by decide +kernel) (Nat.le_of_ble_eq_true rfl) ?_
  intro pg en s0 mi ag bl mth cd AA HH QQ C E hnm
  show gW pg l en r_X7_spare s0 mi ag bl mth cd 3 D AA HH QQ 0 [(0, .ref x0), (1, .int (nI k))] [] [(x0, .inr (5, [.ref l0, .ref v0, .int (nI sc), .ref t0, .ref y0, .ref r0, .ref p0, .ref w0])), (l0, .inr (2, [.ref l1, .ref l2, .int (nI nr)])), (l1, .inr (0, [.ref l3])), (l3, .inl (ty 1, 4, .inr (.inl (zM T)))), (l2, .inl (ty 0, 18, .inl (eR q))), (p0, .inr (2, [.ref p1, .ref p2, .int (nI (P.2.2))])), (p1, .inr (0, [.ref p3])), (p3, .inl (ty 1, 4, .inr (.inl (zM P.1)))), (p2, .inl (ty 0, 18, .inl (eR P.2.1))), (w0, .inr (3, [.ref g0, .ref h0, .int (nI (zRd Z2)), .int (nI (zMt Z2)), .int (nI (zDr Z2)), .ref i0, .ref m0, .ref n0, .ref o0])), (g0, .inr (0, [.ref g1])), (g1, .inl (ty 1, 4, .inr (.inl (zM (zF Z2))))), (h0, .inr (0, [.ref h1])), (h1, .inl (ty 1, 4, .inr (.inl (zM (foll (zF Z2)))))), (i0, .inr (0, [.ref i1])), (i1, .inl (ty 1, 4, .inr (.inl (zM K2)))), (m0, .inl (ty 0, 256, .inl (zRo Z2))), (n0, .inl (ty 0, 256, .inl (zRu Z2))), (o0, .inl (ty 0, 105, .inl (zSz Z2)))] 0 0
  refine g_iload_n C 1 rfl dX7_spare_0 ?_
  refine g_if_ge C 14 dX7_spare_1 rfl (fun c1 => ?_) (fun c1 => ?_)
  · skip
    refine g_aload_n C 0 rfl dX7_spare_14 ?_
    refine g_getf C wu_X7 0 rfl rfl 0 (by decide) wf_X7_10 rfl rfl dX7_spare_15 ?_
    refine g_getf C wu_X4 1 rfl rfl 0 (by decide) wf_X7_64 rfl rfl dX7_spare_18 ?_
    refine g_iload_n C 1 rfl dX7_spare_21 ?_
    refine g_callV C (nA := 1) (ci := 0) (q0 := 0) (As := [.int (nI k)]) (wr := [(x0, .inr (5, [.ref l0, .ref v0, .int (nI sc), .ref t0, .ref y0, .ref r0, .ref p0, .ref w0])), (l0, .inr (2, [.ref l1, .ref l2, .int (nI nr)])), (l2, .inl (ty 0, 18, .inl (eR q))), (p0, .inr (2, [.ref p1, .ref p2, .int (nI (P.2.2))])), (p1, .inr (0, [.ref p3])), (p3, .inl (ty 1, 4, .inr (.inl (zM P.1)))), (p2, .inl (ty 0, 18, .inl (eR P.2.1))), (w0, .inr (3, [.ref g0, .ref h0, .int (nI (zRd Z2)), .int (nI (zMt Z2)), .int (nI (zDr Z2)), .ref i0, .ref m0, .ref n0, .ref o0])), (g0, .inr (0, [.ref g1])), (g1, .inl (ty 1, 4, .inr (.inl (zM (zF Z2))))), (h0, .inr (0, [.ref h1])), (h1, .inl (ty 1, 4, .inr (.inl (zM (foll (zF Z2)))))), (i0, .inr (0, [.ref i1])), (i1, .inl (ty 1, 4, .inr (.inl (zM K2)))), (m0, .inl (ty 0, 256, .inl (zRo Z2))), (n0, .inl (ty 0, 256, .inl (zRu Z2))), (o0, .inl (ty 0, 105, .inl (zSz Z2)))]) (k_X2_at l D ty l1 l3 T k (by omega)) wm_X7_165 wn_X2_at wv_X2_at wi_X2 wc_X2_at rfl (by decide +kernel) ⟨(Nat.le_of_ble_eq_true rfl), (Nat.le_of_ble_eq_true rfl)⟩ ⟨rfl, rfl⟩ dX7_spare_22 ⟨Nat.zero_le _, Nat.zero_le _⟩ rfl rfl rfl [2, 3] [0, 1, 4, 5, 6, 7, 8, 9, 10, 11, 12, 13, 14, 15, 16, 17, 18] rfl rfl rfl rfl (by decide) (Nat.le_of_ble_eq_true rfl) rfl (fun r W1 hp => ?_)
    obtain ⟨rfl, rfl⟩ := hp
    refine g_fix [.int (eO (nth T k 256))] [(x0, .inr (5, [.ref l0, .ref v0, .int (nI sc), .ref t0, .ref y0, .ref r0, .ref p0, .ref w0])), (l0, .inr (2, [.ref l1, .ref l2, .int (nI nr)])), (l1, .inr (0, [.ref l3])), (l3, .inl (ty 1, 4, .inr (.inl (zM T)))), (l2, .inl (ty 0, 18, .inl (eR q))), (p0, .inr (2, [.ref p1, .ref p2, .int (nI (P.2.2))])), (p1, .inr (0, [.ref p3])), (p3, .inl (ty 1, 4, .inr (.inl (zM P.1)))), (p2, .inl (ty 0, 18, .inl (eR P.2.1))), (w0, .inr (3, [.ref g0, .ref h0, .int (nI (zRd Z2)), .int (nI (zMt Z2)), .int (nI (zDr Z2)), .ref i0, .ref m0, .ref n0, .ref o0])), (g0, .inr (0, [.ref g1])), (g1, .inl (ty 1, 4, .inr (.inl (zM (zF Z2))))), (h0, .inr (0, [.ref h1])), (h1, .inl (ty 1, 4, .inr (.inl (zM (foll (zF Z2)))))), (i0, .inr (0, [.ref i1])), (i1, .inl (ty 1, 4, .inr (.inl (zM K2)))), (m0, .inl (ty 0, 256, .inl (zRo Z2))), (n0, .inl (ty 0, 256, .inl (zRu Z2))), (o0, .inl (ty 0, 105, .inl (zSz Z2)))] [0, 1, 17, 18, 2, 3, 4, 5, 6, 7, 8, 9, 10, 11, 12, 13, 14, 15, 16] rfl rfl rfl ?_
    rcases hn : nth T k 256 with _ | a
    · skip
      refine g_st [.int (-1)] rfl ?_
      refine g_istore_n C [(2, .int (-1)), (0, .ref x0), (1, .int (nI k))] dX7_spare_25 rfl (by decide) rfl ?_
      refine g_iload_n C 0 rfl dX7_spare_26 ?_
      refine g_iconst C (-1) ic_m1 dX7_spare_27 ?_
      refine g_icmp_ne C 33 dX7_spare_28 rfl (fun c28 => ?_) (fun c28 => ?_)
      · skip
        exact absurd rfl c28
      · skip
        refine g_iconst C (-1) ic_m1 dX7_spare_31 ?_
        exact g_iret E dX7_spare_32 (by decide) (by decide) ⟨P, Z2, K2, (by rw [spA_n hn]), rfl⟩
    · skip
      have ha := (nth_sp hn).1
      refine g_st [.int (nI a)] rfl ?_
      refine g_istore_n C [(2, .int (nI a)), (0, .ref x0), (1, .int (nI k))] dX7_spare_25 rfl (by decide) rfl ?_
      refine g_iload_n C 0 rfl dX7_spare_26 ?_
      refine g_iconst C (-1) ic_m1 dX7_spare_27 ?_
      refine g_icmp_ne C 33 dX7_spare_28 rfl (fun c28 => ?_) (fun c28 => ?_)
      · skip
        refine g_aload_n C 1 rfl dX7_spare_33 ?_
        refine g_getf C wu_X7 0 rfl rfl 6 (by decide) wf_X7_41 rfl rfl dX7_spare_34 ?_
        refine g_aload_n C 1 rfl dX7_spare_37 ?_
        refine g_getf C wu_X7 0 rfl rfl 0 (by decide) wf_X7_10 rfl rfl dX7_spare_38 ?_
        refine g_callV C (nA := 1) (ci := 2) (q0 := 0) (As := [.ref l0]) (wr := [(x0, .inr (5, [.ref l0, .ref v0, .int (nI sc), .ref t0, .ref y0, .ref r0, .ref p0, .ref w0])), (w0, .inr (3, [.ref g0, .ref h0, .int (nI (zRd Z2)), .int (nI (zMt Z2)), .int (nI (zDr Z2)), .ref i0, .ref m0, .ref n0, .ref o0])), (g0, .inr (0, [.ref g1])), (g1, .inl (ty 1, 4, .inr (.inl (zM (zF Z2))))), (h0, .inr (0, [.ref h1])), (h1, .inl (ty 1, 4, .inr (.inl (zM (foll (zF Z2)))))), (i0, .inr (0, [.ref i1])), (i1, .inl (ty 1, 4, .inr (.inl (zM K2)))), (m0, .inl (ty 0, 256, .inl (zRo Z2))), (n0, .inl (ty 0, 256, .inl (zRu Z2))), (o0, .inl (ty 0, 105, .inl (zSz Z2)))]) (k_X4_copyOf l D ty p0 p1 p2 p3 P.1 P.2.1 P.2.2 l0 l1 l2 l3 T q nr ) wm_X7_149 wn_X4_copyOf wv_X4_copyOf wi_X4 wc_X4_copyOf rfl (by decide +kernel) ⟨(Nat.le_of_ble_eq_true rfl), (Nat.le_of_ble_eq_true rfl)⟩ ⟨rfl, rfl⟩ dX7_spare_41 ⟨Nat.zero_le _, Nat.zero_le _⟩ rfl rfl rfl [5, 6, 7, 8, 1, 2, 3, 4] [0, 9, 10, 11, 12, 13, 14, 15, 16, 17, 18] rfl rfl rfl rfl (by decide) (Nat.le_of_ble_eq_true rfl) rfl (fun r W1 hp => ?_)
        obtain ⟨rfl, rfl⟩ := hp
        refine g_fix [] [(x0, .inr (5, [.ref l0, .ref v0, .int (nI sc), .ref t0, .ref y0, .ref r0, .ref p0, .ref w0])), (l0, .inr (2, [.ref l1, .ref l2, .int (nI nr)])), (l1, .inr (0, [.ref l3])), (l3, .inl (ty 1, 4, .inr (.inl (zM T)))), (l2, .inl (ty 0, 18, .inl (eR q))), (p0, .inr (2, [.ref p1, .ref p2, .int (nI nr)])), (p1, .inr (0, [.ref p3])), (p3, .inl (ty 1, 4, .inr (.inl (zM T)))), (p2, .inl (ty 0, 18, .inl (eR q))), (w0, .inr (3, [.ref g0, .ref h0, .int (nI (zRd Z2)), .int (nI (zMt Z2)), .int (nI (zDr Z2)), .ref i0, .ref m0, .ref n0, .ref o0])), (g0, .inr (0, [.ref g1])), (g1, .inl (ty 1, 4, .inr (.inl (zM (zF Z2))))), (h0, .inr (0, [.ref h1])), (h1, .inl (ty 1, 4, .inr (.inl (zM (foll (zF Z2)))))), (i0, .inr (0, [.ref i1])), (i1, .inl (ty 1, 4, .inr (.inl (zM K2)))), (m0, .inl (ty 0, 256, .inl (zRo Z2))), (n0, .inl (ty 0, 256, .inl (zRu Z2))), (o0, .inl (ty 0, 105, .inl (zSz Z2)))] [0, 15, 16, 17, 18, 11, 12, 13, 14, 1, 2, 3, 4, 5, 6, 7, 8, 9, 10] rfl rfl rfl ?_
        refine g_aload_n C 1 rfl dX7_spare_44 ?_
        refine g_getf C wu_X7 0 rfl rfl 6 (by decide) wf_X7_41 rfl rfl dX7_spare_45 ?_
        refine g_getf C wu_X4 5 rfl rfl 0 (by decide) wf_X7_64 rfl rfl dX7_spare_48 ?_
        refine g_iload_n C 0 rfl dX7_spare_51 ?_
        refine g_callV C (nA := 1) (ci := 0) (q0 := 0) (As := [.int (nI a)]) (wr := [(x0, .inr (5, [.ref l0, .ref v0, .int (nI sc), .ref t0, .ref y0, .ref r0, .ref p0, .ref w0])), (l0, .inr (2, [.ref l1, .ref l2, .int (nI nr)])), (l1, .inr (0, [.ref l3])), (l3, .inl (ty 1, 4, .inr (.inl (zM T)))), (l2, .inl (ty 0, 18, .inl (eR q))), (p0, .inr (2, [.ref p1, .ref p2, .int (nI nr)])), (p2, .inl (ty 0, 18, .inl (eR q))), (w0, .inr (3, [.ref g0, .ref h0, .int (nI (zRd Z2)), .int (nI (zMt Z2)), .int (nI (zDr Z2)), .ref i0, .ref m0, .ref n0, .ref o0])), (g0, .inr (0, [.ref g1])), (g1, .inl (ty 1, 4, .inr (.inl (zM (zF Z2))))), (h0, .inr (0, [.ref h1])), (h1, .inl (ty 1, 4, .inr (.inl (zM (foll (zF Z2)))))), (i0, .inr (0, [.ref i1])), (i1, .inl (ty 1, 4, .inr (.inl (zM K2)))), (m0, .inl (ty 0, 256, .inl (zRo Z2))), (n0, .inl (ty 0, 256, .inl (zRu Z2))), (o0, .inl (ty 0, 105, .inl (zSz Z2)))]) (k_X2_take l D ty p1 p3 T a (by omega)) wm_X7_94 wn_X2_take wv_X2_take wi_X2 wc_X2_take rfl (by decide +kernel) ⟨(Nat.le_of_ble_eq_true rfl), (Nat.le_of_ble_eq_true rfl)⟩ ⟨rfl, rfl⟩ dX7_spare_52 ⟨Nat.zero_le _, Nat.zero_le _⟩ rfl rfl rfl [6, 7] [0, 1, 2, 3, 4, 5, 8, 9, 10, 11, 12, 13, 14, 15, 16, 17, 18] rfl rfl rfl rfl (by decide) (Nat.le_of_ble_eq_true rfl) rfl (fun r W1 hp => ?_)
        obtain ⟨rfl, rfl⟩ := hp
        refine g_fix [] [(x0, .inr (5, [.ref l0, .ref v0, .int (nI sc), .ref t0, .ref y0, .ref r0, .ref p0, .ref w0])), (l0, .inr (2, [.ref l1, .ref l2, .int (nI nr)])), (l1, .inr (0, [.ref l3])), (l3, .inl (ty 1, 4, .inr (.inl (zM T)))), (l2, .inl (ty 0, 18, .inl (eR q))), (p0, .inr (2, [.ref p1, .ref p2, .int (nI nr)])), (p1, .inr (0, [.ref p3])), (p3, .inl (ty 1, 4, .inr (.inl (zM (zTake T a))))), (p2, .inl (ty 0, 18, .inl (eR q))), (w0, .inr (3, [.ref g0, .ref h0, .int (nI (zRd Z2)), .int (nI (zMt Z2)), .int (nI (zDr Z2)), .ref i0, .ref m0, .ref n0, .ref o0])), (g0, .inr (0, [.ref g1])), (g1, .inl (ty 1, 4, .inr (.inl (zM (zF Z2))))), (h0, .inr (0, [.ref h1])), (h1, .inl (ty 1, 4, .inr (.inl (zM (foll (zF Z2)))))), (i0, .inr (0, [.ref i1])), (i1, .inl (ty 1, 4, .inr (.inl (zM K2)))), (m0, .inl (ty 0, 256, .inl (zRo Z2))), (n0, .inl (ty 0, 256, .inl (zRu Z2))), (o0, .inl (ty 0, 105, .inl (zSz Z2)))] [0, 1, 2, 3, 4, 5, 17, 18, 6, 7, 8, 9, 10, 11, 12, 13, 14, 15, 16] rfl rfl rfl ?_
        refine g_aload_n C 1 rfl dX7_spare_55 ?_
        refine g_getf C wu_X7 0 rfl rfl 7 (by decide) wf_X7_44 rfl rfl dX7_spare_56 ?_
        refine g_aload_n C 1 rfl dX7_spare_59 ?_
        refine g_getf C wu_X7 0 rfl rfl 6 (by decide) wf_X7_41 rfl rfl dX7_spare_60 ?_
        refine g_callV C (nA := 1) (ci := 3) (q0 := 0) (As := [.ref p0]) (wr := [(x0, .inr (5, [.ref l0, .ref v0, .int (nI sc), .ref t0, .ref y0, .ref r0, .ref p0, .ref w0])), (l0, .inr (2, [.ref l1, .ref l2, .int (nI nr)])), (l1, .inr (0, [.ref l3])), (l3, .inl (ty 1, 4, .inr (.inl (zM T)))), (l2, .inl (ty 0, 18, .inl (eR q)))]) (k_X5_run l D ty w0 g0 g1 h0 h1 i0 i1 m0 n0 o0 p0 p1 p2 p3 (zF Z2) (foll (zF Z2)) K2 (zRd Z2) (zMt Z2) (zDr Z2) (zRo Z2) (zRu Z2) (zSz Z2) (zTake T a) q nr (okF_take hT a) hq) wm_X7_90 wn_X5_run wv_X5_run wi_X5 wc_X5_run rfl (by decide +kernel) ⟨(Nat.le_of_ble_eq_true rfl), (Nat.le_of_ble_eq_true rfl)⟩ ⟨rfl, rfl⟩ dX7_spare_63 ⟨Nat.zero_le _, Nat.zero_le _⟩ rfl rfl rfl [9, 10, 11, 12, 13, 14, 15, 16, 17, 18, 5, 6, 7, 8] [0, 1, 2, 3, 4] rfl rfl rfl rfl (by decide) (Nat.le_of_ble_eq_true rfl) rfl (fun r W1 hp => ?_)
        obtain ⟨U91, rfl, rfl⟩ := hp
        refine g_fix [] [(x0, .inr (5, [.ref l0, .ref v0, .int (nI sc), .ref t0, .ref y0, .ref r0, .ref p0, .ref w0])), (l0, .inr (2, [.ref l1, .ref l2, .int (nI nr)])), (l1, .inr (0, [.ref l3])), (l3, .inl (ty 1, 4, .inr (.inl (zM T)))), (l2, .inl (ty 0, 18, .inl (eR q))), (p0, .inr (2, [.ref p1, .ref p2, .int (nI nr)])), (p1, .inr (0, [.ref p3])), (p3, .inl (ty 1, 4, .inr (.inl (zM (zTake T a))))), (p2, .inl (ty 0, 18, .inl (eR q))), (w0, .inr (3, [.ref g0, .ref h0, .int (nI (zRd (fnd q nr (zTake T a) (zSz Z2)))), .int (nI (zMt (fnd q nr (zTake T a) (zSz Z2)))), .int (nI (zDr (fnd q nr (zTake T a) (zSz Z2)))), .ref i0, .ref m0, .ref n0, .ref o0])), (g0, .inr (0, [.ref g1])), (g1, .inl (ty 1, 4, .inr (.inl (zM (zF (fnd q nr (zTake T a) (zSz Z2))))))), (h0, .inr (0, [.ref h1])), (h1, .inl (ty 1, 4, .inr (.inl (zM (foll (zF (fnd q nr (zTake T a) (zSz Z2)))))))), (i0, .inr (0, [.ref i1])), (i1, .inl (ty 1, 4, .inr (.inl (zM U91)))), (m0, .inl (ty 0, 256, .inl (zRo (fnd q nr (zTake T a) (zSz Z2))))), (n0, .inl (ty 0, 256, .inl (zRu (fnd q nr (zTake T a) (zSz Z2))))), (o0, .inl (ty 0, 105, .inl (zSz (fnd q nr (zTake T a) (zSz Z2)))))] [0, 1, 2, 3, 4, 15, 16, 17, 18, 5, 6, 7, 8, 9, 10, 11, 12, 13, 14] rfl rfl rfl ?_
        refine g_aload_n C 1 rfl dX7_spare_66 ?_
        refine g_getf C wu_X7 0 rfl rfl 7 (by decide) wf_X7_44 rfl rfl dX7_spare_67 ?_
        refine g_getf C wu_X5 9 rfl rfl 1 (by decide) wf_X7_205 rfl rfl dX7_spare_70 ?_
        refine g_iload_n C 0 rfl dX7_spare_73 ?_
        refine g_callV C (nA := 1) (ci := 0) (q0 := 0) (As := [.int (nI a)]) (wr := [(x0, .inr (5, [.ref l0, .ref v0, .int (nI sc), .ref t0, .ref y0, .ref r0, .ref p0, .ref w0])), (l0, .inr (2, [.ref l1, .ref l2, .int (nI nr)])), (l1, .inr (0, [.ref l3])), (l3, .inl (ty 1, 4, .inr (.inl (zM T)))), (l2, .inl (ty 0, 18, .inl (eR q))), (p0, .inr (2, [.ref p1, .ref p2, .int (nI nr)])), (p1, .inr (0, [.ref p3])), (p3, .inl (ty 1, 4, .inr (.inl (zM (zTake T a))))), (p2, .inl (ty 0, 18, .inl (eR q))), (w0, .inr (3, [.ref g0, .ref h0, .int (nI (zRd (fnd q nr (zTake T a) (zSz Z2)))), .int (nI (zMt (fnd q nr (zTake T a) (zSz Z2)))), .int (nI (zDr (fnd q nr (zTake T a) (zSz Z2)))), .ref i0, .ref m0, .ref n0, .ref o0])), (g0, .inr (0, [.ref g1])), (g1, .inl (ty 1, 4, .inr (.inl (zM (zF (fnd q nr (zTake T a) (zSz Z2))))))), (i0, .inr (0, [.ref i1])), (i1, .inl (ty 1, 4, .inr (.inl (zM U91)))), (m0, .inl (ty 0, 256, .inl (zRo (fnd q nr (zTake T a) (zSz Z2))))), (n0, .inl (ty 0, 256, .inl (zRu (fnd q nr (zTake T a) (zSz Z2))))), (o0, .inl (ty 0, 105, .inl (zSz (fnd q nr (zTake T a) (zSz Z2)))))]) (k_X2_has l D ty h0 h1 (foll (zF (fnd q nr (zTake T a) (zSz Z2)))) a (by omega)) wm_X7_68 wn_X2_has wv_X2_has wi_X2 wc_X2_has rfl (by decide +kernel) ⟨(Nat.le_of_ble_eq_true rfl), (Nat.le_of_ble_eq_true rfl)⟩ ⟨rfl, rfl⟩ dX7_spare_74 ⟨Nat.zero_le _, Nat.zero_le _⟩ rfl rfl rfl [12, 13] [0, 1, 2, 3, 4, 5, 6, 7, 8, 9, 10, 11, 14, 15, 16, 17, 18] rfl rfl rfl rfl (by decide) (Nat.le_of_ble_eq_true rfl) rfl (fun r W1 hp => ?_)
        obtain ⟨rfl, rfl⟩ := hp
        refine g_fix [.int (bI ((foll (zF (fnd q nr (zTake T a) (zSz Z2)))) a))] [(x0, .inr (5, [.ref l0, .ref v0, .int (nI sc), .ref t0, .ref y0, .ref r0, .ref p0, .ref w0])), (l0, .inr (2, [.ref l1, .ref l2, .int (nI nr)])), (l1, .inr (0, [.ref l3])), (l3, .inl (ty 1, 4, .inr (.inl (zM T)))), (l2, .inl (ty 0, 18, .inl (eR q))), (p0, .inr (2, [.ref p1, .ref p2, .int (nI nr)])), (p1, .inr (0, [.ref p3])), (p3, .inl (ty 1, 4, .inr (.inl (zM (zTake T a))))), (p2, .inl (ty 0, 18, .inl (eR q))), (w0, .inr (3, [.ref g0, .ref h0, .int (nI (zRd (fnd q nr (zTake T a) (zSz Z2)))), .int (nI (zMt (fnd q nr (zTake T a) (zSz Z2)))), .int (nI (zDr (fnd q nr (zTake T a) (zSz Z2)))), .ref i0, .ref m0, .ref n0, .ref o0])), (g0, .inr (0, [.ref g1])), (g1, .inl (ty 1, 4, .inr (.inl (zM (zF (fnd q nr (zTake T a) (zSz Z2))))))), (h0, .inr (0, [.ref h1])), (h1, .inl (ty 1, 4, .inr (.inl (zM (foll (zF (fnd q nr (zTake T a) (zSz Z2)))))))), (i0, .inr (0, [.ref i1])), (i1, .inl (ty 1, 4, .inr (.inl (zM U91)))), (m0, .inl (ty 0, 256, .inl (zRo (fnd q nr (zTake T a) (zSz Z2))))), (n0, .inl (ty 0, 256, .inl (zRu (fnd q nr (zTake T a) (zSz Z2))))), (o0, .inl (ty 0, 105, .inl (zSz (fnd q nr (zTake T a) (zSz Z2)))))] [0, 1, 2, 3, 4, 5, 6, 7, 8, 9, 10, 11, 17, 18, 12, 13, 14, 15, 16] rfl rfl rfl ?_
        refine g_if_eqB C ((foll (zF (fnd q nr (zTake T a) (zSz Z2)))) a) 84 rfl dX7_spare_77 rfl (fun c77 => ?_) (fun c77 => ?_)
        · skip
          refine g_iconst C (nI 0) ic_0 dX7_spare_84 ?_
          exact g_iret E dX7_spare_85 (by decide) (by decide) ⟨(zTake T a, q, nr), (fnd q nr (zTake T a) (zSz Z2)), U91, (congrArg (fun z => some (Value.int z)) (by rw [spA_s hn, ← fnd_F q nr (zTake T a) (zSz Z2), c77]; rfl)), rfl⟩
        · skip
          refine g_iconst C (nI 1) ic_1 dX7_spare_80 ?_
          refine g_goto C 85 dX7_spare_81 rfl ?_
          exact g_iret E dX7_spare_85 (by decide) (by decide) ⟨(zTake T a, q, nr), (fnd q nr (zTake T a) (zSz Z2)), U91, (congrArg (fun z => some (Value.int z)) (by rw [spA_s hn, ← fnd_F q nr (zTake T a) (zSz Z2), c77]; rfl)), rfl⟩
      · skip
        exact absurd c28 (nI_nm1 (by omega))
  · skip
    exact absurd (nI_pos' (by omega)) c1
def r_X7_richest : Room := { frames := 5, cells := 0, slots := 0, locals := 132 }
set_option maxRecDepth 100000 in
set_option maxHeartbeats 4000000 in
theorem k_X7_richest (l : Launch) (D : va_G) (ty : Nat → ClassId) (x0 : Nat) (l0 : Nat) (v0 : Nat) (t0 : Nat) (y0 : Nat) (r0 : Nat) (p0 : Nat) (w0 : Nat) (l1 : Nat) (l2 : Nat) (l3 : Nat) (T : Nat → Bool) (q : Nat → Nat) (nr : Nat) (sc : Nat) (p1 : Nat) (p2 : Nat) (p3 : Nat) (P : LT) (g0 : Nat) (g1 : Nat) (h0 : Nat) (h1 : Nat) (i0 : Nat) (i1 : Nat) (m0 : Nat) (n0 : Nat) (o0 : Nat) (Z2 : ZT) (K2 : Nat → Bool) (p : Nat) (hp : p < 4) (hq : okQ q nr) (hT : okF T) : gM l D ty yX7_richest cX7_richest 7 (some (FieldType.int : FieldType)) r_X7_richest 0 0 [.ref x0, .int (nI p)] [(x0, .inr (5, [.ref l0, .ref v0, .int (nI sc), .ref t0, .ref y0, .ref r0, .ref p0, .ref w0])), (l0, .inr (2, [.ref l1, .ref l2, .int (nI nr)])), (l1, .inr (0, [.ref l3])), (l3, .inl (ty 1, 4, .inr (.inl (zM T)))), (l2, .inl (ty 0, 18, .inl (eR q))), (p0, .inr (2, [.ref p1, .ref p2, .int (nI (P.2.2))])), (p1, .inr (0, [.ref p3])), (p3, .inl (ty 1, 4, .inr (.inl (zM P.1)))), (p2, .inl (ty 0, 18, .inl (eR P.2.1))), (w0, .inr (3, [.ref g0, .ref h0, .int (nI (zRd Z2)), .int (nI (zMt Z2)), .int (nI (zDr Z2)), .ref i0, .ref m0, .ref n0, .ref o0])), (g0, .inr (0, [.ref g1])), (g1, .inl (ty 1, 4, .inr (.inl (zM (zF Z2))))), (h0, .inr (0, [.ref h1])), (h1, .inl (ty 1, 4, .inr (.inl (zM (foll (zF Z2)))))), (i0, .inr (0, [.ref i1])), (i1, .inl (ty 1, 4, .inr (.inl (zM K2)))), (m0, .inl (ty 0, 256, .inl (zRo Z2))), (n0, .inl (ty 0, 256, .inl (zRu Z2))), (o0, .inl (ty 0, 105, .inl (zSz Z2)))] (fun (zr : Option Value) (zW : va_W) => ∃ (P9 : LT) (Z9 : ZT) (K9 : Nat → Bool), zr = some (.int (nI ((rch q nr T p 16).2))) ∧ zW = [(x0, .inr (5, [.ref l0, .ref v0, .int (nI sc), .ref t0, .ref y0, .ref r0, .ref p0, .ref w0])), (l0, .inr (2, [.ref l1, .ref l2, .int (nI nr)])), (l1, .inr (0, [.ref l3])), (l3, .inl (ty 1, 4, .inr (.inl (zM T)))), (l2, .inl (ty 0, 18, .inl (eR q))), (p0, .inr (2, [.ref p1, .ref p2, .int (nI (P9.2.2))])), (p1, .inr (0, [.ref p3])), (p3, .inl (ty 1, 4, .inr (.inl (zM P9.1)))), (p2, .inl (ty 0, 18, .inl (eR P9.2.1))), (w0, .inr (3, [.ref g0, .ref h0, .int (nI (zRd Z9)), .int (nI (zMt Z9)), .int (nI (zDr Z9)), .ref i0, .ref m0, .ref n0, .ref o0])), (g0, .inr (0, [.ref g1])), (g1, .inl (ty 1, 4, .inr (.inl (zM (zF Z9))))), (h0, .inr (0, [.ref h1])), (h1, .inl (ty 1, 4, .inr (.inl (zM (foll (zF Z9)))))), (i0, .inr (0, [.ref i1])), (i1, .inl (ty 1, 4, .inr (.inl (zM K9)))), (m0, .inl (ty 0, 256, .inl (zRo Z9))), (n0, .inl (ty 0, 256, .inl (zRu Z9))), (o0, .inl (ty 0, 105, .inl (zSz Z9)))]) := by
  refine gM_of RX7 rfl (by decide +kernel) (Nat.le_of_ble_eq_true rfl) ?_
  intro pg en s0 mi ag bl mth cd AA HH QQ C E hnm
  show gW pg l en r_X7_richest s0 mi ag bl mth cd 7 D AA HH QQ 0 [(0, .ref x0), (1, .int (nI p))] [] [(x0, .inr (5, [.ref l0, .ref v0, .int (nI sc), .ref t0, .ref y0, .ref r0, .ref p0, .ref w0])), (l0, .inr (2, [.ref l1, .ref l2, .int (nI nr)])), (l1, .inr (0, [.ref l3])), (l3, .inl (ty 1, 4, .inr (.inl (zM T)))), (l2, .inl (ty 0, 18, .inl (eR q))), (p0, .inr (2, [.ref p1, .ref p2, .int (nI (P.2.2))])), (p1, .inr (0, [.ref p3])), (p3, .inl (ty 1, 4, .inr (.inl (zM P.1)))), (p2, .inl (ty 0, 18, .inl (eR P.2.1))), (w0, .inr (3, [.ref g0, .ref h0, .int (nI (zRd Z2)), .int (nI (zMt Z2)), .int (nI (zDr Z2)), .ref i0, .ref m0, .ref n0, .ref o0])), (g0, .inr (0, [.ref g1])), (g1, .inl (ty 1, 4, .inr (.inl (zM (zF Z2))))), (h0, .inr (0, [.ref h1])), (h1, .inl (ty 1, 4, .inr (.inl (zM (foll (zF Z2)))))), (i0, .inr (0, [.ref i1])), (i1, .inl (ty 1, 4, .inr (.inl (zM K2)))), (m0, .inl (ty 0, 256, .inl (zRo Z2))), (n0, .inl (ty 0, 256, .inl (zRu Z2))), (o0, .inl (ty 0, 105, .inl (zSz Z2)))] 0 0
  refine g_iload_n C 1 rfl dX7_richest_0 ?_
  refine g_if_lt C 9 dX7_richest_1 rfl (fun c1 => ?_) (fun c1 => ?_)
  · skip
    exact absurd c1 (nI_pos (by omega))
  · skip
    refine g_iload_n C 1 rfl dX7_richest_4 ?_
    refine g_iconst C (nI 4) ic_4 dX7_richest_5 ?_
    refine g_icmp_ltN C p 4 19 rfl rfl (by omega) (by omega) dX7_richest_6 rfl (fun c6 => ?_) (fun c6 => ?_)
    · skip
      refine g_iconst C (nI 0) ic_0 dX7_richest_19 ?_
      refine g_istore_n C [(2, .int (nI 0)), (0, .ref x0), (1, .int (nI p))] dX7_richest_20 rfl (by decide) rfl ?_
      refine g_iconst C (-1) ic_m1 dX7_richest_21 ?_
      refine g_istore_n C [(3, .int (-1)), (2, .int (nI 0)), (0, .ref x0), (1, .int (nI p))] dX7_richest_22 rfl (by decide) rfl ?_
      refine g_iconst C (nI 0) ic_0 dX7_richest_23 ?_
      refine g_istore C [(4, .int (nI 0)), (3, .int (-1)), (2, .int (nI 0)), (0, .ref x0), (1, .int (nI p))] dX7_richest_24 (by decide) rfl ?_
      refine g_lo [3, 4, 2, 1, 0] [(0, .ref x0), (1, .int (nI p)), (2, .int (nI 0)), (3, .int (-1)), (4, .int (nI 0))] rfl ?_
      have L26 : ∀ (fu26 : Nat) (f : Nat) (P3 : LT) (Z3 : ZT) (K3 : Nat → Bool) (hf : f ≤ 4), (4 - f) < fu26 → gW pg l en r_X7_richest s0 mi ag bl mth cd 7 D AA HH QQ 26 [(0, .ref x0), (1, .int (nI p)), (2, .int (nI ((rch q nr T p (4 * f)).2))), (3, .int ((rch q nr T p (4 * f)).1)), (4, .int (nI f))] [] [(x0, .inr (5, [.ref l0, .ref v0, .int (nI sc), .ref t0, .ref y0, .ref r0, .ref p0, .ref w0])), (l0, .inr (2, [.ref l1, .ref l2, .int (nI nr)])), (l1, .inr (0, [.ref l3])), (l3, .inl (ty 1, 4, .inr (.inl (zM T)))), (l2, .inl (ty 0, 18, .inl (eR q))), (p0, .inr (2, [.ref p1, .ref p2, .int (nI (P3.2.2))])), (p1, .inr (0, [.ref p3])), (p3, .inl (ty 1, 4, .inr (.inl (zM P3.1)))), (p2, .inl (ty 0, 18, .inl (eR P3.2.1))), (w0, .inr (3, [.ref g0, .ref h0, .int (nI (zRd Z3)), .int (nI (zMt Z3)), .int (nI (zDr Z3)), .ref i0, .ref m0, .ref n0, .ref o0])), (g0, .inr (0, [.ref g1])), (g1, .inl (ty 1, 4, .inr (.inl (zM (zF Z3))))), (h0, .inr (0, [.ref h1])), (h1, .inl (ty 1, 4, .inr (.inl (zM (foll (zF Z3)))))), (i0, .inr (0, [.ref i1])), (i1, .inl (ty 1, 4, .inr (.inl (zM K3)))), (m0, .inl (ty 0, 256, .inl (zRo Z3))), (n0, .inl (ty 0, 256, .inl (zRu Z3))), (o0, .inl (ty 0, 105, .inl (zSz Z3)))] 0 0 := by
        intro fu26
        induction fu26 with
        | zero => intro f P3 Z3 K3 hf hfu; exact absurd hfu (Nat.not_lt_zero _)
        | succ fu26 ih26 =>
          intro f P3 Z3 K3 hf hfu26
          refine g_iload C 4 rfl dX7_richest_26 ?_
          refine g_iconst C (nI 4) ic_4 dX7_richest_28 ?_
          refine g_icmp_geN C f 4 123 rfl rfl (by omega) (by omega) dX7_richest_29 rfl (fun c29 => ?_) (fun c29 => ?_)
          · skip
            refine g_lo2 [(0, .ref x0), (1, .int (nI p)), (2, .int (nI ((rch q nr T p (16)).2))), (3, .int ((rch q nr T p (4 * f)).1)), (4, .int (nI f))] (by rw [show 4 * f = 16 by omega]) ?_
            refine g_iload_n C 2 rfl dX7_richest_123 ?_
            exact g_iret E dX7_richest_124 (by decide) (by decide) ⟨P3, Z3, K3, rfl, rfl⟩
          · skip
            refine g_iconst C (nI 0) ic_0 dX7_richest_32 ?_
            refine g_istore C [(5, .int (nI 0)), (0, .ref x0), (1, .int (nI p)), (2, .int (nI ((rch q nr T p (4 * f)).2))), (3, .int ((rch q nr T p (4 * f)).1)), (4, .int (nI f))] dX7_richest_33 (by decide) rfl ?_
            refine g_lo [1, 2, 3, 4, 5, 0] [(0, .ref x0), (1, .int (nI p)), (2, .int (nI ((rch q nr T p (4 * f)).2))), (3, .int ((rch q nr T p (4 * f)).1)), (4, .int (nI f)), (5, .int (nI 0))] rfl ?_
            have L35 : ∀ (fu35 : Nat) (g : Nat) (P4 : LT) (Z4 : ZT) (K4 : Nat → Bool) (hg : g ≤ 4), (4 - g) < fu35 → gW pg l en r_X7_richest s0 mi ag bl mth cd 7 D AA HH QQ 35 [(0, .ref x0), (1, .int (nI p)), (2, .int (nI ((rch q nr T p (4 * f + g)).2))), (3, .int ((rch q nr T p (4 * f + g)).1)), (4, .int (nI f)), (5, .int (nI g))] [] [(x0, .inr (5, [.ref l0, .ref v0, .int (nI sc), .ref t0, .ref y0, .ref r0, .ref p0, .ref w0])), (l0, .inr (2, [.ref l1, .ref l2, .int (nI nr)])), (l1, .inr (0, [.ref l3])), (l3, .inl (ty 1, 4, .inr (.inl (zM T)))), (l2, .inl (ty 0, 18, .inl (eR q))), (p0, .inr (2, [.ref p1, .ref p2, .int (nI (P4.2.2))])), (p1, .inr (0, [.ref p3])), (p3, .inl (ty 1, 4, .inr (.inl (zM P4.1)))), (p2, .inl (ty 0, 18, .inl (eR P4.2.1))), (w0, .inr (3, [.ref g0, .ref h0, .int (nI (zRd Z4)), .int (nI (zMt Z4)), .int (nI (zDr Z4)), .ref i0, .ref m0, .ref n0, .ref o0])), (g0, .inr (0, [.ref g1])), (g1, .inl (ty 1, 4, .inr (.inl (zM (zF Z4))))), (h0, .inr (0, [.ref h1])), (h1, .inl (ty 1, 4, .inr (.inl (zM (foll (zF Z4)))))), (i0, .inr (0, [.ref i1])), (i1, .inl (ty 1, 4, .inr (.inl (zM K4)))), (m0, .inl (ty 0, 256, .inl (zRo Z4))), (n0, .inl (ty 0, 256, .inl (zRu Z4))), (o0, .inl (ty 0, 105, .inl (zSz Z4)))] 0 0 := by
              intro fu35
              induction fu35 with
              | zero => intro g P4 Z4 K4 hg hfu; exact absurd hfu (Nat.not_lt_zero _)
              | succ fu35 ih35 =>
                intro g P4 Z4 K4 hg hfu35
                refine g_iload C 5 rfl dX7_richest_35 ?_
                refine g_iconst C (nI 4) ic_4 dX7_richest_37 ?_
                refine g_icmp_geN C g 4 117 rfl rfl (by omega) (by omega) dX7_richest_38 rfl (fun c38 => ?_) (fun c38 => ?_)
                · skip
                  refine g_lo2 [(0, .ref x0), (1, .int (nI p)), (2, .int (nI ((rch q nr T p (4 * (f + 1))).2))), (3, .int ((rch q nr T p (4 * (f + 1))).1)), (4, .int (nI f)), (5, .int (nI g))] (by rw [show 4 * (f + 1) = 4 * f + g by omega]) ?_
                  refine g_iinc C (nI (f + 1)) [(4, .int (nI (f + 1))), (0, .ref x0), (1, .int (nI p)), (2, .int (nI ((rch q nr T p (4 * (f + 1))).2))), (3, .int ((rch q nr T p (4 * (f + 1))).1)), (5, .int (nI g))] 4 dX7_richest_117 rfl (ii_1 _) (by decide) rfl ?_
                  refine g_goto C 26 dX7_richest_120 rfl ?_
                  refine g_lo [1, 2, 3, 4, 0] [(0, .ref x0), (1, .int (nI p)), (2, .int (nI ((rch q nr T p (4 * (f + 1))).2))), (3, .int ((rch q nr T p (4 * (f + 1))).1)), (4, .int (nI (f + 1)))] rfl ?_
                  exact ih26 (f + 1) P4 Z4 K4 (by omega) (by omega)
                · skip
                  refine g_aload_n C 0 rfl dX7_richest_41 ?_
                  refine g_getf C wu_X7 0 rfl rfl 6 (by decide) wf_X7_41 rfl rfl dX7_richest_42 ?_
                  refine g_aload_n C 0 rfl dX7_richest_45 ?_
                  refine g_getf C wu_X7 0 rfl rfl 0 (by decide) wf_X7_10 rfl rfl dX7_richest_46 ?_
                  refine g_callV C (nA := 1) (ci := 2) (q0 := 0) (As := [.ref l0]) (wr := [(x0, .inr (5, [.ref l0, .ref v0, .int (nI sc), .ref t0, .ref y0, .ref r0, .ref p0, .ref w0])), (w0, .inr (3, [.ref g0, .ref h0, .int (nI (zRd Z4)), .int (nI (zMt Z4)), .int (nI (zDr Z4)), .ref i0, .ref m0, .ref n0, .ref o0])), (g0, .inr (0, [.ref g1])), (g1, .inl (ty 1, 4, .inr (.inl (zM (zF Z4))))), (h0, .inr (0, [.ref h1])), (h1, .inl (ty 1, 4, .inr (.inl (zM (foll (zF Z4)))))), (i0, .inr (0, [.ref i1])), (i1, .inl (ty 1, 4, .inr (.inl (zM K4)))), (m0, .inl (ty 0, 256, .inl (zRo Z4))), (n0, .inl (ty 0, 256, .inl (zRu Z4))), (o0, .inl (ty 0, 105, .inl (zSz Z4)))]) (k_X4_copyOf l D ty p0 p1 p2 p3 P4.1 P4.2.1 P4.2.2 l0 l1 l2 l3 T q nr ) wm_X7_149 wn_X4_copyOf wv_X4_copyOf wi_X4 wc_X4_copyOf rfl (by decide +kernel) ⟨(Nat.le_of_ble_eq_true rfl), (Nat.le_of_ble_eq_true rfl)⟩ ⟨rfl, rfl⟩ dX7_richest_49 ⟨Nat.zero_le _, Nat.zero_le _⟩ rfl rfl rfl [5, 6, 7, 8, 1, 2, 3, 4] [0, 9, 10, 11, 12, 13, 14, 15, 16, 17, 18] rfl rfl rfl rfl (by decide) (Nat.le_of_ble_eq_true rfl) rfl (fun r W1 hp => ?_)
                  obtain ⟨rfl, rfl⟩ := hp
                  refine g_fix [] [(x0, .inr (5, [.ref l0, .ref v0, .int (nI sc), .ref t0, .ref y0, .ref r0, .ref p0, .ref w0])), (l0, .inr (2, [.ref l1, .ref l2, .int (nI nr)])), (l1, .inr (0, [.ref l3])), (l3, .inl (ty 1, 4, .inr (.inl (zM T)))), (l2, .inl (ty 0, 18, .inl (eR q))), (p0, .inr (2, [.ref p1, .ref p2, .int (nI nr)])), (p1, .inr (0, [.ref p3])), (p3, .inl (ty 1, 4, .inr (.inl (zM T)))), (p2, .inl (ty 0, 18, .inl (eR q))), (w0, .inr (3, [.ref g0, .ref h0, .int (nI (zRd Z4)), .int (nI (zMt Z4)), .int (nI (zDr Z4)), .ref i0, .ref m0, .ref n0, .ref o0])), (g0, .inr (0, [.ref g1])), (g1, .inl (ty 1, 4, .inr (.inl (zM (zF Z4))))), (h0, .inr (0, [.ref h1])), (h1, .inl (ty 1, 4, .inr (.inl (zM (foll (zF Z4)))))), (i0, .inr (0, [.ref i1])), (i1, .inl (ty 1, 4, .inr (.inl (zM K4)))), (m0, .inl (ty 0, 256, .inl (zRo Z4))), (n0, .inl (ty 0, 256, .inl (zRu Z4))), (o0, .inl (ty 0, 105, .inl (zSz Z4)))] [0, 15, 16, 17, 18, 11, 12, 13, 14, 1, 2, 3, 4, 5, 6, 7, 8, 9, 10] rfl rfl rfl ?_
                  refine g_aload_n C 0 rfl dX7_richest_52 ?_
                  refine g_getf C wu_X7 0 rfl rfl 6 (by decide) wf_X7_41 rfl rfl dX7_richest_53 ?_
                  refine g_getf C wu_X4 5 rfl rfl 0 (by decide) wf_X7_64 rfl rfl dX7_richest_56 ?_
                  refine g_iload_n C 1 rfl dX7_richest_59 ?_
                  refine g_iload C 4 rfl dX7_richest_60 ?_
                  refine g_iload C 5 rfl dX7_richest_62 ?_
                  refine g_callS0 C (nA := 3) (k_X1_of l D ty p f g ) wm_X7_60 ws_X1_of wi_X1 wc_X1_of rfl (by decide +kernel) ⟨(Nat.le_of_ble_eq_true rfl), (Nat.le_of_ble_eq_true rfl)⟩ ⟨rfl, rfl⟩ dX7_richest_64 (fun _ _ h => h.2) (Nat.le_of_ble_eq_true rfl) rfl ⟨Nat.zero_le _, Nat.zero_le _⟩ (fun r hp => ?_)
                  obtain ⟨rfl, -⟩ := hp
                  refine g_st [.int (nI (64 * p + 8 * f + g)), .ref p1] rfl ?_
                  refine g_callV C (nA := 1) (ci := 0) (q0 := 0) (As := [.int (nI (64 * p + 8 * f + g))]) (wr := [(x0, .inr (5, [.ref l0, .ref v0, .int (nI sc), .ref t0, .ref y0, .ref r0, .ref p0, .ref w0])), (l0, .inr (2, [.ref l1, .ref l2, .int (nI nr)])), (l1, .inr (0, [.ref l3])), (l3, .inl (ty 1, 4, .inr (.inl (zM T)))), (l2, .inl (ty 0, 18, .inl (eR q))), (p0, .inr (2, [.ref p1, .ref p2, .int (nI nr)])), (p2, .inl (ty 0, 18, .inl (eR q))), (w0, .inr (3, [.ref g0, .ref h0, .int (nI (zRd Z4)), .int (nI (zMt Z4)), .int (nI (zDr Z4)), .ref i0, .ref m0, .ref n0, .ref o0])), (g0, .inr (0, [.ref g1])), (g1, .inl (ty 1, 4, .inr (.inl (zM (zF Z4))))), (h0, .inr (0, [.ref h1])), (h1, .inl (ty 1, 4, .inr (.inl (zM (foll (zF Z4)))))), (i0, .inr (0, [.ref i1])), (i1, .inl (ty 1, 4, .inr (.inl (zM K4)))), (m0, .inl (ty 0, 256, .inl (zRo Z4))), (n0, .inl (ty 0, 256, .inl (zRu Z4))), (o0, .inl (ty 0, 105, .inl (zSz Z4)))]) (k_X2_put l D ty p1 p3 T (64 * p + 8 * f + g) (by omega)) wm_X7_86 wn_X2_put wv_X2_put wi_X2 wc_X2_put rfl (by decide +kernel) ⟨(Nat.le_of_ble_eq_true rfl), (Nat.le_of_ble_eq_true rfl)⟩ ⟨rfl, rfl⟩ dX7_richest_67 ⟨Nat.zero_le _, Nat.zero_le _⟩ rfl rfl rfl [6, 7] [0, 1, 2, 3, 4, 5, 8, 9, 10, 11, 12, 13, 14, 15, 16, 17, 18] rfl rfl rfl rfl (by decide) (Nat.le_of_ble_eq_true rfl) rfl (fun r W1 hp => ?_)
                  obtain ⟨rfl, rfl⟩ := hp
                  refine g_fix [] [(x0, .inr (5, [.ref l0, .ref v0, .int (nI sc), .ref t0, .ref y0, .ref r0, .ref p0, .ref w0])), (l0, .inr (2, [.ref l1, .ref l2, .int (nI nr)])), (l1, .inr (0, [.ref l3])), (l3, .inl (ty 1, 4, .inr (.inl (zM T)))), (l2, .inl (ty 0, 18, .inl (eR q))), (p0, .inr (2, [.ref p1, .ref p2, .int (nI nr)])), (p1, .inr (0, [.ref p3])), (p3, .inl (ty 1, 4, .inr (.inl (zM (zPut T (64 * p + 8 * f + g)))))), (p2, .inl (ty 0, 18, .inl (eR q))), (w0, .inr (3, [.ref g0, .ref h0, .int (nI (zRd Z4)), .int (nI (zMt Z4)), .int (nI (zDr Z4)), .ref i0, .ref m0, .ref n0, .ref o0])), (g0, .inr (0, [.ref g1])), (g1, .inl (ty 1, 4, .inr (.inl (zM (zF Z4))))), (h0, .inr (0, [.ref h1])), (h1, .inl (ty 1, 4, .inr (.inl (zM (foll (zF Z4)))))), (i0, .inr (0, [.ref i1])), (i1, .inl (ty 1, 4, .inr (.inl (zM K4)))), (m0, .inl (ty 0, 256, .inl (zRo Z4))), (n0, .inl (ty 0, 256, .inl (zRu Z4))), (o0, .inl (ty 0, 105, .inl (zSz Z4)))] [0, 1, 2, 3, 4, 5, 17, 18, 6, 7, 8, 9, 10, 11, 12, 13, 14, 15, 16] rfl rfl rfl ?_
                  refine g_aload_n C 0 rfl dX7_richest_70 ?_
                  refine g_getf C wu_X7 0 rfl rfl 7 (by decide) wf_X7_44 rfl rfl dX7_richest_71 ?_
                  refine g_aload_n C 0 rfl dX7_richest_74 ?_
                  refine g_getf C wu_X7 0 rfl rfl 6 (by decide) wf_X7_41 rfl rfl dX7_richest_75 ?_
                  refine g_callV C (nA := 1) (ci := 3) (q0 := 0) (As := [.ref p0]) (wr := [(x0, .inr (5, [.ref l0, .ref v0, .int (nI sc), .ref t0, .ref y0, .ref r0, .ref p0, .ref w0])), (l0, .inr (2, [.ref l1, .ref l2, .int (nI nr)])), (l1, .inr (0, [.ref l3])), (l3, .inl (ty 1, 4, .inr (.inl (zM T)))), (l2, .inl (ty 0, 18, .inl (eR q)))]) (k_X5_run l D ty w0 g0 g1 h0 h1 i0 i1 m0 n0 o0 p0 p1 p2 p3 (zF Z4) (foll (zF Z4)) K4 (zRd Z4) (zMt Z4) (zDr Z4) (zRo Z4) (zRu Z4) (zSz Z4) (zPut T (64 * p + 8 * f + g)) q nr (okF_put hT (isF_c hp (by omega) (by omega)) (by omega)) hq) wm_X7_90 wn_X5_run wv_X5_run wi_X5 wc_X5_run rfl (by decide +kernel) ⟨(Nat.le_of_ble_eq_true rfl), (Nat.le_of_ble_eq_true rfl)⟩ ⟨rfl, rfl⟩ dX7_richest_78 ⟨Nat.zero_le _, Nat.zero_le _⟩ rfl rfl rfl [9, 10, 11, 12, 13, 14, 15, 16, 17, 18, 5, 6, 7, 8] [0, 1, 2, 3, 4] rfl rfl rfl rfl (by decide) (Nat.le_of_ble_eq_true rfl) rfl (fun r W1 hp => ?_)
                  obtain ⟨K5, rfl, rfl⟩ := hp
                  refine g_fix [] [(x0, .inr (5, [.ref l0, .ref v0, .int (nI sc), .ref t0, .ref y0, .ref r0, .ref p0, .ref w0])), (l0, .inr (2, [.ref l1, .ref l2, .int (nI nr)])), (l1, .inr (0, [.ref l3])), (l3, .inl (ty 1, 4, .inr (.inl (zM T)))), (l2, .inl (ty 0, 18, .inl (eR q))), (p0, .inr (2, [.ref p1, .ref p2, .int (nI nr)])), (p1, .inr (0, [.ref p3])), (p3, .inl (ty 1, 4, .inr (.inl (zM (zPut T (64 * p + 8 * f + g)))))), (p2, .inl (ty 0, 18, .inl (eR q))), (w0, .inr (3, [.ref g0, .ref h0, .int (nI (zRd (fnd q nr (zPut T (64 * p + 8 * f + g)) (zSz Z4)))), .int (nI (zMt (fnd q nr (zPut T (64 * p + 8 * f + g)) (zSz Z4)))), .int (nI (zDr (fnd q nr (zPut T (64 * p + 8 * f + g)) (zSz Z4)))), .ref i0, .ref m0, .ref n0, .ref o0])), (g0, .inr (0, [.ref g1])), (g1, .inl (ty 1, 4, .inr (.inl (zM (zF (fnd q nr (zPut T (64 * p + 8 * f + g)) (zSz Z4))))))), (h0, .inr (0, [.ref h1])), (h1, .inl (ty 1, 4, .inr (.inl (zM (foll (zF (fnd q nr (zPut T (64 * p + 8 * f + g)) (zSz Z4)))))))), (i0, .inr (0, [.ref i1])), (i1, .inl (ty 1, 4, .inr (.inl (zM K5)))), (m0, .inl (ty 0, 256, .inl (zRo (fnd q nr (zPut T (64 * p + 8 * f + g)) (zSz Z4))))), (n0, .inl (ty 0, 256, .inl (zRu (fnd q nr (zPut T (64 * p + 8 * f + g)) (zSz Z4))))), (o0, .inl (ty 0, 105, .inl (zSz (fnd q nr (zPut T (64 * p + 8 * f + g)) (zSz Z4)))))] [0, 1, 2, 3, 4, 15, 16, 17, 18, 5, 6, 7, 8, 9, 10, 11, 12, 13, 14] rfl rfl rfl ?_
                  refine g_aload_n C 0 rfl dX7_richest_81 ?_
                  refine g_getf C wu_X7 0 rfl rfl 7 (by decide) wf_X7_44 rfl rfl dX7_richest_82 ?_
                  refine g_getf C wu_X5 9 rfl rfl 0 (by decide) wf_X7_121 rfl rfl dX7_richest_85 ?_
                  refine g_callV C (nA := 0) (ci := 0) (q0 := 0) (As := []) (wr := [(x0, .inr (5, [.ref l0, .ref v0, .int (nI sc), .ref t0, .ref y0, .ref r0, .ref p0, .ref w0])), (l0, .inr (2, [.ref l1, .ref l2, .int (nI nr)])), (l1, .inr (0, [.ref l3])), (l3, .inl (ty 1, 4, .inr (.inl (zM T)))), (l2, .inl (ty 0, 18, .inl (eR q))), (p0, .inr (2, [.ref p1, .ref p2, .int (nI nr)])), (p1, .inr (0, [.ref p3])), (p3, .inl (ty 1, 4, .inr (.inl (zM (zPut T (64 * p + 8 * f + g)))))), (p2, .inl (ty 0, 18, .inl (eR q))), (w0, .inr (3, [.ref g0, .ref h0, .int (nI (zRd (fnd q nr (zPut T (64 * p + 8 * f + g)) (zSz Z4)))), .int (nI (zMt (fnd q nr (zPut T (64 * p + 8 * f + g)) (zSz Z4)))), .int (nI (zDr (fnd q nr (zPut T (64 * p + 8 * f + g)) (zSz Z4)))), .ref i0, .ref m0, .ref n0, .ref o0])), (h0, .inr (0, [.ref h1])), (h1, .inl (ty 1, 4, .inr (.inl (zM (foll (zF (fnd q nr (zPut T (64 * p + 8 * f + g)) (zSz Z4)))))))), (i0, .inr (0, [.ref i1])), (i1, .inl (ty 1, 4, .inr (.inl (zM K5)))), (m0, .inl (ty 0, 256, .inl (zRo (fnd q nr (zPut T (64 * p + 8 * f + g)) (zSz Z4))))), (n0, .inl (ty 0, 256, .inl (zRu (fnd q nr (zPut T (64 * p + 8 * f + g)) (zSz Z4))))), (o0, .inl (ty 0, 105, .inl (zSz (fnd q nr (zPut T (64 * p + 8 * f + g)) (zSz Z4)))))]) (k_X2_instanceCount l D ty g0 g1 (zF (fnd q nr (zPut T (64 * p + 8 * f + g)) (zSz Z4))) ) wm_X7_202 wn_X2_instanceCount wv_X2_instanceCount wi_X2 wc_X2_instanceCount rfl (by decide +kernel) ⟨(Nat.le_of_ble_eq_true rfl), (Nat.le_of_ble_eq_true rfl)⟩ ⟨rfl, rfl⟩ dX7_richest_88 ⟨Nat.zero_le _, Nat.zero_le _⟩ rfl rfl rfl [10, 11] [0, 1, 2, 3, 4, 5, 6, 7, 8, 9, 12, 13, 14, 15, 16, 17, 18] rfl rfl rfl rfl (by decide) (Nat.le_of_ble_eq_true rfl) rfl (fun r W1 hp => ?_)
                  obtain ⟨rfl, rfl⟩ := hp
                  refine g_fix [.int (nI (insU (zF (fnd q nr (zPut T (64 * p + 8 * f + g)) (zSz Z4))) 4))] [(x0, .inr (5, [.ref l0, .ref v0, .int (nI sc), .ref t0, .ref y0, .ref r0, .ref p0, .ref w0])), (l0, .inr (2, [.ref l1, .ref l2, .int (nI nr)])), (l1, .inr (0, [.ref l3])), (l3, .inl (ty 1, 4, .inr (.inl (zM T)))), (l2, .inl (ty 0, 18, .inl (eR q))), (p0, .inr (2, [.ref p1, .ref p2, .int (nI nr)])), (p1, .inr (0, [.ref p3])), (p3, .inl (ty 1, 4, .inr (.inl (zM (zPut T (64 * p + 8 * f + g)))))), (p2, .inl (ty 0, 18, .inl (eR q))), (w0, .inr (3, [.ref g0, .ref h0, .int (nI (zRd (fnd q nr (zPut T (64 * p + 8 * f + g)) (zSz Z4)))), .int (nI (zMt (fnd q nr (zPut T (64 * p + 8 * f + g)) (zSz Z4)))), .int (nI (zDr (fnd q nr (zPut T (64 * p + 8 * f + g)) (zSz Z4)))), .ref i0, .ref m0, .ref n0, .ref o0])), (g0, .inr (0, [.ref g1])), (g1, .inl (ty 1, 4, .inr (.inl (zM (zF (fnd q nr (zPut T (64 * p + 8 * f + g)) (zSz Z4))))))), (h0, .inr (0, [.ref h1])), (h1, .inl (ty 1, 4, .inr (.inl (zM (foll (zF (fnd q nr (zPut T (64 * p + 8 * f + g)) (zSz Z4)))))))), (i0, .inr (0, [.ref i1])), (i1, .inl (ty 1, 4, .inr (.inl (zM K5)))), (m0, .inl (ty 0, 256, .inl (zRo (fnd q nr (zPut T (64 * p + 8 * f + g)) (zSz Z4))))), (n0, .inl (ty 0, 256, .inl (zRu (fnd q nr (zPut T (64 * p + 8 * f + g)) (zSz Z4))))), (o0, .inl (ty 0, 105, .inl (zSz (fnd q nr (zPut T (64 * p + 8 * f + g)) (zSz Z4)))))] [0, 1, 2, 3, 4, 5, 6, 7, 8, 9, 17, 18, 10, 11, 12, 13, 14, 15, 16] rfl rfl rfl ?_
                  refine g_st [.int (nI (rcv q nr T p (4 * f + g)))] (by rw [fnd_F, rcv, show (4 * f + g) / 4 = f by omega, show (4 * f + g) % 4 = g by omega]) ?_
                  refine g_istore C [(6, .int (nI (rcv q nr T p (4 * f + g)))), (0, .ref x0), (1, .int (nI p)), (2, .int (nI ((rch q nr T p (4 * f + g)).2))), (3, .int ((rch q nr T p (4 * f + g)).1)), (4, .int (nI f)), (5, .int (nI g))] dX7_richest_91 (by decide) rfl ?_
                  refine g_iload C 0 rfl dX7_richest_93 ?_
                  refine g_iload_n C 4 rfl dX7_richest_95 ?_
                  refine g_icmp_le C 111 dX7_richest_96 rfl (fun c96 => ?_) (fun c96 => ?_)
                  · skip
                    refine g_lo2 [(6, .int (nI (rcv q nr T p (4 * f + g)))), (0, .ref x0), (1, .int (nI p)), (2, .int (nI ((rch q nr T p (4 * f + (g + 1))).2))), (3, .int ((rch q nr T p (4 * f + (g + 1))).1)), (4, .int (nI f)), (5, .int (nI g))] (by rw [show (rch q nr T p (4 * f + (g + 1))) = rch q nr T p (4 * f + g) from by rw [← Nat.add_assoc, rch, if_neg (Int32.not_lt.mpr c96)]]) ?_
                    refine g_iinc C (nI (g + 1)) [(5, .int (nI (g + 1))), (6, .int (nI (rcv q nr T p (4 * f + g)))), (0, .ref x0), (1, .int (nI p)), (2, .int (nI ((rch q nr T p (4 * f + (g + 1))).2))), (3, .int ((rch q nr T p (4 * f + (g + 1))).1)), (4, .int (nI f))] 6 dX7_richest_111 rfl (ii_1 _) (by decide) rfl ?_
                    refine g_goto C 35 dX7_richest_114 rfl ?_
                    refine g_lo [2, 3, 4, 5, 6, 0] [(0, .ref x0), (1, .int (nI p)), (2, .int (nI ((rch q nr T p (4 * f + (g + 1))).2))), (3, .int ((rch q nr T p (4 * f + (g + 1))).1)), (4, .int (nI f)), (5, .int (nI (g + 1)))] rfl ?_
                    exact ih35 (g + 1) ((zPut T (64 * p + 8 * f + g), q, nr)) ((fnd q nr (zPut T (64 * p + 8 * f + g)) (zSz Z4))) K5 (by omega) (by omega)
                  · skip
                    refine g_iload C 0 rfl dX7_richest_99 ?_
                    refine g_istore_n C [(3, .int (nI (rcv q nr T p (4 * f + g)))), (6, .int (nI (rcv q nr T p (4 * f + g)))), (0, .ref x0), (1, .int (nI p)), (2, .int (nI ((rch q nr T p (4 * f + g)).2))), (4, .int (nI f)), (5, .int (nI g))] dX7_richest_101 rfl (by decide) rfl ?_
                    refine g_iconst C (nI 0) ic_0 dX7_richest_102 ?_
                    refine g_iload C 5 rfl dX7_richest_103 ?_
                    refine g_iload C 6 rfl dX7_richest_105 ?_
                    refine g_callS0 C (nA := 3) (k_X1_of l D ty 0 f g ) wm_X7_60 ws_X1_of wi_X1 wc_X1_of rfl (by decide +kernel) ⟨(Nat.le_of_ble_eq_true rfl), (Nat.le_of_ble_eq_true rfl)⟩ ⟨rfl, rfl⟩ dX7_richest_107 (fun _ _ h => h.2) (Nat.le_of_ble_eq_true rfl) rfl ⟨Nat.zero_le _, Nat.zero_le _⟩ (fun r hp => ?_)
                    obtain ⟨rfl, -⟩ := hp
                    refine g_st [.int (nI (64 * 0 + 8 * f + g))] rfl ?_
                    refine g_istore_n C [(2, .int (nI (64 * 0 + 8 * f + g))), (3, .int (nI (rcv q nr T p (4 * f + g)))), (6, .int (nI (rcv q nr T p (4 * f + g)))), (0, .ref x0), (1, .int (nI p)), (4, .int (nI f)), (5, .int (nI g))] dX7_richest_110 rfl (by decide) rfl ?_
                    refine g_lo2 [(2, .int (nI ((rch q nr T p (4 * f + (g + 1))).2))), (3, .int ((rch q nr T p (4 * f + (g + 1))).1)), (6, .int (nI (rcv q nr T p (4 * f + g)))), (0, .ref x0), (1, .int (nI p)), (4, .int (nI f)), (5, .int (nI g))] (by rw [show (rch q nr T p (4 * f + (g + 1))) = (nI (rcv q nr T p (4 * f + g)), 8 * f + g) from by rw [← Nat.add_assoc, rch, if_pos (Int32.not_le.mp c96), show (4 * f + g) / 4 = f by omega, show (4 * f + g) % 4 = g by omega]]; simp only [Nat.mul_zero, Nat.zero_add]) ?_
                    refine g_iinc C (nI (g + 1)) [(5, .int (nI (g + 1))), (2, .int (nI ((rch q nr T p (4 * f + (g + 1))).2))), (3, .int ((rch q nr T p (4 * f + (g + 1))).1)), (6, .int (nI (rcv q nr T p (4 * f + g)))), (0, .ref x0), (1, .int (nI p)), (4, .int (nI f))] 6 dX7_richest_111 rfl (ii_1 _) (by decide) rfl ?_
                    refine g_goto C 35 dX7_richest_114 rfl ?_
                    refine g_lo [4, 5, 1, 2, 6, 0] [(0, .ref x0), (1, .int (nI p)), (2, .int (nI ((rch q nr T p (4 * f + (g + 1))).2))), (3, .int ((rch q nr T p (4 * f + (g + 1))).1)), (4, .int (nI f)), (5, .int (nI (g + 1)))] rfl ?_
                    exact ih35 (g + 1) ((zPut T (64 * p + 8 * f + g), q, nr)) ((fnd q nr (zPut T (64 * p + 8 * f + g)) (zSz Z4))) K5 (by omega) (by omega)
            exact L35 (4 - 0 + 1) 0 P3 Z3 K3 (by omega) (Nat.lt_succ_self _)
      exact L26 (4 - 0 + 1) 0 P Z2 K2 (by omega) (Nat.lt_succ_self _)
    · skip
      exact absurd c6 (by omega)
