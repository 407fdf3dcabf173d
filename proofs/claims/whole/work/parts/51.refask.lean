/-! the reference's questions -/
section FN0
variable {q : Nat → Nat} {nr : Nat} {T : Nat → Bool} {sz : Nat → Int32}
theorem fnd_mt : zMt (fnd q nr T sz) = zMt (fn0 q nr T) := congrArg (fun c => c.2.2.1) (fnd_cz q nr T sz)
theorem fnd_dr : zDr (fnd q nr T sz) = zDr (fn0 q nr T) := congrArg (fun c => c.2.2.2.1) (fnd_cz q nr T sz)
theorem fnd_ro : zRo (fnd q nr T sz) = zRo (fn0 q nr T) := congrArg (fun c => c.2.2.2.2.1) (fnd_cz q nr T sz)
theorem fnd_ru : zRu (fnd q nr T sz) = zRu (fn0 q nr T) := congrArg (fun c => c.2.2.2.2.2) (fnd_cz q nr T sz)
theorem cnA_0 (sc w : Nat) : cnA T nr (fnd q nr T sz) sc w = cnA T nr (fn0 q nr T) sc w := by unfold cnA; rw [fnd_F, fnd_rd, fnd_mt, fnd_dr]
theorem fdA_0 (k w : Nat) : fdA (fnd q nr T sz) k w = fdA (fn0 q nr T) k w := by unfold fdA; rw [fnd_F, fnd_ro, fnd_ru]
theorem wiA_0 (r w : Nat) : wiA (fnd q nr T sz) q nr T r w = wiA (fn0 q nr T) q nr T r w := by unfold wiA; rw [fnd_F]
theorem brA_0 : brA (fnd q nr T sz) T = brA (fn0 q nr T) T := by unfold brA; rw [fnd_F]
end FN0
theorem two_pw : ∀ k, k < 16 → nI 1 <<< (nI k &&& 31) = nI (2 ^ k) := by decide +kernel
theorem zmsk_or {p : Nat → Bool} {n : Nat} (h : p n = true) : zmsk p n ||| 2 ^ n = zmsk p (n + 1) := by
  apply znat_ext
  intro i
  rw [Nat.testBit_or, zmsk_tb, zmsk_tb, Nat.testBit_two_pow]
  by_cases e : n = i
  · subst e; rw [decide_eq_true rfl, decide_eq_true (Nat.lt_succ_self n), h]; simp
  · rw [decide_eq_false e, Bool.or_false, show decide (i < n + 1) = decide (i < n) from decide_eq_decide.mpr (by omega)]
theorem isF_k {p k : Nat} (hp : p < 4) (hk : k < 16) : isF (64 * p + 8 * (k / 4) + k % 4) = true := isF_c hp (by omega) (by omega)
theorem tS_put {T : Nat → Bool} {c a : Nat} (ha : a < 256) : zPut T c a = ((T a && !decide (a = 256)) || decide (a = c)) := by
  unfold zPut
  rw [decide_eq_false (show ¬ a = 256 by omega)]
  by_cases e : a = c <;> simp [e]
theorem tS_take {T : Nat → Bool} {c a : Nat} (ha : a < 256) : zTake T c a = ((T a && !decide (a = c)) || decide (a = 256)) := by
  unfold zTake
  rw [decide_eq_false (show ¬ a = 256 by omega)]
  by_cases e : a = c <;> simp [e]
theorem tS_0 {T : Nat → Bool} {a : Nat} (ha : a < 256) : T a = ((T a && !decide (a = 256)) || decide (a = 256)) := by
  rw [decide_eq_false (show ¬ a = 256 by omega)]; simp
def rbM (q : Nat → Nat) (nr : Nat) (T : Nat → Bool) (p i : Nat) : Int32 := if i = 0 then nI 0 else (rch q nr T p i).1
def rbB (q : Nat → Nat) (nr : Nat) (T : Nat → Bool) (p i : Nat) : Int32 := if i = 0 then -1 else nI (64 * p + (rch q nr T p i).2)
theorem rcv_pos {q : Nat → Nat} {nr : Nat} (hq : okQ q nr) {T : Nat → Bool} (hT : okF T) {p j : Nat} (hp : p < 4) (hj : j < 16) : 0 < rcv q nr T p j ∧ rcv q nr T p j ≤ 64 := by
  have hf := isF_k hp hj
  have ok : okF (zPut T (64 * p + 8 * (j / 4) + j % 4)) := okF_put hT hf (by omega)
  have h1 := insU_fnd hq ok (fun _ => 0)
  have h2 : 0 < insU (zPut T (64 * p + 8 * (j / 4) + j % 4)) 4 := by
    rw [← alI_ins ok]
    refine zcnt_pos.mpr ⟨64 * p + 8 * (j / 4) + j % 4, by omega, ?_⟩
    unfold alI
    rw [decide_eq_true (show (64 * p + 8 * (j / 4) + j % 4) / 8 % 8 < 4 by omega), decide_eq_true (show (64 * p + 8 * (j / 4) + j % 4) % 8 < 4 by omega)]
    exact foll_iff.mpr (Or.inl (by unfold zPut; rw [if_pos rfl]))
  have h3 := insU_64 (zF (fnd q nr (zPut T (64 * p + 8 * (j / 4) + j % 4)) (fun _ => 0))) 4
  unfold rcv fn0
  omega
theorem rb_t {q : Nat → Nat} {nr : Nat} {T : Nat → Bool} {p i : Nat} (h : rbM q nr T p i < nI (rcv q nr T p i)) (hs : rcv q nr T p i ≤ 64) : rbM q nr T p (i + 1) = nI (rcv q nr T p i) ∧ rbB q nr T p (i + 1) = nI (64 * p + 8 * (i / 4) + i % 4) := by
  have e : rch q nr T p (i + 1) = (nI (rcv q nr T p i), 8 * (i / 4) + i % 4) := by
    rw [rch, if_pos]
    by_cases z : i = 0
    · subst z
      show (-1 : Int32) < nI (rcv q nr T p 0)
      have : ∀ k, k < 65 → (-1 : Int32) < nI k := by decide +kernel
      exact this _ (by omega)
    · unfold rbM at h
      rw [if_neg z] at h
      exact h
  unfold rbM rbB
  rw [if_neg (by omega), if_neg (by omega), e]
  exact ⟨rfl, by rw [Nat.add_assoc]⟩
theorem rb_f {q : Nat → Nat} {nr : Nat} {T : Nat → Bool} {p i : Nat} (h : ¬ rbM q nr T p i < nI (rcv q nr T p i)) (hs : 0 < rcv q nr T p i) (hs2 : rcv q nr T p i ≤ 64) : rbM q nr T p (i + 1) = rbM q nr T p i ∧ rbB q nr T p (i + 1) = rbB q nr T p i := by
  by_cases z : i = 0
  · subst z
    refine absurd ?_ h
    exact (nI_ltI (by omega) (by omega)).mpr hs
  · unfold rbM at h ⊢
    unfold rbB
    rw [if_neg z] at h ⊢
    rw [if_neg z, if_neg (by omega), if_neg (by omega), rch, if_neg h]
    exact ⟨rfl, rfl⟩
theorem rch_lt (q : Nat → Nat) (nr : Nat) (T : Nat → Bool) (p n : Nat) (hn : n ≤ 16) : (rch q nr T p n).2 < 64 := by
  induction n with
  | zero => exact Nat.zero_lt_succ _
  | succ n ih =>
    rw [rch]
    split
    · show 8 * (n / 4) + n % 4 < 64
      omega
    · exact ih (by omega)
theorem rcv_eq {q : Nat → Nat} {nr : Nat} (hq : okQ q nr) {T : Nat → Bool} (hT : okF T) {p i : Nat} (hp : p < 4) (hi : i < 16) (sz : Nat → Int32) : zcnt (alI (zF (fndB q nr 256 (zPut T (64 * p + 8 * (i / 4) + i % 4)) sz))) 256 = rcv q nr T p i := by
  have ok : okF (zPut T (64 * p + 8 * (i / 4) + i % 4)) := okF_put hT (isF_k hp hi) (by omega)
  rw [alI_ins (fndB_ok hq ok sz).1, fndB_256 hq.1, fnd_F]
  rfl

def r_X8_counts : Room := { frames := 9, cells := 0, slots := 0, locals := 207 }
set_option maxRecDepth 100000 in
set_option maxHeartbeats 4000000 in
theorem k_X8_counts (l : Launch) (D : va_G) (ty : Nat → ClassId) (x0 : Nat) (th : Nat) (i1 : Nat) (i2 : Nat) (sd : Nat) (i3 : Nat) (ln : Nat) (j1 : Nat) (j2 : Nat) (j3 : Nat) (j4 : Nat) (j5 : Nat) (j6 : Nat) (fm : Nat) (j7 : Nat) (j8 : Nat) (tt : Nat) (wl : Bool) (j9 : Nat) (lm : Nat) (hs : Int64) (T : Nat → Bool) (q : Nat → Nat) (nr : Nat) (Z : ZT) (U0 : Nat → Bool) (nb : Nat → Int32) (S0 : Nat → Int32) (C0 : Nat → Int32) (w : Nat) (hq : okQ q nr) (hT : okF T) (hw : w < 8) : gM l D ty yX8_counts cX8_counts 2 (some (FieldType.int : FieldType)) r_X8_counts 0 0 [.ref x0, .int (nI w)] [(x0, .inr (6, [.int (nI th), .ref i1, .ref i2, .int (nI sd), .ref i3, .int (nI ln), .ref j1, .ref j2, .ref j3, .ref j4, .ref j5, .ref j6, .int (nI fm), .int (nI (zRd Z)), .int (nI (zMt Z)), .int (nI (zDr Z)), .ref j7, .ref j8, .int (nI tt), .int (bI (wl)), .ref j9, .int (nI lm), .long (hs)])), (i1, .inl (ty 0, 275, .inl (eR (sM T q nr)))), (j1, .inl (ty 2, 256, .inl (zB (zF Z)))), (j2, .inl (ty 0, 256, .inl (zRo Z))), (j3, .inl (ty 0, 256, .inl (zRu Z))), (j4, .inl (ty 2, 256, .inl (zB U0))), (j5, .inl (ty 0, 256, .inl (nb))), (j6, .inl (ty 0, 300, .inl (zSz Z))), (j7, .inl (ty 0, 8, .inl (S0))), (j8, .inl (ty 0, 8, .inl (C0)))] (fun (zr : Option Value) (zW : va_W) => ∃ (Z9 : ZT) (fm9 : Nat) (U9 : Nat → Bool) (N9 : Nat → Int32) (S9 : Nat → Int32) (C9 : Nat → Int32), zr = some (.int (nI (cnA T nr (fn0 q nr T) sd w))) ∧ zW = [(x0, .inr (6, [.int (nI th), .ref i1, .ref i2, .int (nI sd), .ref i3, .int (nI ln), .ref j1, .ref j2, .ref j3, .ref j4, .ref j5, .ref j6, .int (nI fm9), .int (nI (zRd Z9)), .int (nI (zMt Z9)), .int (nI (zDr Z9)), .ref j7, .ref j8, .int (nI tt), .int (bI (wl)), .ref j9, .int (nI lm), .long (hs)])), (i1, .inl (ty 0, 275, .inl (eR (sM T q nr)))), (j1, .inl (ty 2, 256, .inl (zB (zF Z9)))), (j2, .inl (ty 0, 256, .inl (zRo Z9))), (j3, .inl (ty 0, 256, .inl (zRu Z9))), (j4, .inl (ty 2, 256, .inl (zB U9))), (j5, .inl (ty 0, 256, .inl (N9))), (j6, .inl (ty 0, 300, .inl (zSz Z9))), (j7, .inl (ty 0, 8, .inl (S9))), (j8, .inl (ty 0, 8, .inl (C9)))]) := by
  refine gM_of RX8 rfl (by decide +kernel) (Nat.le_of_ble_eq_true rfl) ?_
  intro pg en s0 mi ag bl mth cd AA HH QQ C E hnm
  show gW pg l en r_X8_counts s0 mi ag bl mth cd 2 D AA HH QQ 0 [(0, .ref x0), (1, .int (nI w))] [] [(x0, .inr (6, [.int (nI th), .ref i1, .ref i2, .int (nI sd), .ref i3, .int (nI ln), .ref j1, .ref j2, .ref j3, .ref j4, .ref j5, .ref j6, .int (nI fm), .int (nI (zRd Z)), .int (nI (zMt Z)), .int (nI (zDr Z)), .ref j7, .ref j8, .int (nI tt), .int (bI (wl)), .ref j9, .int (nI lm), .long (hs)])), (i1, .inl (ty 0, 275, .inl (eR (sM T q nr)))), (j1, .inl (ty 2, 256, .inl (zB (zF Z)))), (j2, .inl (ty 0, 256, .inl (zRo Z))), (j3, .inl (ty 0, 256, .inl (zRu Z))), (j4, .inl (ty 2, 256, .inl (zB U0))), (j5, .inl (ty 0, 256, .inl (nb))), (j6, .inl (ty 0, 300, .inl (zSz Z))), (j7, .inl (ty 0, 8, .inl (S0))), (j8, .inl (ty 0, 8, .inl (C0)))] 0 0
  refine g_aload_n C 0 rfl dX8_counts_0 ?_
  refine g_callV C (nA := 0) (ci := 6) (q0 := 0) (As := []) (wr := []) (k_X8_searchesAll l D ty x0 th i1 i2 sd i3 ln j1 j2 j3 j4 j5 j6 fm j7 j8 tt wl j9 lm hs T q nr Z U0 nb S0 C0 hq hT) wm_X8_148 wn_X8_searchesAll wv_X8_searchesAll wi_X8 wc_X8_searchesAll rfl (by decide +kernel) ⟨(Nat.le_of_ble_eq_true rfl), (Nat.le_of_ble_eq_true rfl)⟩ ⟨rfl, rfl⟩ dX8_counts_1 ⟨Nat.zero_le _, Nat.zero_le _⟩ rfl rfl rfl [0, 1, 2, 3, 4, 5, 6, 7, 8, 9] [] rfl rfl rfl rfl (by decide) (Nat.le_of_ble_eq_true rfl) rfl (fun r W1 hp => ?_)
  obtain ⟨U1, N1, S1, C1, rfl, rfl⟩ := hp
  refine g_fix [] [(x0, .inr (6, [.int (nI th), .ref i1, .ref i2, .int (nI sd), .ref i3, .int (nI ln), .ref j1, .ref j2, .ref j3, .ref j4, .ref j5, .ref j6, .int (nI (zcnt (zF (fnd q nr T (zSz Z))) 256)), .int (nI (zRd ((fnd q nr T (zSz Z))))), .int (nI (zMt ((fnd q nr T (zSz Z))))), .int (nI (zDr ((fnd q nr T (zSz Z))))), .ref j7, .ref j8, .int (nI tt), .int (bI (wl)), .ref j9, .int (nI lm), .long (hs)])), (i1, .inl (ty 0, 275, .inl (eR (sM T q nr)))), (j1, .inl (ty 2, 256, .inl (zB (zF ((fnd q nr T (zSz Z))))))), (j2, .inl (ty 0, 256, .inl (zRo ((fnd q nr T (zSz Z)))))), (j3, .inl (ty 0, 256, .inl (zRu ((fnd q nr T (zSz Z)))))), (j4, .inl (ty 2, 256, .inl (zB U1))), (j5, .inl (ty 0, 256, .inl (N1))), (j6, .inl (ty 0, 300, .inl (zSz ((fnd q nr T (zSz Z)))))), (j7, .inl (ty 0, 8, .inl (S1))), (j8, .inl (ty 0, 8, .inl (C1)))] [0, 1, 2, 3, 4, 5, 6, 7, 8, 9] rfl rfl rfl ?_
  have hok := fnd_ok hq hT (zSz Z)
  refine g_iload_n C 1 rfl dX8_counts_4 ?_
  rcases (show w = 0 ∨ w = 1 ∨ w = 2 ∨ w = 3 ∨ w = 4 ∨ w = 5 ∨ w = 6 ∨ w = 7 by omega) with hs9 | hs9 | hs9 | hs9 | hs9 | hs9 | hs9 | hs9
  · skip
    refine g_tswIn C (off := 43) (nI 0) (by rw [hs9]) 48 dX8_counts_5 (by decide +kernel) (by decide +kernel) (by decide +kernel) rfl ?_
    refine g_aload_n C 0 rfl dX8_counts_48 ?_
    refine g_callV C (nA := 0) (ci := 6) (q0 := 0) (As := []) (wr := [(j1, .inl (ty 2, 256, .inl (zB (zF ((fnd q nr T (zSz Z))))))), (j2, .inl (ty 0, 256, .inl (zRo ((fnd q nr T (zSz Z)))))), (j3, .inl (ty 0, 256, .inl (zRu ((fnd q nr T (zSz Z)))))), (j4, .inl (ty 2, 256, .inl (zB U1))), (j5, .inl (ty 0, 256, .inl (N1))), (j6, .inl (ty 0, 300, .inl (zSz ((fnd q nr T (zSz Z)))))), (j7, .inl (ty 0, 8, .inl (S1))), (j8, .inl (ty 0, 8, .inl (C1)))]) (k_X8_toldMany l D ty x0 th i1 i2 sd i3 ln j1 j2 j3 j4 j5 j6 (zcnt (zF (fnd q nr T (zSz Z))) 256) (zRd (fnd q nr T (zSz Z))) (zMt (fnd q nr T (zSz Z))) (zDr (fnd q nr T (zSz Z))) j7 j8 tt wl j9 lm hs T q nr ) wm_X8_134 wn_X8_toldMany wv_X8_toldMany wi_X8 wc_X8_toldMany rfl (by decide +kernel) ⟨(Nat.le_of_ble_eq_true rfl), (Nat.le_of_ble_eq_true rfl)⟩ ⟨rfl, rfl⟩ dX8_counts_49 ⟨Nat.zero_le _, Nat.zero_le _⟩ rfl rfl rfl [0, 1] [2, 3, 4, 5, 6, 7, 8, 9] rfl rfl rfl rfl (by decide) (Nat.le_of_ble_eq_true rfl) rfl (fun r W1 hp => ?_)
    obtain ⟨rfl, rfl⟩ := hp
    refine g_fix [.int (nI (zcnt T 256))] [(x0, .inr (6, [.int (nI th), .ref i1, .ref i2, .int (nI sd), .ref i3, .int (nI ln), .ref j1, .ref j2, .ref j3, .ref j4, .ref j5, .ref j6, .int (nI ((zcnt (zF (fnd q nr T (zSz Z))) 256))), .int (nI ((zRd (fnd q nr T (zSz Z))))), .int (nI ((zMt (fnd q nr T (zSz Z))))), .int (nI ((zDr (fnd q nr T (zSz Z))))), .ref j7, .ref j8, .int (nI tt), .int (bI (wl)), .ref j9, .int (nI lm), .long (hs)])), (i1, .inl (ty 0, 275, .inl (eR (sM T q nr)))), (j1, .inl (ty 2, 256, .inl (zB (zF ((fnd q nr T (zSz Z))))))), (j2, .inl (ty 0, 256, .inl (zRo ((fnd q nr T (zSz Z)))))), (j3, .inl (ty 0, 256, .inl (zRu ((fnd q nr T (zSz Z)))))), (j4, .inl (ty 2, 256, .inl (zB U1))), (j5, .inl (ty 0, 256, .inl (N1))), (j6, .inl (ty 0, 300, .inl (zSz ((fnd q nr T (zSz Z)))))), (j7, .inl (ty 0, 8, .inl (S1))), (j8, .inl (ty 0, 8, .inl (C1)))] [8, 9, 0, 1, 2, 3, 4, 5, 6, 7] rfl rfl rfl ?_
    exact g_iret E dX8_counts_52 (by decide) (by decide) ⟨(fnd q nr T (zSz Z)), (zcnt (zF (fnd q nr T (zSz Z))) 256), U1, N1, S1, C1, (congrArg (fun z => some (Value.int (nI z))) (by rw [hs9]; rfl)), rfl⟩
  · skip
    refine g_tswIn C (off := 48) (nI 1) (by rw [hs9]) 53 dX8_counts_5 (by decide +kernel) (by decide +kernel) (by decide +kernel) rfl ?_
    refine g_aload_n C 0 rfl dX8_counts_53 ?_
    refine g_getf C wu_X8 0 rfl rfl 1 (by decide) wf_X8_7 rfl rfl dX8_counts_54 ?_
    refine g_sipush C (nI 256) sp_256 dX8_counts_57 ?_
    refine g_iald C 1 rfl 256 rfl (by omega) (by decide) (nI nr) (sM_n hq.1) dX8_counts_60 ?_
    exact g_iret E dX8_counts_61 (by decide) (by decide) ⟨(fnd q nr T (zSz Z)), (zcnt (zF (fnd q nr T (zSz Z))) 256), U1, N1, S1, C1, (congrArg (fun z => some (Value.int (nI z))) (by rw [hs9]; rfl)), rfl⟩
  · skip
    refine g_tswIn C (off := 57) (nI 2) (by rw [hs9]) 62 dX8_counts_5 (by decide +kernel) (by decide +kernel) (by decide +kernel) rfl ?_
    refine g_aload_n C 0 rfl dX8_counts_62 ?_
    refine g_getf C wu_X8 0 rfl rfl 12 (by decide) wf_X8_86 rfl rfl dX8_counts_63 ?_
    exact g_iret E dX8_counts_66 (by decide) (by decide) ⟨(fnd q nr T (zSz Z)), (zcnt (zF (fnd q nr T (zSz Z))) 256), U1, N1, S1, C1, (congrArg (fun z => some (Value.int (nI z))) (by rw [hs9]; exact congrArg (fun f => zcnt f 256) (fnd_F _ _ _ _))), rfl⟩
  · skip
    refine g_tswIn C (off := 62) (nI 3) (by rw [hs9]) 67 dX8_counts_5 (by decide +kernel) (by decide +kernel) (by decide +kernel) rfl ?_
    refine g_aload_n C 0 rfl dX8_counts_67 ?_
    refine g_getf C wu_X8 0 rfl rfl 13 (by decide) wf_X8_112 rfl rfl dX8_counts_68 ?_
    exact g_iret E dX8_counts_71 (by decide) (by decide) ⟨(fnd q nr T (zSz Z)), (zcnt (zF (fnd q nr T (zSz Z))) 256), U1, N1, S1, C1, (congrArg (fun z => some (Value.int (nI z))) (by rw [hs9]; exact fnd_rd _ _ _ _)), rfl⟩
  · skip
    refine g_tswIn C (off := 67) (nI 4) (by rw [hs9]) 72 dX8_counts_5 (by decide +kernel) (by decide +kernel) (by decide +kernel) rfl ?_
    refine g_aload_n C 0 rfl dX8_counts_72 ?_
    refine g_getf C wu_X8 0 rfl rfl 14 (by decide) wf_X8_89 rfl rfl dX8_counts_73 ?_
    exact g_iret E dX8_counts_76 (by decide) (by decide) ⟨(fnd q nr T (zSz Z)), (zcnt (zF (fnd q nr T (zSz Z))) 256), U1, N1, S1, C1, (congrArg (fun z => some (Value.int (nI z))) (by rw [hs9]; exact fnd_mt)), rfl⟩
  · skip
    refine g_tswIn C (off := 72) (nI 5) (by rw [hs9]) 77 dX8_counts_5 (by decide +kernel) (by decide +kernel) (by decide +kernel) rfl ?_
    refine g_aload_n C 0 rfl dX8_counts_77 ?_
    refine g_getf C wu_X8 0 rfl rfl 15 (by decide) wf_X8_83 rfl rfl dX8_counts_78 ?_
    exact g_iret E dX8_counts_81 (by decide) (by decide) ⟨(fnd q nr T (zSz Z)), (zcnt (zF (fnd q nr T (zSz Z))) 256), U1, N1, S1, C1, (congrArg (fun z => some (Value.int (nI z))) (by rw [hs9]; exact fnd_dr)), rfl⟩
  · skip
    refine g_tswIn C (off := 77) (nI 6) (by rw [hs9]) 82 dX8_counts_5 (by decide +kernel) (by decide +kernel) (by decide +kernel) rfl ?_
    refine g_aload_n C 0 rfl dX8_counts_82 ?_
    refine g_callV C (nA := 0) (ci := 6) (q0 := 0) (As := []) (wr := [(i1, .inl (ty 0, 275, .inl (eR (sM T q nr)))), (j2, .inl (ty 0, 256, .inl (zRo ((fnd q nr T (zSz Z)))))), (j3, .inl (ty 0, 256, .inl (zRu ((fnd q nr T (zSz Z)))))), (j4, .inl (ty 2, 256, .inl (zB U1))), (j5, .inl (ty 0, 256, .inl (N1))), (j6, .inl (ty 0, 300, .inl (zSz ((fnd q nr T (zSz Z)))))), (j7, .inl (ty 0, 8, .inl (S1))), (j8, .inl (ty 0, 8, .inl (C1)))]) (k_X8_allInstances l D ty x0 th i1 i2 sd i3 ln j1 j2 j3 j4 j5 j6 (zcnt (zF (fnd q nr T (zSz Z))) 256) (zRd (fnd q nr T (zSz Z))) (zMt (fnd q nr T (zSz Z))) (zDr (fnd q nr T (zSz Z))) j7 j8 tt wl j9 lm hs (zF (fnd q nr T (zSz Z))) hok.1) wm_X8_198 wn_X8_allInstances wv_X8_allInstances wi_X8 wc_X8_allInstances rfl (by decide +kernel) ⟨(Nat.le_of_ble_eq_true rfl), (Nat.le_of_ble_eq_true rfl)⟩ ⟨rfl, rfl⟩ dX8_counts_83 ⟨Nat.zero_le _, Nat.zero_le _⟩ rfl rfl rfl [0, 2] [1, 3, 4, 5, 6, 7, 8, 9] rfl rfl rfl rfl (by decide) (Nat.le_of_ble_eq_true rfl) rfl (fun r W1 hp => ?_)
    obtain ⟨rfl, rfl⟩ := hp
    refine g_fix [.int (nI (zcnt (alI (zF (fnd q nr T (zSz Z)))) 256))] [(x0, .inr (6, [.int (nI th), .ref i1, .ref i2, .int (nI sd), .ref i3, .int (nI ln), .ref j1, .ref j2, .ref j3, .ref j4, .ref j5, .ref j6, .int (nI ((zcnt (zF (fnd q nr T (zSz Z))) 256))), .int (nI ((zRd (fnd q nr T (zSz Z))))), .int (nI ((zMt (fnd q nr T (zSz Z))))), .int (nI ((zDr (fnd q nr T (zSz Z))))), .ref j7, .ref j8, .int (nI tt), .int (bI (wl)), .ref j9, .int (nI lm), .long (hs)])), (i1, .inl (ty 0, 275, .inl (eR (sM T q nr)))), (j1, .inl (ty 2, 256, .inl (zB (zF (fnd q nr T (zSz Z)))))), (j2, .inl (ty 0, 256, .inl (zRo ((fnd q nr T (zSz Z)))))), (j3, .inl (ty 0, 256, .inl (zRu ((fnd q nr T (zSz Z)))))), (j4, .inl (ty 2, 256, .inl (zB U1))), (j5, .inl (ty 0, 256, .inl (N1))), (j6, .inl (ty 0, 300, .inl (zSz ((fnd q nr T (zSz Z)))))), (j7, .inl (ty 0, 8, .inl (S1))), (j8, .inl (ty 0, 8, .inl (C1)))] [8, 0, 9, 1, 2, 3, 4, 5, 6, 7] rfl rfl rfl ?_
    exact g_iret E dX8_counts_86 (by decide) (by decide) ⟨(fnd q nr T (zSz Z)), (zcnt (zF (fnd q nr T (zSz Z))) 256), U1, N1, S1, C1, (congrArg (fun z => some (Value.int (nI z))) (by rw [hs9]; exact (alI_ins hok.1).trans (congrArg (fun f => insU f 4) (fnd_F _ _ _ _)))), rfl⟩
  · skip
    refine g_tswOut C 87 dX8_counts_5 (by rw [hs9]; decide +kernel) rfl ?_
    refine g_aload_n C 0 rfl dX8_counts_87 ?_
    refine g_getf C wu_X8 0 rfl rfl 3 (by decide) wf_X8_51 rfl rfl dX8_counts_88 ?_
    exact g_iret E dX8_counts_91 (by decide) (by decide) ⟨(fnd q nr T (zSz Z)), (zcnt (zF (fnd q nr T (zSz Z))) 256), U1, N1, S1, C1, (congrArg (fun z => some (Value.int (nI z))) (by rw [hs9]; rfl)), rfl⟩
def r_X8_tellsFound : Room := { frames := 1, cells := 0, slots := 0, locals := 23 }
set_option maxRecDepth 100000 in
set_option maxHeartbeats 4000000 in
theorem k_X8_tellsFound (l : Launch) (D : va_G) (ty : Nat → ClassId) (x0 : Nat) (th : Nat) (i1 : Nat) (i2 : Nat) (sd : Nat) (i3 : Nat) (ln : Nat) (j1 : Nat) (j2 : Nat) (j3 : Nat) (j4 : Nat) (j5 : Nat) (j6 : Nat) (fm : Nat) (j7 : Nat) (j8 : Nat) (tt : Nat) (wl : Bool) (j9 : Nat) (lm : Nat) (hs : Int64) (Z : ZT) (k : Nat) (w : Nat) (hF : okF (zF Z)) (hk : k < 2 ^ 31) (hw : w < 4) : gM l D ty yX8_tellsFound cX8_tellsFound 4 (some (FieldType.int : FieldType)) r_X8_tellsFound 0 0 [.ref x0, .int (nI k), .int (nI w)] [(x0, .inr (6, [.int (nI th), .ref i1, .ref i2, .int (nI sd), .ref i3, .int (nI ln), .ref j1, .ref j2, .ref j3, .ref j4, .ref j5, .ref j6, .int (nI fm), .int (nI (zRd Z)), .int (nI (zMt Z)), .int (nI (zDr Z)), .ref j7, .ref j8, .int (nI tt), .int (bI (wl)), .ref j9, .int (nI lm), .long (hs)])), (j1, .inl (ty 2, 256, .inl (zB (zF Z)))), (j2, .inl (ty 0, 256, .inl (zRo Z))), (j3, .inl (ty 0, 256, .inl (zRu Z)))] (fun (zr : Option Value) (zW : va_W) => zr = some (.int (fdA Z k w)) ∧ zW = [(x0, .inr (6, [.int (nI th), .ref i1, .ref i2, .int (nI sd), .ref i3, .int (nI ln), .ref j1, .ref j2, .ref j3, .ref j4, .ref j5, .ref j6, .int (nI fm), .int (nI (zRd Z)), .int (nI (zMt Z)), .int (nI (zDr Z)), .ref j7, .ref j8, .int (nI tt), .int (bI (wl)), .ref j9, .int (nI lm), .long (hs)])), (j1, .inl (ty 2, 256, .inl (zB (zF Z)))), (j2, .inl (ty 0, 256, .inl (zRo Z))), (j3, .inl (ty 0, 256, .inl (zRu Z)))]) := by
  refine gM_of RX8 rfl (by decide +kernel) (Nat.le_of_ble_eq_true rfl) ?_
  intro pg en s0 mi ag bl mth cd AA HH QQ C E hnm
  show gW pg l en r_X8_tellsFound s0 mi ag bl mth cd 4 D AA HH QQ 0 [(0, .ref x0), (1, .int (nI k)), (2, .int (nI w))] [] [(x0, .inr (6, [.int (nI th), .ref i1, .ref i2, .int (nI sd), .ref i3, .int (nI ln), .ref j1, .ref j2, .ref j3, .ref j4, .ref j5, .ref j6, .int (nI fm), .int (nI (zRd Z)), .int (nI (zMt Z)), .int (nI (zDr Z)), .ref j7, .ref j8, .int (nI tt), .int (bI (wl)), .ref j9, .int (nI lm), .long (hs)])), (j1, .inl (ty 2, 256, .inl (zB (zF Z)))), (j2, .inl (ty 0, 256, .inl (zRo Z))), (j3, .inl (ty 0, 256, .inl (zRu Z)))] 0 0
  refine g_aload_n C 0 rfl dX8_tellsFound_0 ?_
  refine g_iload_n C 1 rfl dX8_tellsFound_1 ?_
  refine g_callV C (nA := 1) (ci := 6) (q0 := 0) (As := [.int (nI k)]) (wr := [(j2, .inl (ty 0, 256, .inl (zRo Z))), (j3, .inl (ty 0, 256, .inl (zRu Z)))]) (k_X8_foundAt l D ty x0 th i1 i2 sd i3 ln j1 j2 j3 j4 j5 j6 fm (zRd Z) (zMt Z) (zDr Z) j7 j8 tt wl j9 lm hs (zF Z) k (by omega)) wm_X8_189 wn_X8_foundAt wv_X8_foundAt wi_X8 wc_X8_foundAt rfl (by decide +kernel) ⟨(Nat.le_of_ble_eq_true rfl), (Nat.le_of_ble_eq_true rfl)⟩ ⟨rfl, rfl⟩ dX8_tellsFound_2 ⟨Nat.zero_le _, Nat.zero_le _⟩ rfl rfl rfl [0, 1] [2, 3] rfl rfl rfl rfl (by decide) (Nat.le_of_ble_eq_true rfl) rfl (fun r W1 hp => ?_)
  obtain ⟨rfl, rfl⟩ := hp
  refine g_fix [.int (eO (nth (zF Z) k 256))] [(x0, .inr (6, [.int (nI th), .ref i1, .ref i2, .int (nI sd), .ref i3, .int (nI ln), .ref j1, .ref j2, .ref j3, .ref j4, .ref j5, .ref j6, .int (nI fm), .int (nI ((zRd Z))), .int (nI ((zMt Z))), .int (nI ((zDr Z))), .ref j7, .ref j8, .int (nI tt), .int (bI (wl)), .ref j9, .int (nI lm), .long (hs)])), (j1, .inl (ty 2, 256, .inl (zB (zF Z)))), (j2, .inl (ty 0, 256, .inl (zRo Z))), (j3, .inl (ty 0, 256, .inl (zRu Z)))] [2, 3, 0, 1] rfl rfl rfl ?_
  rcases hn : nth (zF Z) k 256 with _ | a
  · skip
    refine g_st [.int (-1)] rfl ?_
    refine g_istore_n C [(3, .int (-1)), (0, .ref x0), (1, .int (nI k)), (2, .int (nI w))] dX8_tellsFound_5 rfl (by decide) rfl ?_
    refine g_iload_n C 0 rfl dX8_tellsFound_6 ?_
    refine g_iconst C (-1) ic_m1 dX8_tellsFound_7 ?_
    refine g_icmp_eq C 15 dX8_tellsFound_8 rfl (fun c8 => ?_) (fun c8 => ?_)
    · skip
      refine g_iload_n C 0 rfl dX8_tellsFound_15 ?_
      exact g_iret E dX8_tellsFound_16 (by decide) (by decide) ⟨(congrArg (fun z => some (Value.int z)) (by rw [fdA_n hn])), rfl⟩
    · skip
      exact absurd rfl c8
  · skip
    have ha := (nth_sp hn).1
    have hfa := (hF a (nth_sp hn).2.1).1
    refine g_st [.int (nI a)] rfl ?_
    refine g_istore_n C [(3, .int (nI a)), (0, .ref x0), (1, .int (nI k)), (2, .int (nI w))] dX8_tellsFound_5 rfl (by decide) rfl ?_
    refine g_iload_n C 0 rfl dX8_tellsFound_6 ?_
    refine g_iconst C (-1) ic_m1 dX8_tellsFound_7 ?_
    refine g_icmp_eq C 15 dX8_tellsFound_8 rfl (fun c8 => ?_) (fun c8 => ?_)
    · skip
      exact absurd c8 (nI_nm1 ha)
    · skip
      refine g_iload_n C 3 rfl dX8_tellsFound_11 ?_
      refine g_if_neN C w 17 rfl (by omega) dX8_tellsFound_12 rfl (fun c12 => ?_) (fun c12 => ?_)
      · skip
        refine g_iload_n C 3 rfl dX8_tellsFound_17 ?_
        refine g_iconst C (nI 1) ic_1 dX8_tellsFound_18 ?_
        refine g_icmp_neN C w 1 31 rfl rfl (by omega) (by omega) dX8_tellsFound_19 rfl (fun c19 => ?_) (fun c19 => ?_)
        · skip
          refine g_iload_n C 3 rfl dX8_tellsFound_31 ?_
          refine g_iconst C (nI 2) ic_2 dX8_tellsFound_32 ?_
          refine g_icmp_neN C w 2 45 rfl rfl (by omega) (by omega) dX8_tellsFound_33 rfl (fun c33 => ?_) (fun c33 => ?_)
          · skip
            refine g_iload_n C 0 rfl dX8_tellsFound_45 ?_
            refine g_callS0 C (nA := 1) (k_X8_instancesOf l D ty a (by omega)) wm_X8_192 ws_X8_instancesOf wi_X8 wc_X8_instancesOf rfl (by decide +kernel) ⟨(Nat.le_of_ble_eq_true rfl), (Nat.le_of_ble_eq_true rfl)⟩ ⟨rfl, rfl⟩ dX8_tellsFound_46 (fun _ _ h => h.2) (Nat.le_of_ble_eq_true rfl) rfl ⟨Nat.zero_le _, Nat.zero_le _⟩ (fun r hp => ?_)
            obtain ⟨rfl, -⟩ := hp
            refine g_st [.int (nI (iC a))] rfl ?_
            exact g_iret E dX8_tellsFound_49 (by decide) (by decide) ⟨(congrArg (fun z => some (Value.int z)) (by rw [fdA_s hn, if_neg (show ¬ w = 0 by omega), if_neg (show ¬ w = 1 by omega), if_neg (show ¬ w = 2 by omega), iB_C a ha hfa])), rfl⟩
          · skip
            refine g_aload_n C 1 rfl dX8_tellsFound_36 ?_
            refine g_getf C wu_X8 0 rfl rfl 8 (by decide) wf_X8_26 rfl rfl dX8_tellsFound_37 ?_
            refine g_iload_n C 0 rfl dX8_tellsFound_40 ?_
            refine g_iald C 3 rfl a rfl (by omega) (by decide) ((zRu Z) a) rfl dX8_tellsFound_41 ?_
            refine g_goto C 49 dX8_tellsFound_42 rfl ?_
            exact g_iret E dX8_tellsFound_49 (by decide) (by decide) ⟨(congrArg (fun z => some (Value.int z)) (by rw [fdA_s hn, if_neg (show ¬ w = 0 by omega), if_neg (show ¬ w = 1 by omega), if_pos (show w = 2 by omega)])), rfl⟩
        · skip
          refine g_aload_n C 1 rfl dX8_tellsFound_22 ?_
          refine g_getf C wu_X8 0 rfl rfl 7 (by decide) wf_X8_23 rfl rfl dX8_tellsFound_23 ?_
          refine g_iload_n C 0 rfl dX8_tellsFound_26 ?_
          refine g_iald C 2 rfl a rfl (by omega) (by decide) ((zRo Z) a) rfl dX8_tellsFound_27 ?_
          refine g_goto C 49 dX8_tellsFound_28 rfl ?_
          exact g_iret E dX8_tellsFound_49 (by decide) (by decide) ⟨(congrArg (fun z => some (Value.int z)) (by rw [fdA_s hn, if_neg (show ¬ w = 0 by omega), if_pos (show w = 1 by omega)])), rfl⟩
      · skip
        refine g_iload_n C 0 rfl dX8_tellsFound_15 ?_
        exact g_iret E dX8_tellsFound_16 (by decide) (by decide) ⟨(congrArg (fun z => some (Value.int z)) (by rw [fdA_s hn, if_pos (show w = 0 by omega)])), rfl⟩
def r_X8_following : Room := { frames := 9, cells := 0, slots := 0, locals := 207 }
set_option maxRecDepth 100000 in
set_option maxHeartbeats 4000000 in
theorem k_X8_following (l : Launch) (D : va_G) (ty : Nat → ClassId) (x0 : Nat) (th : Nat) (i1 : Nat) (i2 : Nat) (sd : Nat) (i3 : Nat) (ln : Nat) (j1 : Nat) (j2 : Nat) (j3 : Nat) (j4 : Nat) (j5 : Nat) (j6 : Nat) (fm : Nat) (j7 : Nat) (j8 : Nat) (tt : Nat) (wl : Bool) (j9 : Nat) (lm : Nat) (hs : Int64) (T : Nat → Bool) (q : Nat → Nat) (nr : Nat) (Z : ZT) (U0 : Nat → Bool) (nb : Nat → Int32) (S0 : Nat → Int32) (C0 : Nat → Int32) (a : Nat) (hq : okQ q nr) (hT : okF T) (ha : a < 256) (hf : isF a = true) : gM l D ty yX8_following cX8_following 2 (some (FieldType.int : FieldType)) r_X8_following 0 0 [.ref x0, .int (nI a)] [(x0, .inr (6, [.int (nI th), .ref i1, .ref i2, .int (nI sd), .ref i3, .int (nI ln), .ref j1, .ref j2, .ref j3, .ref j4, .ref j5, .ref j6, .int (nI fm), .int (nI (zRd Z)), .int (nI (zMt Z)), .int (nI (zDr Z)), .ref j7, .ref j8, .int (nI tt), .int (bI (wl)), .ref j9, .int (nI lm), .long (hs)])), (i1, .inl (ty 0, 275, .inl (eR (sM T q nr)))), (j1, .inl (ty 2, 256, .inl (zB (zF Z)))), (j2, .inl (ty 0, 256, .inl (zRo Z))), (j3, .inl (ty 0, 256, .inl (zRu Z))), (j4, .inl (ty 2, 256, .inl (zB U0))), (j5, .inl (ty 0, 256, .inl (nb))), (j6, .inl (ty 0, 300, .inl (zSz Z))), (j7, .inl (ty 0, 8, .inl (S0))), (j8, .inl (ty 0, 8, .inl (C0)))] (fun (zr : Option Value) (zW : va_W) => ∃ (Z9 : ZT) (fm9 : Nat) (U9 : Nat → Bool) (N9 : Nat → Int32) (S9 : Nat → Int32) (C9 : Nat → Int32), zr = some (.int (nI (flA (zF (fn0 q nr T)) a))) ∧ zW = [(x0, .inr (6, [.int (nI th), .ref i1, .ref i2, .int (nI sd), .ref i3, .int (nI ln), .ref j1, .ref j2, .ref j3, .ref j4, .ref j5, .ref j6, .int (nI fm9), .int (nI (zRd Z9)), .int (nI (zMt Z9)), .int (nI (zDr Z9)), .ref j7, .ref j8, .int (nI tt), .int (bI (wl)), .ref j9, .int (nI lm), .long (hs)])), (i1, .inl (ty 0, 275, .inl (eR (sM T q nr)))), (j1, .inl (ty 2, 256, .inl (zB (zF Z9)))), (j2, .inl (ty 0, 256, .inl (zRo Z9))), (j3, .inl (ty 0, 256, .inl (zRu Z9))), (j4, .inl (ty 2, 256, .inl (zB U9))), (j5, .inl (ty 0, 256, .inl (N9))), (j6, .inl (ty 0, 300, .inl (zSz Z9))), (j7, .inl (ty 0, 8, .inl (S9))), (j8, .inl (ty 0, 8, .inl (C9)))]) := by
  refine gM_of RX8 rfl (by decide +kernel) (Nat.le_of_ble_eq_true rfl) ?_
  intro pg en s0 mi ag bl mth cd AA HH QQ C E hnm
  show gW pg l en r_X8_following s0 mi ag bl mth cd 2 D AA HH QQ 0 [(0, .ref x0), (1, .int (nI a))] [] [(x0, .inr (6, [.int (nI th), .ref i1, .ref i2, .int (nI sd), .ref i3, .int (nI ln), .ref j1, .ref j2, .ref j3, .ref j4, .ref j5, .ref j6, .int (nI fm), .int (nI (zRd Z)), .int (nI (zMt Z)), .int (nI (zDr Z)), .ref j7, .ref j8, .int (nI tt), .int (bI (wl)), .ref j9, .int (nI lm), .long (hs)])), (i1, .inl (ty 0, 275, .inl (eR (sM T q nr)))), (j1, .inl (ty 2, 256, .inl (zB (zF Z)))), (j2, .inl (ty 0, 256, .inl (zRo Z))), (j3, .inl (ty 0, 256, .inl (zRu Z))), (j4, .inl (ty 2, 256, .inl (zB U0))), (j5, .inl (ty 0, 256, .inl (nb))), (j6, .inl (ty 0, 300, .inl (zSz Z))), (j7, .inl (ty 0, 8, .inl (S0))), (j8, .inl (ty 0, 8, .inl (C0)))] 0 0
  refine g_aload_n C 0 rfl dX8_following_0 ?_
  refine g_callV C (nA := 0) (ci := 6) (q0 := 0) (As := []) (wr := []) (k_X8_searchesAll l D ty x0 th i1 i2 sd i3 ln j1 j2 j3 j4 j5 j6 fm j7 j8 tt wl j9 lm hs T q nr Z U0 nb S0 C0 hq hT) wm_X8_148 wn_X8_searchesAll wv_X8_searchesAll wi_X8 wc_X8_searchesAll rfl (by decide +kernel) ⟨(Nat.le_of_ble_eq_true rfl), (Nat.le_of_ble_eq_true rfl)⟩ ⟨rfl, rfl⟩ dX8_following_1 ⟨Nat.zero_le _, Nat.zero_le _⟩ rfl rfl rfl [0, 1, 2, 3, 4, 5, 6, 7, 8, 9] [] rfl rfl rfl rfl (by decide) (Nat.le_of_ble_eq_true rfl) rfl (fun r W1 hp => ?_)
  obtain ⟨U1, N1, S1, C1, rfl, rfl⟩ := hp
  refine g_fix [] [(x0, .inr (6, [.int (nI th), .ref i1, .ref i2, .int (nI sd), .ref i3, .int (nI ln), .ref j1, .ref j2, .ref j3, .ref j4, .ref j5, .ref j6, .int (nI (zcnt (zF (fnd q nr T (zSz Z))) 256)), .int (nI (zRd ((fnd q nr T (zSz Z))))), .int (nI (zMt ((fnd q nr T (zSz Z))))), .int (nI (zDr ((fnd q nr T (zSz Z))))), .ref j7, .ref j8, .int (nI tt), .int (bI (wl)), .ref j9, .int (nI lm), .long (hs)])), (i1, .inl (ty 0, 275, .inl (eR (sM T q nr)))), (j1, .inl (ty 2, 256, .inl (zB (zF ((fnd q nr T (zSz Z))))))), (j2, .inl (ty 0, 256, .inl (zRo ((fnd q nr T (zSz Z)))))), (j3, .inl (ty 0, 256, .inl (zRu ((fnd q nr T (zSz Z)))))), (j4, .inl (ty 2, 256, .inl (zB U1))), (j5, .inl (ty 0, 256, .inl (N1))), (j6, .inl (ty 0, 300, .inl (zSz ((fnd q nr T (zSz Z)))))), (j7, .inl (ty 0, 8, .inl (S1))), (j8, .inl (ty 0, 8, .inl (C1)))] [0, 1, 2, 3, 4, 5, 6, 7, 8, 9] rfl rfl rfl ?_
  have hok := fnd_ok hq hT (zSz Z)
  refine g_aload_n C 0 rfl dX8_following_4 ?_
  refine g_getf C wu_X8 0 rfl rfl 6 (by decide) wf_X8_19 rfl rfl dX8_following_5 ?_
  refine g_iload_n C 1 rfl dX8_following_8 ?_
  refine g_zald C 2 rfl a rfl (by omega) (by decide) (bI ((zF ((fnd q nr T (zSz Z)))) a)) rfl dX8_following_9 ?_
  refine g_if_eqB C ((zF ((fnd q nr T (zSz Z)))) a) 17 rfl dX8_following_10 rfl (fun c10 => ?_) (fun c10 => ?_)
  · skip
    refine g_aload_n C 0 rfl dX8_following_17 ?_
    refine g_iload_n C 1 rfl dX8_following_18 ?_
    refine g_callV C (nA := 1) (ci := 6) (q0 := 0) (As := [.int (nI a)]) (wr := [(i1, .inl (ty 0, 275, .inl (eR (sM T q nr)))), (j2, .inl (ty 0, 256, .inl (zRo ((fnd q nr T (zSz Z)))))), (j3, .inl (ty 0, 256, .inl (zRu ((fnd q nr T (zSz Z)))))), (j4, .inl (ty 2, 256, .inl (zB U1))), (j5, .inl (ty 0, 256, .inl (N1))), (j6, .inl (ty 0, 300, .inl (zSz ((fnd q nr T (zSz Z)))))), (j7, .inl (ty 0, 8, .inl (S1))), (j8, .inl (ty 0, 8, .inl (C1)))]) (k_X8_hasStronger l D ty x0 th i1 i2 sd i3 ln j1 j2 j3 j4 j5 j6 (zcnt (zF (fnd q nr T (zSz Z))) 256) (zRd (fnd q nr T (zSz Z))) (zMt (fnd q nr T (zSz Z))) (zDr (fnd q nr T (zSz Z))) j7 j8 tt wl j9 lm hs (zF (fnd q nr T (zSz Z))) a hok.1 (by omega) hf) wm_X8_80 wn_X8_hasStronger wv_X8_hasStronger wi_X8 wc_X8_hasStronger rfl (by decide +kernel) ⟨(Nat.le_of_ble_eq_true rfl), (Nat.le_of_ble_eq_true rfl)⟩ ⟨rfl, rfl⟩ dX8_following_19 ⟨Nat.zero_le _, Nat.zero_le _⟩ rfl rfl rfl [0, 2] [1, 3, 4, 5, 6, 7, 8, 9] rfl rfl rfl rfl (by decide) (Nat.le_of_ble_eq_true rfl) rfl (fun r W1 hp => ?_)
    obtain ⟨rfl, rfl⟩ := hp
    refine g_fix [.int (bI (wk (zF (fnd q nr T (zSz Z))) a))] [(x0, .inr (6, [.int (nI th), .ref i1, .ref i2, .int (nI sd), .ref i3, .int (nI ln), .ref j1, .ref j2, .ref j3, .ref j4, .ref j5, .ref j6, .int (nI ((zcnt (zF (fnd q nr T (zSz Z))) 256))), .int (nI ((zRd (fnd q nr T (zSz Z))))), .int (nI ((zMt (fnd q nr T (zSz Z))))), .int (nI ((zDr (fnd q nr T (zSz Z))))), .ref j7, .ref j8, .int (nI tt), .int (bI (wl)), .ref j9, .int (nI lm), .long (hs)])), (i1, .inl (ty 0, 275, .inl (eR (sM T q nr)))), (j1, .inl (ty 2, 256, .inl (zB (zF (fnd q nr T (zSz Z)))))), (j2, .inl (ty 0, 256, .inl (zRo ((fnd q nr T (zSz Z)))))), (j3, .inl (ty 0, 256, .inl (zRu ((fnd q nr T (zSz Z)))))), (j4, .inl (ty 2, 256, .inl (zB U1))), (j5, .inl (ty 0, 256, .inl (N1))), (j6, .inl (ty 0, 300, .inl (zSz ((fnd q nr T (zSz Z)))))), (j7, .inl (ty 0, 8, .inl (S1))), (j8, .inl (ty 0, 8, .inl (C1)))] [8, 0, 9, 1, 2, 3, 4, 5, 6, 7] rfl rfl rfl ?_
    refine g_if_eqB C (wk (zF (fnd q nr T (zSz Z))) a) 29 rfl dX8_following_22 rfl (fun c22 => ?_) (fun c22 => ?_)
    · skip
      refine g_iconst C (nI 0) ic_0 dX8_following_29 ?_
      exact g_iret E dX8_following_30 (by decide) (by decide) ⟨(fnd q nr T (zSz Z)), (zcnt (zF (fnd q nr T (zSz Z))) 256), U1, N1, S1, C1, (congrArg (fun z => some (Value.int (nI z))) (by rw [← fnd_F q nr T (zSz Z)]; unfold flA foll; simp only [c10, Bool.false_or, Bool.false_eq_true, if_true, if_false]; first | done | (simp only [c22, Bool.false_eq_true, if_true, if_false]; done))), rfl⟩
    · skip
      refine g_iconst C (nI 1) ic_1 dX8_following_25 ?_
      refine g_goto C 30 dX8_following_26 rfl ?_
      exact g_iret E dX8_following_30 (by decide) (by decide) ⟨(fnd q nr T (zSz Z)), (zcnt (zF (fnd q nr T (zSz Z))) 256), U1, N1, S1, C1, (congrArg (fun z => some (Value.int (nI z))) (by rw [← fnd_F q nr T (zSz Z)]; unfold flA foll; simp only [c10, Bool.false_or, Bool.false_eq_true, if_true, if_false]; first | done | (simp only [c22, Bool.false_eq_true, if_true, if_false]; done))), rfl⟩
  · skip
    refine g_iconst C (nI 2) ic_2 dX8_following_13 ?_
    refine g_goto C 30 dX8_following_14 rfl ?_
    exact g_iret E dX8_following_30 (by decide) (by decide) ⟨(fnd q nr T (zSz Z)), (zcnt (zF (fnd q nr T (zSz Z))) 256), U1, N1, S1, C1, (congrArg (fun z => some (Value.int (nI z))) (by rw [← fnd_F q nr T (zSz Z)]; unfold flA foll; simp only [c10, Bool.false_or, Bool.false_eq_true, if_true, if_false]; first | done | (simp only [c22, Bool.false_eq_true, if_true, if_false]; done))), rfl⟩
def r_X8_maskOf : Room := { frames := 9, cells := 0, slots := 0, locals := 207 }
set_option maxRecDepth 100000 in
set_option maxHeartbeats 4000000 in
theorem k_X8_maskOf (l : Launch) (D : va_G) (ty : Nat → ClassId) (x0 : Nat) (th : Nat) (i1 : Nat) (i2 : Nat) (sd : Nat) (i3 : Nat) (ln : Nat) (j1 : Nat) (j2 : Nat) (j3 : Nat) (j4 : Nat) (j5 : Nat) (j6 : Nat) (fm : Nat) (j7 : Nat) (j8 : Nat) (tt : Nat) (wl : Bool) (j9 : Nat) (lm : Nat) (hs : Int64) (T : Nat → Bool) (q : Nat → Nat) (nr : Nat) (Z : ZT) (U0 : Nat → Bool) (nb : Nat → Int32) (S0 : Nat → Int32) (C0 : Nat → Int32) (a : Nat) (hq : okQ q nr) (hT : okF T) (ha : a < 256) (hf : isF a = true) : gM l D ty yX8_maskOf cX8_maskOf 5 (some (FieldType.int : FieldType)) r_X8_maskOf 0 0 [.ref x0, .int (nI a)] [(x0, .inr (6, [.int (nI th), .ref i1, .ref i2, .int (nI sd), .ref i3, .int (nI ln), .ref j1, .ref j2, .ref j3, .ref j4, .ref j5, .ref j6, .int (nI fm), .int (nI (zRd Z)), .int (nI (zMt Z)), .int (nI (zDr Z)), .ref j7, .ref j8, .int (nI tt), .int (bI (wl)), .ref j9, .int (nI lm), .long (hs)])), (i1, .inl (ty 0, 275, .inl (eR (sM T q nr)))), (j1, .inl (ty 2, 256, .inl (zB (zF Z)))), (j2, .inl (ty 0, 256, .inl (zRo Z))), (j3, .inl (ty 0, 256, .inl (zRu Z))), (j4, .inl (ty 2, 256, .inl (zB U0))), (j5, .inl (ty 0, 256, .inl (nb))), (j6, .inl (ty 0, 300, .inl (zSz Z))), (j7, .inl (ty 0, 8, .inl (S0))), (j8, .inl (ty 0, 8, .inl (C0)))] (fun (zr : Option Value) (zW : va_W) => ∃ (Z9 : ZT) (fm9 : Nat) (U9 : Nat → Bool) (N9 : Nat → Int32) (S9 : Nat → Int32) (C9 : Nat → Int32), zr = some (.int (nI (iM a &&& imp (zF (fn0 q nr T)) (a / 64) 38))) ∧ zW = [(x0, .inr (6, [.int (nI th), .ref i1, .ref i2, .int (nI sd), .ref i3, .int (nI ln), .ref j1, .ref j2, .ref j3, .ref j4, .ref j5, .ref j6, .int (nI fm9), .int (nI (zRd Z9)), .int (nI (zMt Z9)), .int (nI (zDr Z9)), .ref j7, .ref j8, .int (nI tt), .int (bI (wl)), .ref j9, .int (nI lm), .long (hs)])), (i1, .inl (ty 0, 275, .inl (eR (sM T q nr)))), (j1, .inl (ty 2, 256, .inl (zB (zF Z9)))), (j2, .inl (ty 0, 256, .inl (zRo Z9))), (j3, .inl (ty 0, 256, .inl (zRu Z9))), (j4, .inl (ty 2, 256, .inl (zB U9))), (j5, .inl (ty 0, 256, .inl (N9))), (j6, .inl (ty 0, 300, .inl (zSz Z9))), (j7, .inl (ty 0, 8, .inl (S9))), (j8, .inl (ty 0, 8, .inl (C9)))]) := by
  refine gM_of RX8 rfl (by decide +kernel) (Nat.le_of_ble_eq_true rfl) ?_
  intro pg en s0 mi ag bl mth cd AA HH QQ C E hnm
  show gW pg l en r_X8_maskOf s0 mi ag bl mth cd 5 D AA HH QQ 0 [(0, .ref x0), (1, .int (nI a))] [] [(x0, .inr (6, [.int (nI th), .ref i1, .ref i2, .int (nI sd), .ref i3, .int (nI ln), .ref j1, .ref j2, .ref j3, .ref j4, .ref j5, .ref j6, .int (nI fm), .int (nI (zRd Z)), .int (nI (zMt Z)), .int (nI (zDr Z)), .ref j7, .ref j8, .int (nI tt), .int (bI (wl)), .ref j9, .int (nI lm), .long (hs)])), (i1, .inl (ty 0, 275, .inl (eR (sM T q nr)))), (j1, .inl (ty 2, 256, .inl (zB (zF Z)))), (j2, .inl (ty 0, 256, .inl (zRo Z))), (j3, .inl (ty 0, 256, .inl (zRu Z))), (j4, .inl (ty 2, 256, .inl (zB U0))), (j5, .inl (ty 0, 256, .inl (nb))), (j6, .inl (ty 0, 300, .inl (zSz Z))), (j7, .inl (ty 0, 8, .inl (S0))), (j8, .inl (ty 0, 8, .inl (C0)))] 0 0
  refine g_aload_n C 0 rfl dX8_maskOf_0 ?_
  refine g_callV C (nA := 0) (ci := 6) (q0 := 0) (As := []) (wr := []) (k_X8_searchesAll l D ty x0 th i1 i2 sd i3 ln j1 j2 j3 j4 j5 j6 fm j7 j8 tt wl j9 lm hs T q nr Z U0 nb S0 C0 hq hT) wm_X8_148 wn_X8_searchesAll wv_X8_searchesAll wi_X8 wc_X8_searchesAll rfl (by decide +kernel) ⟨(Nat.le_of_ble_eq_true rfl), (Nat.le_of_ble_eq_true rfl)⟩ ⟨rfl, rfl⟩ dX8_maskOf_1 ⟨Nat.zero_le _, Nat.zero_le _⟩ rfl rfl rfl [0, 1, 2, 3, 4, 5, 6, 7, 8, 9] [] rfl rfl rfl rfl (by decide) (Nat.le_of_ble_eq_true rfl) rfl (fun r W1 hp => ?_)
  obtain ⟨U1, N1, S1, C1, rfl, rfl⟩ := hp
  refine g_fix [] [(x0, .inr (6, [.int (nI th), .ref i1, .ref i2, .int (nI sd), .ref i3, .int (nI ln), .ref j1, .ref j2, .ref j3, .ref j4, .ref j5, .ref j6, .int (nI (zcnt (zF (fnd q nr T (zSz Z))) 256)), .int (nI (zRd ((fnd q nr T (zSz Z))))), .int (nI (zMt ((fnd q nr T (zSz Z))))), .int (nI (zDr ((fnd q nr T (zSz Z))))), .ref j7, .ref j8, .int (nI tt), .int (bI (wl)), .ref j9, .int (nI lm), .long (hs)])), (i1, .inl (ty 0, 275, .inl (eR (sM T q nr)))), (j1, .inl (ty 2, 256, .inl (zB (zF ((fnd q nr T (zSz Z))))))), (j2, .inl (ty 0, 256, .inl (zRo ((fnd q nr T (zSz Z)))))), (j3, .inl (ty 0, 256, .inl (zRu ((fnd q nr T (zSz Z)))))), (j4, .inl (ty 2, 256, .inl (zB U1))), (j5, .inl (ty 0, 256, .inl (N1))), (j6, .inl (ty 0, 300, .inl (zSz ((fnd q nr T (zSz Z)))))), (j7, .inl (ty 0, 8, .inl (S1))), (j8, .inl (ty 0, 8, .inl (C1)))] [0, 1, 2, 3, 4, 5, 6, 7, 8, 9] rfl rfl rfl ?_
  have hok := fnd_ok hq hT (zSz Z)
  refine g_iconst C (nI 0) ic_0 dX8_maskOf_4 ?_
  refine g_istore_n C [(2, .int (nI 0)), (0, .ref x0), (1, .int (nI a))] dX8_maskOf_5 rfl (by decide) rfl ?_
  refine g_iconst C (nI 0) ic_0 dX8_maskOf_6 ?_
  refine g_istore_n C [(3, .int (nI 0)), (2, .int (nI 0)), (0, .ref x0), (1, .int (nI a))] dX8_maskOf_7 rfl (by decide) rfl ?_
  refine g_lo [2, 3, 1, 0] [(0, .ref x0), (1, .int (nI a)), (2, .int (nI 0)), (3, .int (nI 0))] rfl ?_
  have L8 : ∀ (fu8 : Nat) (i : Nat) (hi : i ≤ 16), (16 - i) < fu8 → gW pg l en r_X8_maskOf s0 mi ag bl mth cd 5 D AA HH QQ 8 [(0, .ref x0), (1, .int (nI a)), (2, .int (nI (mkM (zF (fn0 q nr T)) a i))), (3, .int (nI i))] [] [(x0, .inr (6, [.int (nI th), .ref i1, .ref i2, .int (nI sd), .ref i3, .int (nI ln), .ref j1, .ref j2, .ref j3, .ref j4, .ref j5, .ref j6, .int (nI (zcnt (zF (fnd q nr T (zSz Z))) 256)), .int (nI (zRd ((fnd q nr T (zSz Z))))), .int (nI (zMt ((fnd q nr T (zSz Z))))), .int (nI (zDr ((fnd q nr T (zSz Z))))), .ref j7, .ref j8, .int (nI tt), .int (bI (wl)), .ref j9, .int (nI lm), .long (hs)])), (i1, .inl (ty 0, 275, .inl (eR (sM T q nr)))), (j1, .inl (ty 2, 256, .inl (zB (zF ((fnd q nr T (zSz Z))))))), (j2, .inl (ty 0, 256, .inl (zRo ((fnd q nr T (zSz Z)))))), (j3, .inl (ty 0, 256, .inl (zRu ((fnd q nr T (zSz Z)))))), (j4, .inl (ty 2, 256, .inl (zB U1))), (j5, .inl (ty 0, 256, .inl (N1))), (j6, .inl (ty 0, 300, .inl (zSz ((fnd q nr T (zSz Z)))))), (j7, .inl (ty 0, 8, .inl (S1))), (j8, .inl (ty 0, 8, .inl (C1)))] 0 0 := by
    intro fu8
    induction fu8 with
    | zero => intro i hi hfu; exact absurd hfu (Nat.not_lt_zero _)
    | succ fu8 ih8 =>
      intro i hi hfu8
      refine g_iload_n C 3 rfl dX8_maskOf_8 ?_
      refine g_bipush C (nI 16) bp_16 dX8_maskOf_9 ?_
      refine g_icmp_geN C i 16 68 rfl rfl (by omega) (by omega) dX8_maskOf_11 rfl (fun c11 => ?_) (fun c11 => ?_)
      · skip
        refine g_iload_n C 2 rfl dX8_maskOf_68 ?_
        exact g_iret E dX8_maskOf_69 (by decide) (by decide) ⟨(fnd q nr T (zSz Z)), (zcnt (zF (fnd q nr T (zSz Z))) 256), U1, N1, S1, C1, (congrArg (fun z => some (Value.int (nI z))) (by rw [show i = 16 by omega, mkM_ok (by rw [← fnd_F q nr T (zSz Z)]; exact hok.1) ha hf])), rfl⟩
      · skip
        refine g_iload_n C 1 rfl dX8_maskOf_14 ?_
        refine g_bipush C (nI 64) bp_64 dX8_maskOf_15 ?_
        refine g_idiv C (nI (a / 64)) (by decide +kernel) dX8_maskOf_17 (pk_div (by omega) (by omega) (by omega)) ?_
        refine g_bipush C (nI 64) bp_64 dX8_maskOf_18 ?_
        refine g_imul C (nI ((a / 64) * 64)) dX8_maskOf_20 (pk_mul _ _) ?_
        refine g_bipush C (nI 8) bp_8 dX8_maskOf_21 ?_
        refine g_iload_n C 3 rfl dX8_maskOf_23 ?_
        refine g_iconst C (nI 4) ic_4 dX8_maskOf_24 ?_
        refine g_idiv C (nI (i / 4)) (by decide +kernel) dX8_maskOf_25 (pk_div (by omega) (by omega) (by omega)) ?_
        refine g_imul C (nI (8 * (i / 4))) dX8_maskOf_26 (pk_mul _ _) ?_
        refine g_iadd C (nI (((a / 64) * 64) + (8 * (i / 4)))) dX8_maskOf_27 (nI_add _ _) ?_
        refine g_iload_n C 3 rfl dX8_maskOf_28 ?_
        refine g_iconst C (nI 4) ic_4 dX8_maskOf_29 ?_
        refine g_irem C (nI (i % 4)) (by decide +kernel) dX8_maskOf_30 (pk_rem (by omega) (by omega) (by omega)) ?_
        refine g_iadd C (nI ((((a / 64) * 64) + (8 * (i / 4))) + (i % 4))) dX8_maskOf_31 (nI_add _ _) ?_
        refine g_istore C [(4, .int (nI ((((a / 64) * 64) + (8 * (i / 4))) + (i % 4)))), (0, .ref x0), (1, .int (nI a)), (2, .int (nI (mkM (zF (fn0 q nr T)) a i))), (3, .int (nI i))] dX8_maskOf_32 (by decide) rfl ?_
        refine g_iload_n C 3 rfl dX8_maskOf_34 ?_
        refine g_iload_n C 2 rfl dX8_maskOf_35 ?_
        refine g_iload C 0 rfl dX8_maskOf_36 ?_
        refine g_callS0 C (nA := 2) (k_X8_isOf l D ty a ((((a / 64) * 64) + (8 * (i / 4))) + (i % 4)) (by omega) (by omega)) wm_X8_207 ws_X8_isOf wi_X8 wc_X8_isOf rfl (by decide +kernel) ⟨(Nat.le_of_ble_eq_true rfl), (Nat.le_of_ble_eq_true rfl)⟩ ⟨rfl, rfl⟩ dX8_maskOf_38 (fun _ _ h => h.2) (Nat.le_of_ble_eq_true rfl) rfl ⟨Nat.zero_le _, Nat.zero_le _⟩ (fun r hp => ?_)
        obtain ⟨rfl, -⟩ := hp
        refine g_st [.int (bI (isO a ((((a / 64) * 64) + (8 * (i / 4))) + (i % 4)))), .int (nI (mkM (zF (fn0 q nr T)) a i))] rfl ?_
        refine g_if_eqB C (isO a ((((a / 64) * 64) + (8 * (i / 4))) + (i % 4))) 59 rfl dX8_maskOf_41 rfl (fun c41 => ?_) (fun c41 => ?_)
        · skip
          have hb9 : (isO a (a / 64 * 64 + 8 * (i / 4) + i % 4) && foll (zF (fn0 q nr T)) (a / 64 * 64 + 8 * (i / 4) + i % 4)) = false := by rw [c41]; rfl
          refine g_iconst C (nI 0) ic_0 dX8_maskOf_59 ?_
          refine g_ior C (nI (mkM (zF (fn0 q nr T)) a (i + 1))) dX8_maskOf_60 (by rw [show mkM (zF (fn0 q nr T)) a (i + 1) = mkM (zF (fn0 q nr T)) a i from zmsk_f _ hb9]; exact (nI_orw _ 0).trans (by rw [Nat.or_zero])) ?_
          refine g_istore_n C [(2, .int (nI (mkM (zF (fn0 q nr T)) a (i + 1)))), (4, .int (nI ((((a / 64) * 64) + (8 * (i / 4))) + (i % 4)))), (0, .ref x0), (1, .int (nI a)), (3, .int (nI i))] dX8_maskOf_61 rfl (by decide) rfl ?_
          refine g_iinc C (nI (i + 1)) [(3, .int (nI (i + 1))), (2, .int (nI (mkM (zF (fn0 q nr T)) a (i + 1)))), (4, .int (nI ((((a / 64) * 64) + (8 * (i / 4))) + (i % 4)))), (0, .ref x0), (1, .int (nI a))] 4 dX8_maskOf_62 rfl (ii_1 _) (by decide) rfl ?_
          refine g_goto C 8 dX8_maskOf_65 rfl ?_
          refine g_lo [3, 4, 1, 0] [(0, .ref x0), (1, .int (nI a)), (2, .int (nI (mkM (zF (fn0 q nr T)) a (i + 1)))), (3, .int (nI (i + 1)))] rfl ?_
          exact ih8 (i + 1) (by omega) (by omega)
        · skip
          refine g_aload_n C 1 rfl dX8_maskOf_44 ?_
          refine g_iload C 0 rfl dX8_maskOf_45 ?_
          refine g_callV C (nA := 1) (ci := 6) (q0 := 0) (As := [.int (nI ((((a / 64) * 64) + (8 * (i / 4))) + (i % 4)))]) (wr := [(i1, .inl (ty 0, 275, .inl (eR (sM T q nr)))), (j2, .inl (ty 0, 256, .inl (zRo ((fnd q nr T (zSz Z)))))), (j3, .inl (ty 0, 256, .inl (zRu ((fnd q nr T (zSz Z)))))), (j4, .inl (ty 2, 256, .inl (zB U1))), (j5, .inl (ty 0, 256, .inl (N1))), (j6, .inl (ty 0, 300, .inl (zSz ((fnd q nr T (zSz Z)))))), (j7, .inl (ty 0, 8, .inl (S1))), (j8, .inl (ty 0, 8, .inl (C1)))]) (k_X8_isFollowing l D ty x0 th i1 i2 sd i3 ln j1 j2 j3 j4 j5 j6 (zcnt (zF (fnd q nr T (zSz Z))) 256) (zRd (fnd q nr T (zSz Z))) (zMt (fnd q nr T (zSz Z))) (zDr (fnd q nr T (zSz Z))) j7 j8 tt wl j9 lm hs (zF (fnd q nr T (zSz Z))) ((((a / 64) * 64) + (8 * (i / 4))) + (i % 4)) hok.1 (by omega) (by have := isF_k (p := a / 64) (k := i) (by omega) (by omega); rw [Nat.mul_comm 64] at this; exact this)) wm_X8_125 wn_X8_isFollowing wv_X8_isFollowing wi_X8 wc_X8_isFollowing rfl (by decide +kernel) ⟨(Nat.le_of_ble_eq_true rfl), (Nat.le_of_ble_eq_true rfl)⟩ ⟨rfl, rfl⟩ dX8_maskOf_47 ⟨Nat.zero_le _, Nat.zero_le _⟩ rfl rfl rfl [0, 2] [1, 3, 4, 5, 6, 7, 8, 9] rfl rfl rfl rfl (by decide) (Nat.le_of_ble_eq_true rfl) rfl (fun r W1 hp => ?_)
          obtain ⟨rfl, rfl⟩ := hp
          refine g_fix [.int (bI (foll (zF (fnd q nr T (zSz Z))) ((((a / 64) * 64) + (8 * (i / 4))) + (i % 4)))), .int (nI (mkM (zF (fn0 q nr T)) a i))] [(x0, .inr (6, [.int (nI th), .ref i1, .ref i2, .int (nI sd), .ref i3, .int (nI ln), .ref j1, .ref j2, .ref j3, .ref j4, .ref j5, .ref j6, .int (nI ((zcnt (zF (fnd q nr T (zSz Z))) 256))), .int (nI ((zRd (fnd q nr T (zSz Z))))), .int (nI ((zMt (fnd q nr T (zSz Z))))), .int (nI ((zDr (fnd q nr T (zSz Z))))), .ref j7, .ref j8, .int (nI tt), .int (bI (wl)), .ref j9, .int (nI lm), .long (hs)])), (i1, .inl (ty 0, 275, .inl (eR (sM T q nr)))), (j1, .inl (ty 2, 256, .inl (zB (zF (fnd q nr T (zSz Z)))))), (j2, .inl (ty 0, 256, .inl (zRo ((fnd q nr T (zSz Z)))))), (j3, .inl (ty 0, 256, .inl (zRu ((fnd q nr T (zSz Z)))))), (j4, .inl (ty 2, 256, .inl (zB U1))), (j5, .inl (ty 0, 256, .inl (N1))), (j6, .inl (ty 0, 300, .inl (zSz ((fnd q nr T (zSz Z)))))), (j7, .inl (ty 0, 8, .inl (S1))), (j8, .inl (ty 0, 8, .inl (C1)))] [8, 0, 9, 1, 2, 3, 4, 5, 6, 7] rfl rfl rfl ?_
          refine g_if_eqB C (foll (zF (fnd q nr T (zSz Z))) ((((a / 64) * 64) + (8 * (i / 4))) + (i % 4))) 59 rfl dX8_maskOf_50 rfl (fun c50 => ?_) (fun c50 => ?_)
          · skip
            have hb9 : (isO a (a / 64 * 64 + 8 * (i / 4) + i % 4) && foll (zF (fn0 q nr T)) (a / 64 * 64 + 8 * (i / 4) + i % 4)) = false := by rw [← fnd_F q nr T (zSz Z), c50, Bool.and_false]
            refine g_iconst C (nI 0) ic_0 dX8_maskOf_59 ?_
            refine g_ior C (nI (mkM (zF (fn0 q nr T)) a (i + 1))) dX8_maskOf_60 (by rw [show mkM (zF (fn0 q nr T)) a (i + 1) = mkM (zF (fn0 q nr T)) a i from zmsk_f _ hb9]; exact (nI_orw _ 0).trans (by rw [Nat.or_zero])) ?_
            refine g_istore_n C [(2, .int (nI (mkM (zF (fn0 q nr T)) a (i + 1)))), (4, .int (nI ((((a / 64) * 64) + (8 * (i / 4))) + (i % 4)))), (0, .ref x0), (1, .int (nI a)), (3, .int (nI i))] dX8_maskOf_61 rfl (by decide) rfl ?_
            refine g_iinc C (nI (i + 1)) [(3, .int (nI (i + 1))), (2, .int (nI (mkM (zF (fn0 q nr T)) a (i + 1)))), (4, .int (nI ((((a / 64) * 64) + (8 * (i / 4))) + (i % 4)))), (0, .ref x0), (1, .int (nI a))] 4 dX8_maskOf_62 rfl (ii_1 _) (by decide) rfl ?_
            refine g_goto C 8 dX8_maskOf_65 rfl ?_
            refine g_lo [3, 4, 1, 0] [(0, .ref x0), (1, .int (nI a)), (2, .int (nI (mkM (zF (fn0 q nr T)) a (i + 1)))), (3, .int (nI (i + 1)))] rfl ?_
            exact ih8 (i + 1) (by omega) (by omega)
          · skip
            have hb9 : (isO a (a / 64 * 64 + 8 * (i / 4) + i % 4) && foll (zF (fn0 q nr T)) (a / 64 * 64 + 8 * (i / 4) + i % 4)) = true := by rw [← fnd_F q nr T (zSz Z), c41, c50]; rfl
            refine g_iconst C (nI 1) ic_1 dX8_maskOf_53 ?_
            refine g_iload_n C 4 rfl dX8_maskOf_54 ?_
            refine g_ishl C (nI (2 ^ i)) dX8_maskOf_55 (two_pw i (by omega)) ?_
            refine g_goto C 60 dX8_maskOf_56 rfl ?_
            refine g_ior C (nI (mkM (zF (fn0 q nr T)) a (i + 1))) dX8_maskOf_60 ((nI_orw _ _).trans (congrArg nI (zmsk_or hb9))) ?_
            refine g_istore_n C [(2, .int (nI (mkM (zF (fn0 q nr T)) a (i + 1)))), (4, .int (nI ((((a / 64) * 64) + (8 * (i / 4))) + (i % 4)))), (0, .ref x0), (1, .int (nI a)), (3, .int (nI i))] dX8_maskOf_61 rfl (by decide) rfl ?_
            refine g_iinc C (nI (i + 1)) [(3, .int (nI (i + 1))), (2, .int (nI (mkM (zF (fn0 q nr T)) a (i + 1)))), (4, .int (nI ((((a / 64) * 64) + (8 * (i / 4))) + (i % 4)))), (0, .ref x0), (1, .int (nI a))] 4 dX8_maskOf_62 rfl (ii_1 _) (by decide) rfl ?_
            refine g_goto C 8 dX8_maskOf_65 rfl ?_
            refine g_lo [3, 4, 1, 0] [(0, .ref x0), (1, .int (nI a)), (2, .int (nI (mkM (zF (fn0 q nr T)) a (i + 1)))), (3, .int (nI (i + 1)))] rfl ?_
            exact ih8 (i + 1) (by omega) (by omega)
  exact L8 (16 - 0 + 1) 0 (by omega) (Nat.lt_succ_self _)
def r_X8_behindRound : Room := { frames := 9, cells := 0, slots := 0, locals := 207 }
set_option maxRecDepth 100000 in
set_option maxHeartbeats 4000000 in
theorem k_X8_behindRound (l : Launch) (D : va_G) (ty : Nat → ClassId) (x0 : Nat) (th : Nat) (i1 : Nat) (i2 : Nat) (sd : Nat) (i3 : Nat) (ln : Nat) (j1 : Nat) (j2 : Nat) (j3 : Nat) (j4 : Nat) (j5 : Nat) (j6 : Nat) (fm : Nat) (j7 : Nat) (j8 : Nat) (tt : Nat) (wl : Bool) (j9 : Nat) (lm : Nat) (hs : Int64) (T : Nat → Bool) (q : Nat → Nat) (nr : Nat) (Z : ZT) (U0 : Nat → Bool) (nb : Nat → Int32) (S0 : Nat → Int32) (C0 : Nat → Int32) (r : Nat) (hq : okQ q nr) (hT : okF T) (hr : r < 2 ^ 31) : gM l D ty yX8_behindRound cX8_behindRound 2 (some (FieldType.int : FieldType)) r_X8_behindRound 0 0 [.ref x0, .int (nI r)] [(x0, .inr (6, [.int (nI th), .ref i1, .ref i2, .int (nI sd), .ref i3, .int (nI ln), .ref j1, .ref j2, .ref j3, .ref j4, .ref j5, .ref j6, .int (nI fm), .int (nI (zRd Z)), .int (nI (zMt Z)), .int (nI (zDr Z)), .ref j7, .ref j8, .int (nI tt), .int (bI (wl)), .ref j9, .int (nI lm), .long (hs)])), (i1, .inl (ty 0, 275, .inl (eR (sM T q nr)))), (j1, .inl (ty 2, 256, .inl (zB (zF Z)))), (j2, .inl (ty 0, 256, .inl (zRo Z))), (j3, .inl (ty 0, 256, .inl (zRu Z))), (j4, .inl (ty 2, 256, .inl (zB U0))), (j5, .inl (ty 0, 256, .inl (nb))), (j6, .inl (ty 0, 300, .inl (zSz Z))), (j7, .inl (ty 0, 8, .inl (S0))), (j8, .inl (ty 0, 8, .inl (C0)))] (fun (zr : Option Value) (zW : va_W) => ∃ (Z9 : ZT) (fm9 : Nat) (U9 : Nat → Bool) (N9 : Nat → Int32) (S9 : Nat → Int32) (C9 : Nat → Int32), zr = some (.int (zSz (fn0 q nr T) (min r (zRd (fn0 q nr T))))) ∧ zW = [(x0, .inr (6, [.int (nI th), .ref i1, .ref i2, .int (nI sd), .ref i3, .int (nI ln), .ref j1, .ref j2, .ref j3, .ref j4, .ref j5, .ref j6, .int (nI fm9), .int (nI (zRd Z9)), .int (nI (zMt Z9)), .int (nI (zDr Z9)), .ref j7, .ref j8, .int (nI tt), .int (bI (wl)), .ref j9, .int (nI lm), .long (hs)])), (i1, .inl (ty 0, 275, .inl (eR (sM T q nr)))), (j1, .inl (ty 2, 256, .inl (zB (zF Z9)))), (j2, .inl (ty 0, 256, .inl (zRo Z9))), (j3, .inl (ty 0, 256, .inl (zRu Z9))), (j4, .inl (ty 2, 256, .inl (zB U9))), (j5, .inl (ty 0, 256, .inl (N9))), (j6, .inl (ty 0, 300, .inl (zSz Z9))), (j7, .inl (ty 0, 8, .inl (S9))), (j8, .inl (ty 0, 8, .inl (C9)))]) := by
  refine gM_of RX8 rfl (by decide +kernel) (Nat.le_of_ble_eq_true rfl) ?_
  intro pg en s0 mi ag bl mth cd AA HH QQ C E hnm
  show gW pg l en r_X8_behindRound s0 mi ag bl mth cd 2 D AA HH QQ 0 [(0, .ref x0), (1, .int (nI r))] [] [(x0, .inr (6, [.int (nI th), .ref i1, .ref i2, .int (nI sd), .ref i3, .int (nI ln), .ref j1, .ref j2, .ref j3, .ref j4, .ref j5, .ref j6, .int (nI fm), .int (nI (zRd Z)), .int (nI (zMt Z)), .int (nI (zDr Z)), .ref j7, .ref j8, .int (nI tt), .int (bI (wl)), .ref j9, .int (nI lm), .long (hs)])), (i1, .inl (ty 0, 275, .inl (eR (sM T q nr)))), (j1, .inl (ty 2, 256, .inl (zB (zF Z)))), (j2, .inl (ty 0, 256, .inl (zRo Z))), (j3, .inl (ty 0, 256, .inl (zRu Z))), (j4, .inl (ty 2, 256, .inl (zB U0))), (j5, .inl (ty 0, 256, .inl (nb))), (j6, .inl (ty 0, 300, .inl (zSz Z))), (j7, .inl (ty 0, 8, .inl (S0))), (j8, .inl (ty 0, 8, .inl (C0)))] 0 0
  refine g_aload_n C 0 rfl dX8_behindRound_0 ?_
  refine g_callV C (nA := 0) (ci := 6) (q0 := 0) (As := []) (wr := []) (k_X8_searchesAll l D ty x0 th i1 i2 sd i3 ln j1 j2 j3 j4 j5 j6 fm j7 j8 tt wl j9 lm hs T q nr Z U0 nb S0 C0 hq hT) wm_X8_148 wn_X8_searchesAll wv_X8_searchesAll wi_X8 wc_X8_searchesAll rfl (by decide +kernel) ⟨(Nat.le_of_ble_eq_true rfl), (Nat.le_of_ble_eq_true rfl)⟩ ⟨rfl, rfl⟩ dX8_behindRound_1 ⟨Nat.zero_le _, Nat.zero_le _⟩ rfl rfl rfl [0, 1, 2, 3, 4, 5, 6, 7, 8, 9] [] rfl rfl rfl rfl (by decide) (Nat.le_of_ble_eq_true rfl) rfl (fun r W1 hp => ?_)
  obtain ⟨U1, N1, S1, C1, rfl, rfl⟩ := hp
  refine g_fix [] [(x0, .inr (6, [.int (nI th), .ref i1, .ref i2, .int (nI sd), .ref i3, .int (nI ln), .ref j1, .ref j2, .ref j3, .ref j4, .ref j5, .ref j6, .int (nI (zcnt (zF (fnd q nr T (zSz Z))) 256)), .int (nI (zRd ((fnd q nr T (zSz Z))))), .int (nI (zMt ((fnd q nr T (zSz Z))))), .int (nI (zDr ((fnd q nr T (zSz Z))))), .ref j7, .ref j8, .int (nI tt), .int (bI (wl)), .ref j9, .int (nI lm), .long (hs)])), (i1, .inl (ty 0, 275, .inl (eR (sM T q nr)))), (j1, .inl (ty 2, 256, .inl (zB (zF ((fnd q nr T (zSz Z))))))), (j2, .inl (ty 0, 256, .inl (zRo ((fnd q nr T (zSz Z)))))), (j3, .inl (ty 0, 256, .inl (zRu ((fnd q nr T (zSz Z)))))), (j4, .inl (ty 2, 256, .inl (zB U1))), (j5, .inl (ty 0, 256, .inl (N1))), (j6, .inl (ty 0, 300, .inl (zSz ((fnd q nr T (zSz Z)))))), (j7, .inl (ty 0, 8, .inl (S1))), (j8, .inl (ty 0, 8, .inl (C1)))] [0, 1, 2, 3, 4, 5, 6, 7, 8, 9] rfl rfl rfl ?_
  have hok := fnd_ok hq hT (zSz Z)
  have hrd := hok.2.1
  refine g_aload_n C 0 rfl dX8_behindRound_4 ?_
  refine g_getf C wu_X8 0 rfl rfl 11 (by decide) wf_X8_35 rfl rfl dX8_behindRound_5 ?_
  refine g_iload_n C 1 rfl dX8_behindRound_8 ?_
  refine g_aload_n C 0 rfl dX8_behindRound_9 ?_
  refine g_getf C wu_X8 0 rfl rfl 13 (by decide) wf_X8_112 rfl rfl dX8_behindRound_10 ?_
  refine g_icmp_geN C r (zRd ((fnd q nr T (zSz Z)))) 20 rfl rfl (by omega) (by omega) dX8_behindRound_13 rfl (fun c13 => ?_) (fun c13 => ?_)
  · skip
    refine g_aload_n C 0 rfl dX8_behindRound_20 ?_
    refine g_getf C wu_X8 0 rfl rfl 13 (by decide) wf_X8_112 rfl rfl dX8_behindRound_21 ?_
    refine g_iald C 7 rfl (zRd ((fnd q nr T (zSz Z)))) rfl (by omega) (by decide) ((zSz ((fnd q nr T (zSz Z)))) (zRd ((fnd q nr T (zSz Z))))) rfl dX8_behindRound_24 ?_
    exact g_iret E dX8_behindRound_25 (by decide) (by decide) ⟨(fnd q nr T (zSz Z)), (zcnt (zF (fnd q nr T (zSz Z))) 256), U1, N1, S1, C1, (congrArg (fun z => some (Value.int z)) (by rw [← fnd_rd q nr T (zSz Z)]; first | (rw [Nat.min_eq_left (by omega)]; exact fnd_szr _ (by omega)) | (rw [Nat.min_eq_right (by omega)]; exact fnd_szr _ (by omega)))), rfl⟩
  · skip
    refine g_iload_n C 1 rfl dX8_behindRound_16 ?_
    refine g_goto C 24 dX8_behindRound_17 rfl ?_
    refine g_iald C 7 rfl r rfl (by omega) (by decide) ((zSz ((fnd q nr T (zSz Z)))) r) rfl dX8_behindRound_24 ?_
    exact g_iret E dX8_behindRound_25 (by decide) (by decide) ⟨(fnd q nr T (zSz Z)), (zcnt (zF (fnd q nr T (zSz Z))) 256), U1, N1, S1, C1, (congrArg (fun z => some (Value.int z)) (by rw [← fnd_rd q nr T (zSz Z)]; first | (rw [Nat.min_eq_left (by omega)]; exact fnd_szr _ (by omega)) | (rw [Nat.min_eq_right (by omega)]; exact fnd_szr _ (by omega)))), rfl⟩
