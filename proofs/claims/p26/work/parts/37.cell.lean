/-! the script: read by the law, and by a method that the law calls with it -/
section GSCR
variable {p : Program} {l : Launch} {e : Env} {R : Room} {s : State} {m : MethodId} {args : Array Value} {below : List Frame} {meth : Method} {c : Code} {cc : ByteArray} {nL : Nat} {own : String} {D : va_G} {ty : Nat → ClassId} {A : Nat → Prop} {Q : State → Prop} {pc : Nat} {lo : List (Nat × Value)} {st : List Value} {ws : va_W} {k n : Nat}
theorem g_sld (C : gC p R s m args c cc nL own D ty A s.heap) {bs L : Nat} {xs : Nat → Int32} (hXs : va_X bs L xs s s.heap) (hbl : bs < s.heap.size) (hbA : ¬ A bs) (hL : L ≤ 2048) {x : Int32} (i : Nat) (hx : x = nI i) (hi : i < L) (v : Int32) (hv : xs i = v) (hd : decode cc pc = .ok (.iaload, 1)) (kk : gW p l e R s m args below meth c nL D A s.heap Q (pc + 1) lo (.int v :: st) ws k n) : gW p l e R s m args below meth c nL D A s.heap Q pc lo (.int x :: .ref bs :: st) ws k n := by
  subst hx
  exact fun ls H locs hl hP hD hS => va_sld C.1 C.2.1 hXs hbl hbA hS (vp_in_nI hi (by omega)) hd (by rw [nI_clamp (by omega), hv]; exact kk ls H locs hl hP hD hS)
theorem g_slen (C : gC p R s m args c cc nL own D ty A s.heap) {bs L : Nat} {xs : Nat → Int32} (hXs : va_X bs L xs s s.heap) (hbl : bs < s.heap.size) (hbA : ¬ A bs) (hd : decode cc pc = .ok (.arraylength, 1)) (kk : gW p l e R s m args below meth c nL D A s.heap Q (pc + 1) lo (.int (nI L) :: st) ws k n) : gW p l e R s m args below meth c nL D A s.heap Q pc lo (.ref bs :: st) ws k n :=
  fun ls H locs hl hP hD hS => va_slen C.1 C.2.1 hXs hbl hbA hS hd (kk ls H locs hl hP hD hS)
def gPX (D : va_G) (ty : Nat → ClassId) (av : List Value) (bs L : Nat) (xs : Nat → Int32) (sz : Nat) : Array Value → State → Prop := va_Pc av (fun U => (U.heap.size = sz ∧ va_P D vwCl [] U.heap ∧ va_K D vwCl (gT ty) U ∧ va_D (fun _ => True) []) ∧ va_X bs L xs U U.heap ∧ bs < U.heap.size)
/-- the contract of a static method that reads the script at bs, and no world -/
def gMX (l : Launch) (D : va_G) (ty : Nat → ClassId) (y : MethodName) (cc : ByteArray) (maxL : Nat) (ret : Option FieldType) (rm : Room) (av : List Value) (bs L : Nat) (xs : Nat → Int32) (Post : Option Value → va_W → Prop) : Prop :=
  ∀ sz : Nat, Met l y (Cond.code y cc maxL ret :: gG) rm (gPX D ty av bs L xs sz) (gQ D ty Post (va_A [] sz)) 0 0 (va_A [] sz)
theorem gPX_blind {av : List Value} {bs L : Nat} {xs : Nat → Int32} {sz : Nat} : FrameBlind (gPX D ty av bs L xs sz) := by
  intro a U g mk h
  obtain ⟨h1, ⟨h2, h3, h4, h5⟩, h6, h7⟩ := h
  exact ⟨h1, ⟨h2, h3, va_K.moved (u := U) (U := U.calling g mk a) (Vm.Alike.refl U.vm) h4, h5⟩, va_X.moved (u := U) (U := U.calling g mk a) (Vm.Alike.refl U.vm) h6, h7⟩
theorem gMX_of {y : MethodName} {cc : ByteArray} {maxL : Nat} {ret : Option FieldType} {rm : Room} {av : List Value} {bs L : Nat} {xs : Nat → Int32} {Post : Option Value → va_W → Prop} (own : String) (hown : y.cls = own) (hy : plainName own = true) (hav : (lg_sl av).length ≤ maxL)
    (body : ∀ (p : Program) (e : Env) (s : State) (m : MethodId) (args : Array Value) (below : List Frame) (meth : Method) (c : Code) (A : Nat → Prop) (Q : State → Prop), gC p rm s m args c cc maxL own D ty A s.heap → va_X bs L xs s s.heap → bs < s.heap.size → ¬ A bs → gEnd p l e rm s m args below meth c cc maxL D A s.heap Q ret Post 0 0 → meth.name = y.name →
      gW p l e rm s m args below meth c maxL D A s.heap Q 0 (lv_args 0 av) [] [] 0 0) : gMX l D ty y cc maxL ret rm av bs L xs Post := by
  subst hown
  intro sz
  refine Met.ofW (cc := cc) (maxL := maxL) (ret := ret) hy rfl ?_
  intro p e s m args below meth c s₁ B hml hv
  obtain ⟨rfl, ⟨hsz, hP, hK, hD0⟩, hX, hb⟩ := hv
  subst hsz
  have hts := atoms_spec (ws := Cond.code y cc maxL ret :: gG) B.pre
  have hown : s.vm.findClass y.cls = some m.cls := findClass_of_methodNamed B.named
  have hl := lv_entry av (n := maxL) hav
  rw [lg_entry_eq]
  have C : gC p rm s m av.toArray c cc maxL y.cls D ty (va_A [] s.heap.size) s.heap := ⟨B.exec, B.bytes, hml, hown, fun w hw => hts w (List.mem_cons_of_mem _ hw), hK, fun q h => Or.inr h⟩
  have hbA : ¬ va_A [] s.heap.size bs := by
    rintro (⟨k, e, h⟩ | h)
    · simp at h
    · exact absurd hb (Nat.not_lt.mpr h)
  exact body p e s m av.toArray below meth c _ _ C hX hb hbA (gEnd_of C B.returns B.notSynchronized) (name_of_methodNamed B.named B.method).1 _ _ _ hl hP hD0.self va_S.rf
theorem g_callSX (C : gC p R s m args c cc nL own D ty A s.heap) {bs L : Nat} {xs : Nat → Int32} (hXs : va_X bs L xs s s.heap) (hbl : bs < s.heap.size) (hbA : ¬ A bs) {y : MethodName} {cc2 : ByteArray} {maxL idx nA : Nat} {ret : Option FieldType} {rm : Room} {As rest : List Value} {Post : Option Value → va_W → Prop} (hM : gMX l D ty y cc2 maxL ret rm As bs L xs Post) (h1 : Cond.methodLink own idx y ∈ gG) (h2 : Cond.static y ∈ gG) (h3 : Cond.initialized y.cls ∈ gG) (h4 : Cond.code y cc2 maxL ret ∈ gG) (hn : As.length = nA)
    (hy : y.cls ≠ "java/lang/invoke/MethodHandle" ∧ y.cls ≠ "java/lang/invoke/VarHandle" ∧ (parseMethodDescriptor y.desc).map (fun d => d.parameters.length) = some nA) (hR : rm.frames + 1 ≤ R.frames ∧ 8 + (maxL + 11) + rm.locals ≤ R.locals) (hrm : rm.cells = 0 ∧ rm.slots = 0) (hd : decode cc pc = .ok (.invokestatic idx, 3)) (hw1 : ∀ r W1, Post r W1 → W1 = []) (hW : (rest.map fun v => v.category).sum ≤ 8) {st0 : List Value} (hst : st0 = As.reverse ++ rest) (hf : k ≤ R.cells ∧ n ≤ R.slots)
    (kk : ∀ (r : Option Value), Post r [] → gW p l e R s m args below meth c nL D A s.heap Q (pc + 3) lo (r.toList ++ rest) ws k n) : gW p l e R s m args below meth c nL D A s.heap Q pc lo st0 ws k n := by
  intro ls H locs hl hP hD hS
  refine g_after (va_runS (As := As) (rest := rest) ⟨C.1, C.2.1, C.2.2.1, C.2.2.2.1, C.2.2.2.2.1⟩ (hM H.size) (va_cwS nA C.2.2.2.2.1 (gG_S h1 h2 h3 h4) rfl hrm.1 hrm.2 hy hR) ⟨gPX_blind, fun U hU hWm => ⟨rfl, ⟨by rw [hU], fun k q h => by simp at h, va_K.moved hWm.alike C.2.2.2.2.2.1, ⟨fun i j p q h => by simp at h, fun k q h => by simp at h⟩⟩, va_X.moved hWm.alike (hXs.kept (by rw [hU]; exact hS.2.1 bs hbl hbA)), by rw [hU]; exact Nat.lt_of_lt_of_le hbl hS.1⟩⟩ rfl hn hl.1 hst (lv_room hW) hd hf) hS (fun q hq h => ?_) (fun q h => ?_) (fun r W1 H1 locs1 hp hP1 hD1 hk1 hS1 => ?_)
  · rcases h with ⟨k, e, h⟩ | h
    · simp at h
    · exact absurd hq (Nat.not_lt.mpr h)
  · rcases h with ⟨k, e, h⟩ | h
    · simp at h
    · exact C.2.2.2.2.2.2 q (Nat.le_trans hS.1 h)
  · have hw := hw1 r W1 hp
    subst hw
    refine kk r hp ls H1 locs1 hl (hP.kept (fun j q hq => hk1 q.1 ((hP j q hq).lt) (fun h => ?_))) hD hS1
    rcases h with ⟨k, e, h⟩ | h
    · simp at h
    · exact absurd ((hP j q hq).lt) (Nat.not_lt.mpr h)
end GSCR
theorem lg_eq {x y : Int64} (h : x = y) : lg_cmp x y = nI 0 := by
  rw [h]
  unfold lg_cmp
  rw [if_neg (fun z => Int64.lt_irrefl z), if_pos rfl]
  rfl
def r_L_cell : Room := { frames := 0, cells := 0, slots := 0, locals := 0 }
set_option maxRecDepth 100000 in
set_option maxHeartbeats 4000000 in
theorem k_L_cell (l : Launch) (D : va_G) (ty : Nat → ClassId) (bs L : Nat) (xs : Nat → Int32) (k : Nat) (hL : L ≤ 260) (hk : k < 2 ^ 31) : gMX l D ty yL_cell cL_cell 2 (some (FieldType.int : FieldType)) r_L_cell [.ref bs, .int (nI k)] bs L xs (fun (zr : Option Value) (zW : va_W) => ∃ z9 : Int32, zr = some (.int z9) ∧ zW = []) := by
  refine gMX_of RL rfl (by decide +kernel) (Nat.le_of_ble_eq_true rfl) ?_
  intro pg en s0 mi ag bl mth cd AA QQ C hX hb hbA E hnm
  show gW pg l en r_L_cell s0 mi ag bl mth cd 2 D AA s0.heap QQ 0 [(0, .ref bs), (1, .int (nI k))] [] [] 0 0
  refine g_iload_n C 1 rfl dL_cell_0 ?_
  refine g_aload_n C 0 rfl dL_cell_1 ?_
  refine g_slen C hX hb hbA dL_cell_2 ?_
  refine g_icmp_geN C k L 12 rfl rfl (by omega) (by omega) dL_cell_3 rfl (fun c3 => ?_) (fun c3 => ?_)
  · refine g_sipush C (nI 7919) sp_7919 dL_cell_12 ?_
    refine g_iload_n C 1 rfl dL_cell_15 ?_
    refine g_iconst C (nI 3) ic_3 dL_cell_16 ?_
    refine g_iadd C (nI (k + 3)) dL_cell_17 (nI_add _ _) ?_
    refine g_imul C (nI (7919 * (k + 3))) dL_cell_18 (pk_mul _ _) ?_
    refine g_iload_n C 1 rfl dL_cell_19 ?_
    refine g_bipush C (nI 11) bp_11 dL_cell_20 ?_
    refine g_iadd C (nI (k + 11)) dL_cell_22 (nI_add _ _) ?_
    refine g_imul C (nI (7919 * (k + 3) * (k + 11))) dL_cell_23 (pk_mul _ _) ?_
    exact g_iret E dL_cell_24 (by decide) (by decide) ⟨_, rfl, rfl⟩
  · refine g_aload_n C 0 rfl dL_cell_6 ?_
    refine g_iload_n C 1 rfl dL_cell_7 ?_
    refine g_sld C hX hb hbA (by omega) k rfl (by omega) (xs k) rfl dL_cell_8 ?_
    refine g_goto C 24 dL_cell_9 rfl ?_
    exact g_iret E dL_cell_24 (by decide) (by decide) ⟨_, rfl, rfl⟩
