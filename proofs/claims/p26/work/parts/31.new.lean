/-! making objects and arrays; constructors -/
section GNEW
variable {p : Program} {l : Launch} {e : Env} {R : Room} {s : State} {m : MethodId} {args : Array Value} {below : List Frame} {meth : Method} {c : Code} {cc : ByteArray} {nL : Nat} {own : String} {D : va_G} {ty : Nat → ClassId} {A : Nat → Prop} {H0 : Heap} {Q : State → Prop} {pc : Nat} {lo : List (Nat × Value)} {st : List Value} {ws : va_W} {k n : Nat}
theorem g_objInit (C : gC p R s m args c cc nL own D ty A H0) {b idx : Nat} (h1 : Cond.methodLink own idx objectInit ∈ gG) (h2 : Cond.instanceMethod objectInit ∈ gG) (h3 : Cond.code objectInit ⟨#[0xb1]⟩ 1 none ∈ gG) (hf : 1 ≤ R.frames) (hlo : (st.map fun v => v.category).sum + 12 ≤ R.locals) (hd : decode cc pc = .ok (.invokespecial idx, 3)) (kk : gW p l e R s m args below meth c nL D A H0 Q (pc + 3) lo st ws k n) : gW p l e R s m args below meth c nL D A H0 Q pc lo (.ref b :: st) ws k n := by
  intro ls H locs hl hP hD hS
  exact W.objInit C.1 C.2.1 C.2.2.2.1 (C.2.2.2.2.1 _ h1) (C.2.2.2.2.1 _ h2) (C.2.2.2.2.1 _ h3) rfl (hl.1.trans C.2.2.1.symm) rfl hd hf (by simpa using hlo) (kk ls H locs hl hP hD hS)
theorem g_new (C : gC p R s m args c cc nL own D ty A H0) {X : String} {T : u_T} {N ci idx : Nat} (hws : ∀ w ∈ u_ws X T N, w ∈ gG) (tyf : Nat → FieldType) (hty : ∀ k, k < N → parseFieldDescriptor (T k).2.2.1 = some (tyf k)) (hcl : Cond.classLink own idx X ∈ gG) (hk : Cond.instantiable X N ∈ gG) (hini : Cond.initialized X ∈ gG) (hc : vwCl[ci]? = some (X, T, N)) (fs : List Value) (hfs : ∀ j, j < N → defaultValue (tyf j) = vp_V fs j) (hcells : k + 1 ≤ R.cells) (hslots : n + N ≤ R.slots) (hd : decode cc pc = .ok (.new idx, 3))
    (kk : ∀ q : Nat, gW p l e R s m args below meth c nL D A H0 Q (pc + 3) lo (.ref q :: st) (ws ++ [(q, .inr (ci, fs))]) (k + 1) (n + N)) : gW p l e R s m args below meth c nL D A H0 Q pc lo st ws k n :=
  fun ls H locs hl hP hD hS => va_new C.1 C.2.1 C.2.2.2.2.1 hws tyf hty C.2.2.2.1 (C.2.2.2.2.1 _ hcl) (C.2.2.2.2.1 _ hk) (C.2.2.2.2.1 _ hini) C.2.2.2.2.2.1 hP hD hS C.2.2.2.2.2.2 hc hfs hcells hslots hd (fun q H1 hP1 hD1 hS1 => kk q ls H1 locs hl hP1 hD1 hS1)
theorem g_newI (C : gC p R s m args c cc nL own D ty A H0) (N : Nat) (hN : N < 2 ^ 20) (harr : Cond.arrayClass .int ∈ gG) (hcells : k + 1 ≤ R.cells) (hslots : n + N ≤ R.slots) (hd : decode cc pc = .ok (.newarray .int, 2))
    (kk : ∀ q : Nat, gW p l e R s m args below meth c nL D A H0 Q (pc + 2) lo (.ref q :: st) (ws ++ [(q, .inl (ty 0, N, .inl (fun _ => 0)))]) (k + 1) (n + N)) : gW p l e R s m args below meth c nL D A H0 Q pc lo (.int (nI N) :: st) ws k n := by
  intro ls H locs hl hP hD hS
  refine va_newa (atype := .int) C.1 C.2.1 (C.2.2.2.2.1 _ harr) rfl C.2.2.2.2.2.1 hP hD hS C.2.2.2.2.2.2 (a0 := (N, .inl (fun _ => 0))) (fun _ => rfl) (nI_pos (by omega)) (nI_clamp (by omega)) (show N * 4 ≤ 536870912 by omega) hcells hslots hd (fun q cA H1 hK1 hP1 hD1 hS1 => ?_)
  have e1 : s.vm.findClass ("[" ++ FieldType.int.toString) = some cA := (hK1.2 4 (cA, .int) rfl).2
  have e2 : s.vm.findClass ("[" ++ FieldType.int.toString) = some (ty 0) := (C.2.2.2.2.2.1.2 0 (ty 0, .int) rfl).2
  cases Option.some.inj (e1.symm.trans e2)
  exact kk q ls H1 locs hl hP1 hD1 hS1
theorem g_newJ (C : gC p R s m args c cc nL own D ty A H0) (N : Nat) (hN : N < 2 ^ 20) (harr : Cond.arrayClass .long ∈ gG) (hcells : k + 1 ≤ R.cells) (hslots : n + N ≤ R.slots) (hd : decode cc pc = .ok (.newarray .long, 2))
    (kk : ∀ q : Nat, gW p l e R s m args below meth c nL D A H0 Q (pc + 2) lo (.ref q :: st) (ws ++ [(q, .inl (ty 1, N, .inr (.inl (fun _ => 0))))]) (k + 1) (n + N)) : gW p l e R s m args below meth c nL D A H0 Q pc lo (.int (nI N) :: st) ws k n := by
  intro ls H locs hl hP hD hS
  refine va_newa (atype := .long) C.1 C.2.1 (C.2.2.2.2.1 _ harr) rfl C.2.2.2.2.2.1 hP hD hS C.2.2.2.2.2.2 (a0 := (N, .inr (.inl (fun _ => 0)))) (fun _ => rfl) (nI_pos (by omega)) (nI_clamp (by omega)) (show N * 8 ≤ 536870912 by omega) hcells hslots hd (fun q cA H1 hK1 hP1 hD1 hS1 => ?_)
  have e1 : s.vm.findClass ("[" ++ FieldType.long.toString) = some cA := (hK1.2 4 (cA, .long) rfl).2
  have e2 : s.vm.findClass ("[" ++ FieldType.long.toString) = some (ty 1) := (C.2.2.2.2.2.1.2 1 (ty 1, .long) rfl).2
  cases Option.some.inj (e1.symm.trans e2)
  exact kk q ls H1 locs hl hP1 hD1 hS1
theorem g_newQ (C : gC p R s m args c cc nL own D ty A H0) {idx : Nat} (N : Nat) (hN : N < 2 ^ 20) (hcl : Cond.classLink own idx "FollowedLaws$Laws" ∈ gG) (hov : va_AO "FollowedLaws$Laws" s) (hcells : k + 1 ≤ R.cells) (hslots : n + N ≤ R.slots) (hd : decode cc pc = .ok (.anewarray idx, 3))
    (kk : ∀ q : Nat, gW p l e R s m args below meth c nL D A H0 Q (pc + 3) lo (.ref q :: st) (ws ++ [(q, .inl (ty 3, N, .inr (.inr (.inr (.inr (fun _ => none))))))]) (k + 1) (n + N)) : gW p l e R s m args below meth c nL D A H0 Q pc lo (.int (nI N) :: st) ws k n := by
  intro ls H locs hl hP hD hS
  refine va_newq C.1 C.2.1 C.2.2.2.1 (C.2.2.2.2.1 _ hcl) hov C.2.2.2.2.2.1 hP hD hS C.2.2.2.2.2.2 (nI_pos (by omega)) (nI_clamp (by omega)) (show N * 4 ≤ 536870912 by omega) hcells hslots hd (fun q cA H1 hK1 hP1 hD1 hS1 => ?_)
  obtain ⟨-, -, -, -, -, e1⟩ : ∃ (kA : Class) (comp : ClassId), s.vm.classes[cA]? = some kA ∧ kA.kind = .array comp (.object "FollowedLaws$Laws") ∧ s.vm.findClass "FollowedLaws$Laws" = some comp ∧ s.vm.findClass ("[" ++ (FieldType.object "FollowedLaws$Laws").toString) = some cA := (hK1.2 4 (cA, .object "FollowedLaws$Laws") rfl).2
  obtain ⟨-, -, -, -, -, e2⟩ : ∃ (kA : Class) (comp : ClassId), s.vm.classes[ty 3]? = some kA ∧ kA.kind = .array comp (.object "FollowedLaws$Laws") ∧ s.vm.findClass "FollowedLaws$Laws" = some comp ∧ s.vm.findClass ("[" ++ (FieldType.object "FollowedLaws$Laws").toString) = some (ty 3) := (C.2.2.2.2.2.1.2 3 (ty 3, .object "FollowedLaws$Laws") rfl).2
  cases Option.some.inj (e1.symm.trans e2)
  exact kk q ls H1 locs hl hP1 hD1 hS1
/-! constructors: contracts with what a nest's links and the array class want of the state -/
def nL_ : List Cond := [.methodLinkNest RX4 11 yX2_init "FollowedLaws", .methodLinkNest RX5 11 yX2_init "FollowedLaws", .methodLinkNest RX7 9 yX4_init "FollowedLaws", .methodLinkNest RX7 22 yX6_init "FollowedLaws", .methodLinkNest RX7 29 yX3_init "FollowedLaws", .methodLinkNest RX7 36 yX5_init "FollowedLaws"]
def gNP (U : State) : Prop := (∀ w ∈ nL_, va_Nw w U) ∧ va_AO "FollowedLaws$Laws" U
def gI (l : Launch) (D : va_G) (ty : Nat → ClassId) (y : MethodName) (cc : ByteArray) (maxL : Nat) (rm : Room) (mc ms : Nat) (av : List Value) (W0 : va_W) (Post : Option Value → va_W → Prop) : Prop :=
  ∀ sz : Nat, Met l y (Cond.code y cc maxL none :: gG) rm (fun a U => gP D ty av W0 sz a U ∧ gNP U) (gQ D ty Post (va_A W0 sz)) mc ms (va_A W0 sz)
theorem gNP.same {u U : State} (h : u.vm = U.vm) (hN : gNP u) : gNP U := by
  refine ⟨fun w hw => ?_, va_AO.moved (h ▸ Vm.Alike.refl u.vm) hN.2⟩
  have hot : ∀ w ∈ nL_, w.onTables = true := by decide
  exact va_Nw.same (hot w hw) h (hN.1 w hw)
theorem gNP.warm {s U : State} (hW : s.WarmedH U.vm) (hN : gNP s) : gNP U := by
  refine ⟨fun w hw => ?_, va_AO.moved hW.alike hN.2⟩
  have h0 := hN.1 w hw
  simp only [nL_, List.mem_cons, List.not_mem_nil, or_false] at hw
  rcases hw with rfl | rfl | rfl | rfl | rfl | rfl <;> exact va_Nw.warmM hW h0
theorem gI_of {y : MethodName} {cc : ByteArray} {maxL : Nat} {rm : Room} {mc ms : Nat} {av : List Value} {W0 : va_W} {Post : Option Value → va_W → Prop} (own : String) (hown : y.cls = own) (hy : plainName own = true) (hav : (lg_sl av).length ≤ maxL)
    (body : ∀ (p : Program) (e : Env) (s : State) (m : MethodId) (args : Array Value) (below : List Frame) (meth : Method) (c : Code) (A : Nat → Prop) (H0 : Heap) (Q : State → Prop), gC p rm s m args c cc maxL own D ty A H0 → gNP s → gEnd p l e rm s m args below meth c cc maxL D A H0 Q none Post mc ms → meth.name = y.name →
      gW p l e rm s m args below meth c maxL D A H0 Q 0 (lv_args 0 av) [] W0 0 0) : gI l D ty y cc maxL rm mc ms av W0 Post := by
  subst hown
  intro sz
  refine Met.ofW (cc := cc) (maxL := maxL) (ret := none) hy rfl ?_
  intro p e s m args below meth c s₁ B hml hv
  obtain ⟨⟨rfl, hsz, hP, hK, hD0⟩, hN⟩ := hv
  subst hsz
  have hts := atoms_spec (ws := Cond.code y cc maxL none :: gG) B.pre
  have hown : s.vm.findClass y.cls = some m.cls := findClass_of_methodNamed B.named
  have hl := lv_entry av (n := maxL) hav
  rw [lg_entry_eq]
  have C : gC p rm s m av.toArray c cc maxL y.cls D ty (va_A W0 s.heap.size) s.heap := ⟨B.exec, B.bytes, hml, hown, fun w hw => hts w (List.mem_cons_of_mem _ hw), hK, fun q h => Or.inr h⟩
  exact body p e s m av.toArray below meth c _ _ _ C hN (gEnd_of C B.returns B.notSynchronized) (name_of_methodNamed B.named B.method).1 _ _ _ hl hP hD0.self va_S.rf
theorem gI_blind {av : List Value} {W0 : va_W} {sz : Nat} : FrameBlind (fun a U => gP D ty av W0 sz a U ∧ gNP U) := by
  intro a U g mk h
  exact ⟨gP_blind a U g mk h.1, gNP.same (u := U) rfl h.2⟩
/-- a constructor of the nest is called -/
theorem g_callN (C : gC p R s m args c cc nL own D ty A H0) (hN : gNP s) {y : MethodName} {host : String} {cc2 : ByteArray} {maxL idx mc ms nA b : Nat} {rm : Room} {As rest : List Value} {W0 wr : va_W} {Post : Option Value → va_W → Prop} (hM : gI l D ty y cc2 maxL rm mc ms (.ref b :: As) W0 Post) (h1 : Cond.methodLinkNest own idx y host ∈ nL_) (h2 : Cond.instanceMethod y ∈ gG) (h3 : Cond.initialized y.cls ∈ gG) (h4 : Cond.code y cc2 maxL none ∈ gG) (hi : y.name = "<init>") (hn : As.length = nA)
    (hy : y.cls ≠ "java/lang/invoke/MethodHandle" ∧ y.cls ≠ "java/lang/invoke/VarHandle" ∧ (parseMethodDescriptor y.desc).map (fun d => d.parameters.length) = some nA) (hR : rm.frames + 1 ≤ R.frames ∧ 8 + (maxL + 11) + rm.locals ≤ R.locals) (hrm : rm.cells = mc ∧ rm.slots = ms) (hd : decode cc pc = .ok (.invokespecial idx, 3)) (hf : k + mc ≤ R.cells ∧ n + ms ≤ R.slots)
    (isC isR : List Nat) (hC : isC.map (fun i => ws[i]?) = W0.map some) (hRr : isR.map (fun i => ws[i]?) = wr.map some) (hnC : va_nd isC = true) (hnR : va_nd isR = true) (hdis : ∀ i ∈ isR, i ∉ isC) (hW : (rest.map fun v => v.category).sum ≤ 8) {st0 : List Value} (hst : st0 = As.reverse ++ .ref b :: rest)
    (kk : ∀ (r : Option Value) (W1 : va_W), Post r W1 → gW p l e R s m args below meth c nL D A H0 Q (pc + 3) lo (r.toList ++ rest) (wr ++ W1) (k + mc) (n + ms)) : gW p l e R s m args below meth c nL D A H0 Q pc lo st0 ws k n := by
  intro ls H locs hl hP hD hS
  have hPc : va_P D vwCl W0 H := hP.sub isC (by
    have : isC.filterMap (fun i => ws[i]?) = (isC.map (fun i => ws[i]?)).filterMap id := by rw [List.filterMap_map]; rfl
    rw [this, hC, List.filterMap_map]; show W0.filterMap some = W0; simp)
  have hDc : va_D A W0 := hD.sub isC hnC hC
  have hFc := va_free (wc := W0) hD hS C.2.2.2.2.2.2 isC hC
  refine g_after (va_runIN (As := As) (rest := rest) ⟨C.1, C.2.1, C.2.2.1, C.2.2.2.1, C.2.2.2.2.1⟩ (hM H.size) ⟨va_cnB nA C.2.2.2.2.1 (gG_I h4) rfl hrm.1 hrm.2 (hN.1 _ h1) (C.2.2.2.2.1 _ h3) hy hR, hi, C.2.2.2.2.1 _ h2⟩ ⟨gI_blind, fun U hU hWm => ⟨⟨rfl, by rw [hU], by rw [hU]; exact hPc, va_K.moved hWm.alike C.2.2.2.2.2.1, hDc.weaken (fun _ _ _ _ => trivial)⟩, gNP.warm hWm hN⟩⟩ rfl hn hl.1 hst (lv_room hW) hd hf) hS (fun q _ h => hFc q h) hFc (fun r W1 H1 locs1 hp hP1 hD1 hk1 hS1 => ?_)
  obtain ⟨hP2, hD2⟩ := va_join hP hD isC isR hC hRr hnR hdis hk1 hFc hP1 hD1
  exact kk r W1 hp ls H1 locs1 hl hP2 hD2 hS1
end GNEW
