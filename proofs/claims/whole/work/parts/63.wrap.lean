/-! the law's wrappers: a callee that throws is caught here -/
abbrev hL_tell : List (Nat × Nat × Nat × Nat) := [(0, 12, 15, 13), (0, 12, 19, 15)]
theorem wh_L_tell : Cond.codeWith yL_tell cL_tell 6 (some (FieldType.int : FieldType)) hL_tell ∈ gG := gm 596 (by decide +kernel) rfl
abbrev hL_untell : List (Nat × Nat × Nat × Nat) := [(0, 12, 15, 13)]
theorem wh_L_untell : Cond.codeWith yL_untell cL_untell 6 (some (FieldType.int : FieldType)) hL_untell ∈ gG := gm 629 (by decide +kernel) rfl
abbrev hL_rule : List (Nat × Nat × Nat × Nat) := [(0, 10, 13, 13), (0, 10, 17, 15)]
theorem wh_L_rule : Cond.codeWith yL_rule cL_rule 5 (some (FieldType.int : FieldType)) hL_rule ∈ gG := gm 636 (by decide +kernel) rfl
abbrev hL_joining : List (Nat × Nat × Nat × Nat) := [(0, 12, 15, 13), (0, 12, 19, 15)]
theorem wh_L_joining : Cond.codeWith yL_joining cL_joining 6 (some (FieldType.int : FieldType)) hL_joining ∈ gG := gm 654 (by decide +kernel) rfl
abbrev hL_remove : List (Nat × Nat × Nat × Nat) := [(0, 9, 12, 31)]
theorem wh_L_remove : Cond.codeWith yL_remove cL_remove 4 (some (FieldType.int : FieldType)) hL_remove ∈ gG := gm 661 (by decide +kernel) rfl
abbrev hL_settle : List (Nat × Nat × Nat × Nat) := [(0, 8, 11, 15)]
theorem wh_L_settle : Cond.codeWith yL_settle cL_settle 3 (some (FieldType.int : FieldType)) hL_settle ∈ gG := gm 669 (by decide +kernel) rfl
abbrev hL_append : List (Nat × Nat × Nat × Nat) := [(0, 9, 12, 13), (0, 9, 15, 15)]
theorem wh_L_append : Cond.codeWith yL_append cL_append 4 (some (FieldType.int : FieldType)) hL_append ∈ gG := gm 678 (by decide +kernel) rfl
abbrev hL_read : List (Nat × Nat × Nat × Nat) := [(0, 8, 11, 13), (0, 8, 14, 15)]
theorem wh_L_read : Cond.codeWith yL_read cL_read 3 (some (FieldType.int : FieldType)) hL_read ∈ gG := gm 691 (by decide +kernel) rfl
abbrev hL_undo : List (Nat × Nat × Nat × Nat) := [(0, 8, 11, 15)]
theorem wh_L_undo : Cond.codeWith yL_undo cL_undo 3 (some (FieldType.int : FieldType)) hL_undo ∈ gG := gm 711 (by decide +kernel) rfl
abbrev hL_told : List (Nat × Nat × Nat × Nat) := [(0, 9, 12, 13)]
theorem wh_L_told : Cond.codeWith yL_told cL_told 4 (some (FieldType.int : FieldType)) hL_told ∈ gG := gm 719 (by decide +kernel) rfl
abbrev hL_partOf : List (Nat × Nat × Nat × Nat) := [(0, 10, 13, 31), (0, 10, 17, 13)]
theorem wh_L_partOf : Cond.codeWith yL_partOf cL_partOf 5 (some (FieldType.int : FieldType)) hL_partOf ∈ gG := gm 723 (by decide +kernel) rfl
abbrev hL_found : List (Nat × Nat × Nat × Nat) := [(0, 10, 13, 13)]
theorem wh_L_found : Cond.codeWith yL_found cL_found 5 (some (FieldType.int : FieldType)) hL_found ∈ gG := gm 727 (by decide +kernel) rfl
abbrev hL_count : List (Nat × Nat × Nat × Nat) := [(0, 9, 12, 13)]
theorem wh_L_count : Cond.codeWith yL_count cL_count 4 (some (FieldType.int : FieldType)) hL_count ∈ gG := gm 731 (by decide +kernel) rfl
abbrev hL_follows : List (Nat × Nat × Nat × Nat) := [(0, 12, 15, 13)]
theorem wh_L_follows : Cond.codeWith yL_follows cL_follows 6 (some (FieldType.int : FieldType)) hL_follows ∈ gG := gm 735 (by decide +kernel) rfl
abbrev hL_instances : List (Nat × Nat × Nat × Nat) := [(0, 12, 15, 13)]
theorem wh_L_instances : Cond.codeWith yL_instances cL_instances 6 (some (FieldType.int : FieldType)) hL_instances ∈ gG := gm 739 (by decide +kernel) rfl
abbrev hL_behind : List (Nat × Nat × Nat × Nat) := [(0, 9, 12, 13)]
theorem wh_L_behind : Cond.codeWith yL_behind cL_behind 4 (some (FieldType.int : FieldType)) hL_behind ∈ gG := gm 743 (by decide +kernel) rfl
abbrev hL_without : List (Nat × Nat × Nat × Nat) := [(0, 10, 13, 31), (0, 10, 17, 13)]
theorem wh_L_without : Cond.codeWith yL_without cL_without 5 (some (FieldType.int : FieldType)) hL_without ∈ gG := gm 747 (by decide +kernel) rfl
abbrev hL_spare : List (Nat × Nat × Nat × Nat) := [(0, 9, 12, 13)]
theorem wh_L_spare : Cond.codeWith yL_spare cL_spare 4 (some (FieldType.int : FieldType)) hL_spare ∈ gG := gm 751 (by decide +kernel) rfl
abbrev hL_richest : List (Nat × Nat × Nat × Nat) := [(0, 9, 12, 13)]
theorem wh_L_richest : Cond.codeWith yL_richest cL_richest 4 (some (FieldType.int : FieldType)) hL_richest ∈ gG := gm 755 (by decide +kernel) rfl
section GH
def hNP (U : State) : Prop := va_Nw (.castable "java/lang/IllegalArgumentException" "java/lang/IllegalArgumentException") U ∧ va_Nw (.castable "java/lang/IllegalStateException" "java/lang/IllegalStateException") U ∧ va_Nw (.castable "java/lang/IndexOutOfBoundsException" "java/lang/IndexOutOfBoundsException") U ∧ va_Nc "java/lang/IllegalStateException" "java/lang/IllegalArgumentException" U ∧ va_Nc "java/lang/IllegalArgumentException" "java/lang/IndexOutOfBoundsException" U
theorem hNP.same {u U : State} (h : u.vm = U.vm) (hN : hNP u) : hNP U := ⟨va_Nw.same rfl h hN.1, va_Nw.same rfl h hN.2.1, va_Nw.same rfl h hN.2.2.1, va_Nc.moved (h ▸ Vm.Alike.refl u.vm) hN.2.2.2.1, va_Nc.moved (h ▸ Vm.Alike.refl u.vm) hN.2.2.2.2⟩
theorem hNP.warm {s U : State} (hW : s.WarmedH U.vm) (hN : hNP s) : hNP U := ⟨va_Nw.warmC hW hN.1, va_Nw.warmC hW hN.2.1, va_Nw.warmC hW hN.2.2.1, va_Nc.moved hW.alike hN.2.2.2.1, va_Nc.moved hW.alike hN.2.2.2.2⟩
theorem xB_ot : ∀ w ∈ xB, w.onTables = true := by decide +kernel
def xBk : Cond → Bool
  | .castable _ _ => true
  | .declares _ => true
  | _ => false
theorem xB_k : ∀ w ∈ xB, xBk w = true := by decide +kernel
theorem xB_warm {w : Cond} (h : xBk w = true) {s U : State} (hW : s.WarmedH U.vm) (h0 : va_Nw w s) : va_Nw w U := by
  cases w <;> first | exact va_Nw.warmC hW h0 | exact va_Nw.warmD hW h0 | cases h
theorem gXP_blind {A : Nat → Prop} : FrameBlind (fun _ U => gXP A U) := by
  intro a U g mk h
  exact ⟨vx_Zq.moved (u := U) (U := U.calling g mk a) (Vm.Alike.refl U.vm) h.1, vx_Zq.moved (u := U) (U := U.calling g mk a) (Vm.Alike.refl U.vm) h.2.1, fun x hx => (h.2.2.1 x hx).imp (fun sa q => vk_R.same (u := U) (U := U.calling g mk a) rfl q), fun a2 w hw => va_Nw.use (U := U.calling g mk a) (xB_ot w hw) (va_Nw.same (u := U) (xB_ot w hw) rfl (va_Nw.of (xB_ot w hw) (h.2.2.2 #[] w hw)))⟩
theorem gXP_go {A B : Nat → Prop} {s U : State} (hW : s.WarmedH U.vm) (hX : gXP A s) (hH : ∀ a : Nat, a < s.heap.size → ¬ A a → U.heap[a]? = s.heap[a]?) (hAB : ∀ q, B q → A q) : gXP B U := by
  refine ⟨vx_Zq.narrow (vx_Zq.kept (vx_Zq.moved hW.alike hX.1) hH) hAB, vx_Zq.narrow (vx_Zq.kept (vx_Zq.moved hW.alike hX.2.1) hH) hAB, fun x hx => (hX.2.2.1 x hx).imp (fun sa q => vk_R.warm hW q), fun a w hw => ?_⟩
  have h0 := va_Nw.of (xB_ot w hw) (hX.2.2.2 a w hw)
  exact va_Nw.use (xB_ot w hw) (xB_warm (xB_k w hw) hW h0)
variable {p : Program} {l : Launch} {e : Env} {R : Room} {s : State} {m : MethodId} {args : Array Value} {below : List Frame} {meth : Method} {c : Code} {cc : ByteArray} {nL : Nat} {own : String} {D : va_G} {ty : Nat → ClassId} {A : Nat → Prop} {Q : State → Prop} {pc : Nat} {lo : List (Nat × Value)} {st : List Value} {ws : va_W} {k n : Nat}
theorem g_afterX {mc ms : Nat} {A1 free : Nat → Prop} {H H0 : Heap} {locs : List Loc} {ls : Array Slot} {rest st0 : List Value} {cls : String} {PostW : va_W → Prop} (hr : vx_Run p l e R s m args below meth c H locs k n mc ms (F0 m pc ls st0) rest (fun _ _ _ => False) (gXC cls D ty PostW A1) free) (hS : va_S A H0 H locs) (hA : ∀ q, q < H.size → A1 q → A q) (hf : ∀ q, free q → A q)
    (kx : ∀ (ce : Cell) (q9 : Addr) (W1 : va_W) (H1 : Heap) (locs1 : List Loc), PostW W1 → va_P D vwCl W1 H1 → va_D A1 W1 → (∀ q : Nat, q < H.size → ¬ A1 q → H1[q]? = H[q]?) → va_S A H0 H1 locs1 → H1[q9]? = some ce → ce.vm = .none → s.vm.findClass cls = some ce.cls → vx_W p l e R s m args below meth c H1 locs1 (k + mc) (n + ms) Q (F0 m pc ls rest) q9) : W p l e R s m args below meth c H locs k n Q (F0 m pc ls st0) := by
  intro T hT X
  rcases hr T hT X with ⟨v, st₀, t, T', L, h0, X', hL, e1, e2, hf2, st⟩ | ⟨q, st₀, t, T', L, E, ce, h0, X', hL, e1, e2, ⟨rfl, ⟨W1, hp, hP1, hD1⟩, hK1, hF⟩, hce, hcv, hcl, st⟩
  · exact hf2.elim
  · obtain ⟨k1, k2, k3⟩ := vx_keep h0 e1 hS hA hf hL hF
    obtain ⟨t2, a1, b1⟩ := kx ce q W1 T'.heap (locs ++ L) hp (by rw [e1]; exact hP1) hD1 k2 k3 (by rw [e1]; exact hce) hcv hcl T' rfl X'
    exact ⟨t2, st.trans a1, b1⟩
/-- a callee that throws, caught by the row x of this method's table -/
theorem g_callX (C : gC p R s m args c cc nL own D ty A s.heap) (hX : gXP A s) (hN : hNP s) {X : String} {y : MethodName} {cc2 : ByteArray} {maxL idx nA b ci q0 : Nat} {fs : List Value} {q : vw_C} {ret : Option FieldType} {rm : Room} {As rest : List Value} {W0 wr : va_W} {cls : String} {PostW : va_W → Prop} (hM : gX l D ty y cc2 maxL ret rm (.ref b :: As) W0 cls PostW) (h1 : Cond.methodLink own idx y ∈ gG) (h2 : Cond.instanceMethod y ∈ gG) (h3 : Cond.selects X y y ∈ gG) (h5 : Cond.initialized X ∈ gG) (h4 : Cond.code y cc2 maxL ret ∈ gG) (hn : As.length = nA)
    (hy : y.cls = X ∧ y.cls ≠ "java/lang/invoke/MethodHandle" ∧ y.cls ≠ "java/lang/invoke/VarHandle" ∧ (parseMethodDescriptor y.desc).map (fun d => d.parameters.length) = some nA) (hR : rm.frames + 1 ≤ R.frames ∧ 8 + (maxL + 11) + rm.locals ≤ R.locals) (hrm : rm.cells = 1 ∧ rm.slots = 6) (hd : decode cc pc = .ok (.invokevirtual idx, 3)) (hf : k + 1 ≤ R.cells ∧ n + 6 ≤ R.slots)
    (hc : vwCl[ci]? = some q) (hqX : q.1 = X) (he : W0[q0]? = some (b, .inr (ci, fs)))
    (isC isR : List Nat) (hC : isC.map (fun i => ws[i]?) = W0.map some) (hRr : isR.map (fun i => ws[i]?) = wr.map some) (hnC : va_nd isC = true) (hnR : va_nd isR = true) (hdis : ∀ i ∈ isR, i ∉ isC) (hW : (rest.map fun v => v.category).sum ≤ 8) {st0 : List Value} (hst : st0 = As.reverse ++ .ref b :: rest)
    {hh : List (Nat × Nat × Nat × Nat)} (ht : c.exceptionTable.toList = tableOf hh) (pre : List ExceptionTableEntry) (x : ExceptionTableEntry) (suf : List ExceptionTableEntry) (hsplit : tableOf hh = pre ++ x :: suf) (hpass : ∀ z ∈ pre, z.catchType ≠ 0 ∧ ∃ nm : String, Cond.classLink own z.catchType nm ∈ gG ∧ va_Nc cls nm s) (hx : covers x pc = true) (h0 : x.catchType ≠ 0) (hlink : Cond.classLink own x.catchType cls ∈ gG) (hcast : va_Nw (.castable cls cls) s)
    (kk : ∀ (q9 : Nat) (W1 : va_W), PostW W1 → gW p l e R s m args below meth c nL D A s.heap Q x.handlerPc lo [.ref q9] (wr ++ W1) (k + 1) (n + 6)) : gW p l e R s m args below meth c nL D A s.heap Q pc lo st0 ws k n := by
  intro ls H locs hl hP hD hS
  have hPc : va_P D vwCl W0 H := hP.sub isC (by
    have : isC.filterMap (fun i => ws[i]?) = (isC.map (fun i => ws[i]?)).filterMap id := by rw [List.filterMap_map]; rfl
    rw [this, hC, List.filterMap_map]; show W0.filterMap some = W0; simp)
  have hDc : va_D A W0 := hD.sub isC hnC hC
  have hFc := va_free (wc := W0) hD hS C.2.2.2.2.2.2 isC hC
  subst hqX
  refine g_afterX (vx_runV (As := As) (rest := rest) ⟨C.1, C.2.1, C.2.2.1, C.2.2.2.1, C.2.2.2.2.1⟩ (hM H.size) (cwV nA C.2.2.2.2.1 (gG_V h1 h2 h3 h5 h4) rfl hrm.1 hrm.2 hy hR) ⟨fun a U g mk h => ⟨gP_blind a U g mk h.1, gXP_blind a U g mk h.2⟩, va_recv C.2.2.2.2.2.1 hPc hc he, fun U hU hWm => ⟨⟨rfl, by rw [hU], by rw [hU]; exact hPc, va_K.moved hWm.alike C.2.2.2.2.2.1, hDc.weaken (fun _ _ _ _ => trivial)⟩, gXP_go hWm hX (fun a ha hna => by rw [hU]; exact hS.2.1 a ha hna) hFc⟩⟩ rfl hn hl.1 hst (lv_room hW) hd hf) hS (fun q _ h => hFc q h) hFc (fun ce q9 W1 H1 locs1 hp hP1 hD1 hk1 hS1 hce hcv hcl => ?_)
  obtain ⟨hP2, hD2⟩ := va_join hP hD isC isR hC hRr hnR hdis hk1 hFc hP1 hD1
  exact vx_catch C.2.2.2.1 pre x suf (ht.trans hsplit) (fun z hz => Or.inr ⟨(hpass z hz).1, (hpass z hz).2.imp (fun nm q => ⟨C.2.2.2.2.1 _ q.1, q.2⟩)⟩) hx h0 (C.2.2.2.2.1 _ hlink) (va_Nw.use rfl hcast) hce hcv hcl (kk q9 W1 hp ls H1 locs1 hl hP2 hD2 hS1)
/-- a wrapper's contract -/
def gH (l : Launch) (D : va_G) (ty : Nat → ClassId) (y : MethodName) (cc : ByteArray) (maxL : Nat) (ret : Option FieldType) (hh : List (Nat × Nat × Nat × Nat)) (rm : Room) (mc ms : Nat) (av : List Value) (W0 : va_W) (Post : Option Value → va_W → Prop) : Prop :=
  ∀ sz : Nat, Met l y (Cond.codeWith y cc maxL ret hh :: gG) rm (fun a U => gP D ty av W0 sz a U ∧ gXP (va_A W0 sz) U ∧ hNP U) (gQ D ty Post (va_A W0 sz)) mc ms (va_A W0 sz)
theorem gH_of {l : Launch} {y : MethodName} {cc : ByteArray} {maxL : Nat} {ret : Option FieldType} {hh : List (Nat × Nat × Nat × Nat)} {rm : Room} {mc ms : Nat} {av : List Value} {W0 : va_W} {Post : Option Value → va_W → Prop} (own : String) (hown : y.cls = own) (hy : plainName own = true) (hav : (lg_sl av).length ≤ maxL)
    (body : ∀ (p : Program) (e : Env) (s : State) (m : MethodId) (args : Array Value) (below : List Frame) (meth : Method) (c : Code) (A : Nat → Prop) (Q : State → Prop), gC p rm s m args c cc maxL own D ty A s.heap → gXP A s → hNP s → c.exceptionTable.toList = tableOf hh → gEnd p l e rm s m args below meth c cc maxL D A s.heap Q ret Post mc ms →
      gW p l e rm s m args below meth c maxL D A s.heap Q 0 (lv_args 0 av) [] W0 0 0) : gH l D ty y cc maxL ret hh rm mc ms av W0 Post := by
  subst hown
  intro sz
  refine MetFree.of_bodyS (code := cc) (maxLocals := maxL) (ret := ret) hy ?_ ?_
  · intro args s m h hn
    obtain ⟨m9, meth, c, hn9, h1, h2, h3, h4, -, h5, h6, -⟩ := Cond.codeWith_spec (atoms_spec (ws := Cond.codeWith y cc maxL ret hh :: gG) h _ List.mem_cons_self)
    cases hn.symm.trans hn9
    exact ⟨meth, c, h1, h2, h3, h4, h5, h6⟩
  · intro p e s m args below meth c s₁ B hml hv _
    have hh0 : s₁.heap = s.heap := by rw [B.state]; rfl
    obtain ⟨⟨rfl, hsz, hP, hK, hD0⟩, hX, hN⟩ := hv
    subst hsz
    have hts := atoms_spec (ws := Cond.codeWith y cc maxL ret hh :: gG) B.pre
    have hown : s.vm.findClass y.cls = some m.cls := findClass_of_methodNamed B.named
    have hl := lv_entry av (n := maxL) hav
    have C : gC p rm s m av.toArray c cc maxL y.cls D ty (va_A W0 s.heap.size) s.heap := ⟨B.exec, B.bytes, hml, hown, fun w hw => hts w (List.mem_cons_of_mem _ hw), hK, fun q h => Or.inr h⟩
    have K : W p l e rm s m av.toArray below meth c s₁.heap [] 0 0 (MQ below (gQ D ty Post (va_A W0 s.heap.size)) av.toArray s mc ms (va_A W0 s.heap.size)) (entryFrame m av.toArray maxL) := by
      rw [hh0, lg_entry_eq]
      exact body p e s m av.toArray below meth c _ _ C hX hN (vx_table (x := y) B (hts _ List.mem_cons_self)) (gEnd_of C B.returns B.notSynchronized) _ _ _ hl hP hD0.self va_S.rf
    obtain ⟨t, a1, o, b1, b2, b3⟩ := K s₁ rfl (Stand.of_body B)
    exact ⟨t, o, a1, b1, b2, ⟨b3.1, b3.2⟩⟩
theorem gH.weaken {y : MethodName} {maxL : Nat} {ret : Option FieldType} {hh : List (Nat × Nat × Nat × Nat)} {rm : Room} {mc ms : Nat} {av : List Value} {W0 : va_W} {Post Post2 : Option Value → va_W → Prop} (h : gH l D ty y cc maxL ret hh rm mc ms av W0 Post) (hp : ∀ r W1, Post r W1 → Post2 r W1) : gH l D ty y cc maxL ret hh rm mc ms av W0 Post2 := by
  intro sz p e ha hc hk s m args below hf happ hP hK
  obtain ⟨k, o, h1, h2, h3, ⟨⟨⟨r, W1, q1, q2, q3⟩, q4⟩, q5⟩⟩ := h sz p e ha hc hk s m args below hf happ hP hK
  exact ⟨k, o, h1, h2, h3, ⟨⟨⟨r, W1, q1, hp r W1 q2, q3⟩, q4⟩, q5⟩⟩
theorem gG_SW {idx : Nat} {y : MethodName} {cc2 : ByteArray} {maxL : Nat} {ret : Option FieldType} {hh : List (Nat × Nat × Nat × Nat)} (h1 : Cond.methodLink own idx y ∈ gG) (h2 : Cond.static y ∈ gG) (h3 : Cond.initialized y.cls ∈ gG) (h4 : Cond.codeWith y cc2 maxL ret hh ∈ gG) : GoodIn gG (va_wsS own idx y (Cond.codeWith y cc2 maxL ret hh :: gG)) :=
  gG_sub h4 (List.forall_mem_cons.mpr ⟨h1, List.forall_mem_cons.mpr ⟨h2, List.forall_mem_cons.mpr ⟨h3, fun _ h => absurd h List.not_mem_nil⟩⟩⟩)
/-- a wrapper is called -/
theorem g_callH (C : gC p R s m args c cc nL own D ty A s.heap) (hX : gXP A s) (hN : hNP s) {y : MethodName} {cc2 : ByteArray} {maxL idx mc ms nA : Nat} {ret : Option FieldType} {hh : List (Nat × Nat × Nat × Nat)} {rm : Room} {As rest : List Value} {W0 wr : va_W} {Post : Option Value → va_W → Prop} (hM : gH l D ty y cc2 maxL ret hh rm mc ms As W0 Post) (h1 : Cond.methodLink own idx y ∈ gG) (h2 : Cond.static y ∈ gG) (h3 : Cond.initialized y.cls ∈ gG) (h4 : Cond.codeWith y cc2 maxL ret hh ∈ gG) (hn : As.length = nA)
    (hy : y.cls ≠ "java/lang/invoke/MethodHandle" ∧ y.cls ≠ "java/lang/invoke/VarHandle" ∧ (parseMethodDescriptor y.desc).map (fun d => d.parameters.length) = some nA) (hR : rm.frames + 1 ≤ R.frames ∧ 8 + (maxL + 11) + rm.locals ≤ R.locals) (hrm : rm.cells = mc ∧ rm.slots = ms) (hd : decode cc pc = .ok (.invokestatic idx, 3)) (hf : k + mc ≤ R.cells ∧ n + ms ≤ R.slots)
    (isC isR : List Nat) (hC : isC.map (fun i => ws[i]?) = W0.map some) (hRr : isR.map (fun i => ws[i]?) = wr.map some) (hnC : va_nd isC = true) (hnR : va_nd isR = true) (hdis : ∀ i ∈ isR, i ∉ isC) (hW : (rest.map fun v => v.category).sum ≤ 8) {st0 : List Value} (hst : st0 = As.reverse ++ rest)
    (kk : ∀ (r : Option Value) (W1 : va_W), Post r W1 → gW p l e R s m args below meth c nL D A s.heap Q (pc + 3) lo (r.toList ++ rest) (wr ++ W1) (k + mc) (n + ms)) : gW p l e R s m args below meth c nL D A s.heap Q pc lo st0 ws k n := by
  intro ls H locs hl hP hD hS
  have hPc : va_P D vwCl W0 H := hP.sub isC (by
    have : isC.filterMap (fun i => ws[i]?) = (isC.map (fun i => ws[i]?)).filterMap id := by rw [List.filterMap_map]; rfl
    rw [this, hC, List.filterMap_map]; show W0.filterMap some = W0; simp)
  have hDc : va_D A W0 := hD.sub isC hnC hC
  have hFc := va_free (wc := W0) hD hS C.2.2.2.2.2.2 isC hC
  refine g_after (vx_runSW (As := As) (rest := rest) ⟨C.1, C.2.1, C.2.2.1, C.2.2.2.1, C.2.2.2.2.1⟩ (hM H.size) (vx_cwSW nA C.2.2.2.2.1 (gG_SW h1 h2 h3 h4) rfl hrm.1 hrm.2 hy hR) ⟨fun a U g mk h => ⟨gP_blind a U g mk h.1, gXP_blind a U g mk h.2.1, hNP.same (u := U) rfl h.2.2⟩, fun U hU hWm => ⟨⟨rfl, by rw [hU], by rw [hU]; exact hPc, va_K.moved hWm.alike C.2.2.2.2.2.1, hDc.weaken (fun _ _ _ _ => trivial)⟩, gXP_go hWm hX (fun a ha hna => by rw [hU]; exact hS.2.1 a ha hna) hFc, hNP.warm hWm hN⟩⟩ rfl hn hl.1 hst (lv_room hW) hd hf) hS (fun q _ h => hFc q h) hFc (fun r W1 H1 locs1 hp hP1 hD1 hk1 hS1 => ?_)
  obtain ⟨hP2, hD2⟩ := va_join hP hD isC isR hC hRr hnR hdis hk1 hFc hP1 hD1
  exact kk r W1 hp ls H1 locs1 hl hP2 hD2 hS1
end GH
