/-! methods that throw: contracts and their end -/
def xN : List String := ["java/lang/RuntimeException", "java/lang/Exception"]
def xS : List (Nat × String) := [(55, "this is no fact"), (80, "12 facts are told"), (100, "a part is 0 to 255"), (105, "there are 6 rules"), (115, "there is no such rule"), (124, "more than 12 facts are found"), (130, "a code is 33 to 126"), (133, "the buffer is full"), (147, "the buffer is no laws"), (155, "there is no room for these laws"), (161, "no state is saved"), (163, "a place is 0 or more"), (169, "a part is 0 to 2"), (175, "a place is 0 or more, what is 0 to 3"), (191, "what is 0 to 7"), (211, "a round is 0 or more"), (216, "what is 0 to 2"), (218, "a predicate is 0 to 3")]
/-- what a throw wants of the state beside the good words -/
def xB : List Cond := (vx_atS RX7 57 "java/lang/IllegalArgumentException" xN ++ (vx_atS RX7 82 "java/lang/IllegalStateException" xN ++ vx_atS RX7 117 "java/lang/IndexOutOfBoundsException" xN)).filter (fun w => !goodWord w)
def gXP (A : Nat → Prop) (U : State) : Prop := vx_Zq Bundle.tN "UNASSIGNED_STACK" Bundle.steD A U U.heap ∧ vx_Zq Bundle.tN "SUPPRESSED_SENTINEL" Bundle.listD A U U.heap ∧ (∀ x ∈ xS, ∃ sa : Nat, vk_R RX7 x.1 x.2 sa U) ∧ ∀ (a : Array Value), ∀ w ∈ xB, w.before a U = true
def gXC (cls : String) (D : va_G) (ty : Nat → ClassId) (PostW : va_W → Prop) (A : Nat → Prop) : String → State → State → Prop := fun E st t => E = cls ∧ (∃ W1, PostW W1 ∧ va_P D vwCl W1 t.heap ∧ va_D A W1) ∧ va_K D vwCl (gT ty) t ∧ va_F A st t
def gX (l : Launch) (D : va_G) (ty : Nat → ClassId) (y : MethodName) (cc : ByteArray) (maxL : Nat) (ret : Option FieldType) (rm : Room) (av : List Value) (W0 : va_W) (cls : String) (PostW : va_W → Prop) : Prop :=
  ∀ sz : Nat, vx_Met l y (Cond.code y cc maxL ret :: gG) rm (fun a U => gP D ty av W0 sz a U ∧ gXP (va_A W0 sz) U) (fun _ _ _ _ => False) (gXC cls D ty PostW (va_A W0 sz)) 1 6 (va_A W0 sz)
theorem gX_of {l : Launch} {D : va_G} {ty : Nat → ClassId} {y : MethodName} {cc : ByteArray} {maxL : Nat} {ret : Option FieldType} {rm : Room} {av : List Value} {W0 : va_W} {cls : String} {PostW : va_W → Prop} (own : String) (hown : y.cls = own) (hy : plainName own = true) (hav : (lg_sl av).length ≤ maxL)
    (body : ∀ (p : Program) (e : Env) (s : State) (m : MethodId) (args : Array Value) (below : List Frame) (meth : Method) (c : Code) (A : Nat → Prop), gC p rm s m args c cc maxL own D ty A s.heap → gXP A s → (∀ x ∈ c.exceptionTable.toList, False) → meth.locks = false → meth.name = y.name →
      gW p l e rm s m args below meth c maxL D A s.heap (vx_MQ below (fun _ _ _ _ => False) (gXC cls D ty PostW A) args s 1 6 A) 0 (lv_args 0 av) [] W0 0 0) : gX l D ty y cc maxL ret rm av W0 cls PostW := by
  subst hown
  intro sz
  refine vx_ofW (cc := cc) (maxL := maxL) (ret := ret) hy rfl ?_
  intro p e s m args below meth c s₁ B hml ht hv
  obtain ⟨⟨rfl, hsz, hP, hK, hD0⟩, hX⟩ := hv
  subst hsz
  have hts := atoms_spec (ws := Cond.code y cc maxL ret :: gG) B.pre
  have hown : s.vm.findClass y.cls = some m.cls := findClass_of_methodNamed B.named
  have hl := lv_entry av (n := maxL) hav
  rw [lg_entry_eq]
  have C : gC p rm s m av.toArray c cc maxL y.cls D ty (va_A W0 s.heap.size) s.heap := ⟨B.exec, B.bytes, hml, hown, fun w hw => hts w (List.mem_cons_of_mem _ hw), hK, fun q h => Or.inr h⟩
  exact body p e s m av.toArray below meth c _ C hX ht B.notSynchronized (name_of_methodNamed B.named B.method).1 _ _ _ hl hP hD0.self va_S.rf
section GXT
variable {p : Program} {l : Launch} {e : Env} {R : Room} {s : State} {m : MethodId} {args : Array Value} {below : List Frame} {meth : Method} {c : Code} {cc : ByteArray} {nL : Nat} {D : va_G} {ty : Nat → ClassId} {A : Nat → Prop} {pc : Nat} {lo : List (Nat × Value)} {st : List Value} {ws : va_W}
theorem g_throwS {PostW : va_W → Prop} (C : gC p R s m args c cc nL RX7 D ty A s.heap) (hX : gXP A s) (ht : ∀ x ∈ c.exceptionTable.toList, False) (hlk : meth.locks = false) (hl : l.stackTraces = false) {cls text : String} {ik is ic : Nat} (hxs : (is, text) ∈ xS)
    (hk : Cond.classLink RX7 ik cls ∈ gG) (hini : Cond.initialized cls ∈ gG) (hat : (∀ w ∈ (vx_atS RX7 ic cls xN).filter goodWord, w ∈ gG) ∧ (∀ w ∈ (vx_atS RX7 ic cls xN).filter (fun w => !goodWord w), w ∈ xB) ∧ ∀ w ∈ vx_atS RX7 ic cls xN, vx_ot w = true) (hcls : Bundle.fit cls = true) (hnames : ∀ n ∈ xN, Bundle.fit n = true)
    (d0 : decode cc pc = .ok (.new ik, 3)) (d3 : decode cc (pc + 3) = .ok (.dup, 1)) (d4 : decode cc (pc + 4) = .ok (.ldc is, 2)) (d6 : decode cc (pc + 6) = .ok (.invokespecial ic, 3)) (d9 : decode cc (pc + 9) = .ok (.athrow, 1))
    (hf : 5 < R.frames) (hlo : (st.map fun v => v.category).sum + 82 ≤ R.locals) (hc1 : 1 ≤ R.cells) (hs6 : 6 ≤ R.slots) (hpost : PostW ws) :
    gW p l e R s m args below meth c nL D A s.heap (vx_MQ below (fun _ _ _ _ => False) (gXC cls D ty PostW A) args s 1 6 A) pc lo st ws 0 0 := by
  intro ls H locs hl2 hP hD hS
  obtain ⟨sa, hsa⟩ := hX.2.2.1 (is, text) hxs
  refine vx_throwS (A := A) (names := xN) C.1 C.2.1 hl C.2.2.2.1 hcls hnames (C.2.2.2.2.1 _ hk) (C.2.2.2.2.1 _ hini) hsa (vx_hat (fun w hw => C.2.2.2.2.1 _ (hat.1 w hw)) hat.2.1 (hX.2.2.2 args)) ?_ hX.1 hX.2.1 hS (hl2.1.trans C.2.2.1.symm) d0 d3 d4 d6 d9 (fun x hx => (ht x hx).elim) hf hlo (by omega) (by omega) hlk ?_ hS.2.2 (by omega) (by omega)
  · intro w hw
    rcases List.mem_cons.mp hw with h | h
    · rw [h]; unfold vx_ot; rw [gG_good _ hk, Bool.or_true]
    · rcases List.mem_cons.mp h with h | h
      · rw [h]; unfold vx_ot; rw [gG_good _ hini, Bool.or_true]
      · exact hat.2.2 w h
  · intro t h1 h2 h3
    refine ⟨rfl, ⟨ws, hpost, hP.kept (fun k q hq => h3 q.1 (hP k q hq).lt), hD⟩, va_K.moved h1 C.2.2.2.2.2.1, Nat.le_trans hS.1 h2, ?_⟩
    intro q hq hA
    exact (h3 q (Nat.lt_of_lt_of_le hq hS.1)).trans (hS.2.1 q hq hA)
end GXT
theorem xa1_57 : ∀ w ∈ (vx_atS RX7 57 "java/lang/IllegalArgumentException" xN).filter goodWord, w ∈ gG := by decide +kernel
theorem xa3_57 : ∀ w ∈ (vx_atS RX7 57 "java/lang/IllegalArgumentException" xN), vx_ot w = true := by decide +kernel
theorem xa1_82 : ∀ w ∈ (vx_atS RX7 82 "java/lang/IllegalStateException" xN).filter goodWord, w ∈ gG := by decide +kernel
theorem xa3_82 : ∀ w ∈ (vx_atS RX7 82 "java/lang/IllegalStateException" xN), vx_ot w = true := by decide +kernel
theorem xa1_117 : ∀ w ∈ (vx_atS RX7 117 "java/lang/IndexOutOfBoundsException" xN).filter goodWord, w ∈ gG := by decide +kernel
theorem xa3_117 : ∀ w ∈ (vx_atS RX7 117 "java/lang/IndexOutOfBoundsException" xN), vx_ot w = true := by decide +kernel
theorem xB_in {w : Cond} (h : (w ∈ vx_atS RX7 57 "java/lang/IllegalArgumentException" xN ∨ w ∈ vx_atS RX7 82 "java/lang/IllegalStateException" xN ∨ w ∈ vx_atS RX7 117 "java/lang/IndexOutOfBoundsException" xN)) (h2 : (!goodWord w) = true) : w ∈ xB := List.mem_filter.mpr ⟨List.mem_append.mpr (h.imp id (fun q => List.mem_append.mpr q)), h2⟩
theorem xat_57 : (∀ w ∈ (vx_atS RX7 57 "java/lang/IllegalArgumentException" xN).filter goodWord, w ∈ gG) ∧ (∀ w ∈ (vx_atS RX7 57 "java/lang/IllegalArgumentException" xN).filter (fun w => !goodWord w), w ∈ xB) ∧ ∀ w ∈ (vx_atS RX7 57 "java/lang/IllegalArgumentException" xN), vx_ot w = true := ⟨xa1_57, fun w hw => by
  obtain ⟨h, h2⟩ := List.mem_filter.mp hw
  exact xB_in (Or.inl h) h2, xa3_57⟩
theorem xat_82 : (∀ w ∈ (vx_atS RX7 82 "java/lang/IllegalStateException" xN).filter goodWord, w ∈ gG) ∧ (∀ w ∈ (vx_atS RX7 82 "java/lang/IllegalStateException" xN).filter (fun w => !goodWord w), w ∈ xB) ∧ ∀ w ∈ (vx_atS RX7 82 "java/lang/IllegalStateException" xN), vx_ot w = true := ⟨xa1_82, fun w hw => by
  obtain ⟨h, h2⟩ := List.mem_filter.mp hw
  exact xB_in (Or.inr (Or.inl h)) h2, xa3_82⟩
theorem xat_117 : (∀ w ∈ (vx_atS RX7 117 "java/lang/IndexOutOfBoundsException" xN).filter goodWord, w ∈ gG) ∧ (∀ w ∈ (vx_atS RX7 117 "java/lang/IndexOutOfBoundsException" xN).filter (fun w => !goodWord w), w ∈ xB) ∧ ∀ w ∈ (vx_atS RX7 117 "java/lang/IndexOutOfBoundsException" xN), vx_ot w = true := ⟨xa1_117, fun w hw => by
  obtain ⟨h, h2⟩ := List.mem_filter.mp hw
  exact xB_in (Or.inr (Or.inr h)) h2, xa3_117⟩
theorem xB_tbl : ∀ w ∈ xB, w ∈ lw_tbl := by decide +kernel
theorem xi_57 : Cond.initialized "java/lang/IllegalArgumentException" ∈ gG := by decide +kernel
theorem xi_82 : Cond.initialized "java/lang/IllegalStateException" ∈ gG := by decide +kernel
theorem xi_117 : Cond.initialized "java/lang/IndexOutOfBoundsException" ∈ gG := by decide +kernel
