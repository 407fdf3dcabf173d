/-! what the law keeps -/
def I26 (sc : Nat) (V : Nat → LT) (T : Nat → Bool) (q : Nat → Nat) (nr : Nat) (Z : ZT) : Prop := sc ≤ 6 ∧ okS (T, q, nr) ∧ okZ Z q nr T ∧ ∀ j, j < sc → okS (V j)
theorem svC_lt {sc : Nat} (h : sc < 6) : svC sc = sc + 1 := by unfold svC; rw [if_pos h]
theorem svV_at {V : Nat → LT} {sc : Nat} {X : LT} (h : sc < 6) : svV V sc X sc = X := by unfold svV; rw [if_pos h, if_pos rfl]
theorem I26_undo {sc : Nat} {V : Nat → LT} {T : Nat → Bool} {q : Nat → Nat} {nr : Nat} {Z : ZT} {sz : Nat → Int32} (h : I26 sc V T q nr Z) (h0 : 0 < sc) : I26 (sc - 1) V (V (sc - 1)).1 (V (sc - 1)).2.1 (V (sc - 1)).2.2 (fnd (V (sc - 1)).2.1 (V (sc - 1)).2.2 (V (sc - 1)).1 sz) := by
  obtain ⟨h1, h2, h3, h4⟩ := h
  exact ⟨by omega, h4 _ (by omega), okZ_fnd _ _ _ _, fun j hj => h4 j (by omega)⟩
theorem I26_act {sc : Nat} {V : Nat → LT} {T : Nat → Bool} {q : Nat → Nat} {nr : Nat} {Z : ZT} {sz : Nat → Int32} {v w : Int32} (h : I26 sc V T q nr Z) (hno : acH v w T nr Z ≠ -1) : I26 (svC sc) (svV V sc (T, q, nr)) (acX v w T q nr Z).1 (acX v w T q nr Z).2.1 (acX v w T q nr Z).2.2 (fnd (acX v w T q nr Z).2.1 (acX v w T q nr Z).2.2 (acX v w T q nr Z).1 sz) := by
  obtain ⟨h1, h2, h3, h4⟩ := h
  refine ⟨by unfold svC; split <;> omega, (ac_mono h2 (okZ_F h3) hno).1, okZ_fnd _ _ _ _, fun j hj => ?_⟩
  unfold svC at hj
  unfold svV
  by_cases z : sc < 6
  · rw [if_pos z] at hj ⊢
    by_cases z2 : j = sc
    · rw [if_pos z2]; exact h2
    · rw [if_neg z2]; exact h4 j (by omega)
  · rw [if_neg z] at hj ⊢
    by_cases z2 : j < 5
    · rw [if_pos z2]; exact h4 (j + 1) (by omega)
    · rw [if_neg z2, if_pos (by omega)]; exact h2
theorem acH_Z {v w : Int32} {T : Nat → Bool} {nr : Nat} {Z Z' : ZT} (h : zF Z = zF Z') : acH v w T nr Z = acH v w T nr Z' := by unfold acH; rw [h]
theorem acX_Z {v w : Int32} {T : Nat → Bool} {q : Nat → Nat} {nr : Nat} {Z Z' : ZT} (h : zF Z = zF Z') : acX v w T q nr Z = acX v w T q nr Z' := by unfold acX; rw [h]
theorem rd_eq {Y : LT} {T : Nat → Bool} {q : Nat → Nat} {nr : Nat} {Z : ZT} {sz : Nat → Int32} {si : Nat} (h : Y = (T, q, nr)) (hZ : okZ Z q nr T) (hs : svC si = si + 1) : tlA Y.1 Y.2.1 Y.2.2 (fnd Y.2.1 Y.2.2 Y.1 sz) (svC si) = tlA T q nr Z (si + 1) := by
  subst h
  rw [hs]
  exact okZ_2 (okZ_fnd _ _ _ _) hZ _
theorem st_drp : drp zNo = zNo := by
  funext a
  unfold drp zNo
  simp
theorem st_cnt : zcnt zNo 256 = 0 := by decide +kernel
set_option maxRecDepth 100000 in
theorem st_Z : okZ ZZ (fun _ => 0) 0 zNo := by
  have hr0 : (rX (fun _ => 0) 0 (zF (z0 zNo (fun _ => 0))) (zMt (z0 zNo (fun _ => 0)))).2.1 = zNo := rfl
  have e : fn0 (fun _ => 0) 0 zNo = fin (fun _ => 0) 0 (z0 zNo (fun _ => 0)) := by
    unfold fn0 fnd
    exact srch_t (n := 103) (by rw [hr0]; exact st_cnt)
  unfold okZ
  rw [e]
  refine ⟨st_drp.symm, rfl, rfl, ?_, fun a h => Bool.noConfusion h, fun r hr => ?_⟩
  · show 0 = zcnt zNo 256 - zcnt (drp zNo) 256
    rw [st_drp]
    exact (Nat.sub_self _).symm
  · have h0 : r = 0 := Nat.le_zero.mp hr
    subst h0
    show (0 : Int32) = upd (fun _ => 0) 0 (nI (zcnt (drp zNo) 256)) 0
    rw [st_drp, st_cnt]
    rfl
theorem I26_0 : I26 0 (fun _ => LZ) zNo (fun _ => 0) 0 ZZ := by
  refine ⟨Nat.zero_le _, ⟨⟨Nat.zero_le _, fun j hj => absurd hj (Nat.not_lt_zero _)⟩, okF_no, ?_⟩, st_Z, fun j hj => absurd hj (Nat.not_lt_zero _)⟩
  show zcnt zNo 256 ≤ 12
  rw [st_cnt]
  decide
/-! a constructor of another class of this package is called -/
section GCI
variable {p : Program} {l : Launch} {e : Env} {R : Room} {s : State} {m : MethodId} {args : Array Value} {below : List Frame} {meth : Method} {c : Code} {cc : ByteArray} {nL : Nat} {own : String} {D : va_G} {ty : Nat → ClassId} {A : Nat → Prop} {H0 : Heap} {Q : State → Prop} {pc : Nat} {lo : List (Nat × Value)} {st : List Value} {ws : va_W} {k n : Nat}
theorem g_callI (C : gC p R s m args c cc nL own D ty A H0) (hN : gNP s) {y : MethodName} {cc2 : ByteArray} {maxL idx mc ms nA b : Nat} {rm : Room} {As rest : List Value} {W0 wr : va_W} {Post : Option Value → va_W → Prop} (hM : gI l D ty y cc2 maxL rm mc ms (.ref b :: As) W0 Post) (h1 : Cond.methodLink own idx y ∈ gG) (h2 : Cond.instanceMethod y ∈ gG) (h3 : Cond.initialized y.cls ∈ gG) (h4 : Cond.code y cc2 maxL none ∈ gG) (hi : y.name = "<init>") (hn : As.length = nA)
    (hy : y.cls ≠ "java/lang/invoke/MethodHandle" ∧ y.cls ≠ "java/lang/invoke/VarHandle" ∧ (parseMethodDescriptor y.desc).map (fun d => d.parameters.length) = some nA) (hR : rm.frames + 1 ≤ R.frames ∧ 8 + (maxL + 11) + rm.locals ≤ R.locals) (hrm : rm.cells = mc ∧ rm.slots = ms) (hd : decode cc pc = .ok (.invokespecial idx, 3)) (hf : k + mc ≤ R.cells ∧ n + ms ≤ R.slots)
    (isC isR : List Nat) (hC : isC.map (fun i => ws[i]?) = W0.map some) (hRr : isR.map (fun i => ws[i]?) = wr.map some) (hnC : va_nd isC = true) (hnR : va_nd isR = true) (hdis : ∀ i ∈ isR, i ∉ isC) (hW : (rest.map fun v => v.category).sum ≤ 8) {st0 : List Value} (hst : st0 = As.reverse ++ .ref b :: rest)
    (kk : ∀ (r : Option Value) (W1 : va_W), Post r W1 → gW p l e R s m args below meth c nL D A H0 Q (pc + 3) lo (r.toList ++ rest) (wr ++ W1) (k + mc) (n + ms)) : gW p l e R s m args below meth c nL D A H0 Q pc lo st0 ws k n := by
  intro ls H locs hl hP hD hS
  have hPc : va_P D vwCl W0 H := hP.sub isC (by
    have : isC.filterMap (fun i => ws[i]?) = (isC.map (fun i => ws[i]?)).filterMap id := by rw [List.filterMap_map]; rfl
    rw [this, hC, List.filterMap_map]; show W0.filterMap some = W0; simp)
  have hDc : va_D A W0 := hD.sub isC hnC hC
  have hFc := va_free (wc := W0) hD hS C.2.2.2.2.2.2 isC hC
  refine g_after (va_runI (As := As) (rest := rest) ⟨C.1, C.2.1, C.2.2.1, C.2.2.2.1, C.2.2.2.2.1⟩ (hM H.size) (cwI nA C.2.2.2.2.1 (gG_I h4) rfl hrm.1 hrm.2 (C.2.2.2.2.1 _ h3) (C.2.2.2.2.1 _ h1) (C.2.2.2.2.1 _ h2) hi hy hR) ⟨gI_blind, fun U hU hWm => ⟨⟨rfl, by rw [hU], by rw [hU]; exact hPc, va_K.moved hWm.alike C.2.2.2.2.2.1, hDc.weaken (fun _ _ _ _ => trivial)⟩, gNP.warm hWm hN⟩⟩ rfl hn hl.1 hst (lv_room hW) hd hf) hS (fun q _ h => hFc q h) hFc (fun r W1 H1 locs1 hp hP1 hD1 hk1 hS1 => ?_)
  obtain ⟨hP2, hD2⟩ := va_join hP hD isC isR hC hRr hnR hdis hk1 hFc hP1 hD1
  exact kk r W1 hp ls H1 locs1 hl hP2 hD2 hS1
end GCI
