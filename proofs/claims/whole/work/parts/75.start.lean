/-! what holds at the law's entry -/
section GST
variable {s : State} {b : Nat}
theorem st_K (hts : ∀ w ∈ lw_tbl, w.before #[Value.ref b] s = true) : ∃ (D : va_G) (ty : Nat → ClassId), va_K D vwCl (gT ty) s := by
  have hg : ∀ w ∈ gG, w.before #[Value.ref b] s = true := fun w h => hts w (gG_tbl w h)
  obtain ⟨c0, i0, k0⟩ := u_known (C := RX2) (T := TX2) (N := 1) (n := 1) hg wu_X2 (hg _ wk_X2)
  obtain ⟨c1, i1, k1⟩ := u_known (C := RX3) (T := TX3) (N := 3) (n := 3) hg wu_X3 (hg _ wk_X3)
  obtain ⟨c2, i2, k2⟩ := u_known (C := RX4) (T := TX4) (N := 3) (n := 3) hg wu_X4 (hg _ wk_X4)
  obtain ⟨c3, i3, k3⟩ := u_known (C := RX5) (T := TX5) (N := 9) (n := 9) hg wu_X5 (hg _ wk_X5)
  obtain ⟨c4, i4, k4⟩ := u_known (C := RX6) (T := TX6) (N := 2) (n := 2) hg wu_X6 (hg _ wk_X6)
  obtain ⟨c5, i5, k5⟩ := u_known (C := RX7) (T := TX7) (N := 8) (n := 8) hg wu_X7 (hg _ wk_X7)
  obtain ⟨c6, i6, k6⟩ := u_known (C := RX8) (T := TX8) (N := 23) (n := 23) hg wu_X8 (hg _ wk_X8)
  obtain ⟨a0, q0, m0, f0, g0, h0⟩ := Cond.arrayClass_spec (hg _ wa_FieldType_int)
  obtain ⟨a1, q1, m1, f1, g1, h1⟩ := Cond.arrayClass_spec (hg _ wa_FieldType_long)
  obtain ⟨a2, q2, m2, f2, g2, h2⟩ := Cond.arrayClass_spec (hg _ wa_FieldType_boolean)
  obtain ⟨m3, a3, q3, f3, -, g3, h3, j3⟩ := Cond.arrayOver_spec (hts (.arrayOver (.object "FollowedLaws$Laws")) (by decide +kernel))
  refine ⟨⟨fun k => match k with | 0 => c0 | 1 => c1 | 2 => c2 | 3 => c3 | 4 => c4 | 5 => c5 | _ => c6, fun k => match k with | 0 => i0 | 1 => i1 | 2 => i2 | 3 => i3 | 4 => i4 | 5 => i5 | _ => i6⟩, fun k => match k with | 0 => a0 | 1 => a1 | 2 => a2 | _ => a3, ?_, ?_⟩
  · intro k q hq
    match k, hq with
    | 0, hq => cases hq; exact k0
    | 1, hq => cases hq; exact k1
    | 2, hq => cases hq; exact k2
    | 3, hq => cases hq; exact k3
    | 4, hq => cases hq; exact k4
    | 5, hq => cases hq; exact k5
    | 6, hq => cases hq; exact k6
    | k + 7, hq => simp [vwCl] at hq
  · intro k q hq
    match k, hq with
    | 0, hq => cases hq; exact ⟨fun n z => ⟨fun k h => (by cases h), q0, g0, m0, h0⟩, f0⟩
    | 1, hq => cases hq; exact ⟨fun n z => ⟨fun k h => (by cases h), q1, g1, m1, h1⟩, f1⟩
    | 2, hq => cases hq; exact ⟨fun n z => ⟨fun k h => (by cases h), q2, g2, m2, h2⟩, f2⟩
    | 3, hq => cases hq; exact ⟨fun n z => ⟨fun k h => (by cases h), q3, g3, m3, h3⟩, q3, m3, g3, h3, f3, j3⟩
    | k + 4, hq => simp at hq
theorem st_NPin : ∀ w ∈ nL_, w ∈ lw_tbl := by decide +kernel
theorem st_NPot : ∀ w ∈ nL_, w.onTables = true := by decide
theorem st_NP (hts : ∀ w ∈ lw_tbl, w.before #[Value.ref b] s = true) : gNP s := ⟨fun w hw => va_Nw.of (st_NPot w hw) (hts w (st_NPin w hw)), va_AO.of (hts (.arrayOver (.object "FollowedLaws$Laws")) (by decide +kernel))⟩
theorem st_hNP (hts : ∀ w ∈ lw_tbl, w.before #[Value.ref b] s = true) (hgv : (Jvm.Cond.and given_1 narrow_1).before #[Value.ref b] s = true) : hNP s := by
  have hs := flat_of_before _ hgv
  exact ⟨va_Nw.of rfl (hts _ (by decide +kernel)), va_Nw.of rfl (hts _ (by decide +kernel)), va_Nw.of rfl (hts _ (by decide +kernel)), va_Nc.of (hs (.not (.castable "java/lang/IllegalStateException" "java/lang/IllegalArgumentException")) (by decide +kernel)), va_Nc.of (hs (.not (.castable "java/lang/IllegalArgumentException" "java/lang/IndexOutOfBoundsException")) (by decide +kernel))⟩
theorem st_Xr : ∀ x ∈ xS, Cond.stringRef RX7 x.1 x.2 ∈ lw_tbl := by decide +kernel
theorem st_Xe : ∀ x ∈ xS, Cond.exactly (.string RX7 x.1) "java/lang/String" ∈ flatC (Jvm.Cond.and given_1 narrow_1) := by decide +kernel
theorem st_XP (hts : ∀ w ∈ lw_tbl, w.before #[Value.ref b] s = true) (hgv : (Jvm.Cond.and given_1 narrow_1).before #[Value.ref b] s = true) : gXP (fun q : Nat => s.heap.size ≤ q) s := by
  have hs := flat_of_before _ hgv
  have hA : ∀ a : Nat, a < s.heap.size → ¬ (fun q : Nat => s.heap.size ≤ q) a := fun a h => Nat.not_le.mpr h
  refine ⟨vx_Zqof (hts (.laysStatic Bundle.tN "UNASSIGNED_STACK" Bundle.steD) (by decide +kernel)) (hts (.initialized Bundle.tN) (by decide +kernel)) (hs (.isRef (.static Bundle.tN "UNASSIGNED_STACK" Bundle.steD)) (by decide +kernel)) hA, vx_Zqof (hts (.laysStatic Bundle.tN "SUPPRESSED_SENTINEL" Bundle.listD) (by decide +kernel)) (hts (.initialized Bundle.tN) (by decide +kernel)) (hs (.isRef (.static Bundle.tN "SUPPRESSED_SENTINEL" Bundle.listD)) (by decide +kernel)) hA, fun x hx => ?_, fun a w hw => va_Nw.use (xB_ot w hw) (va_Nw.of (xB_ot w hw) (hts w (xB_tbl w hw)))⟩
  obtain ⟨a, -, -, -, ha, -⟩ := Cond.exactly_spec (hs _ (st_Xe x hx))
  exact ⟨a, vk_R.of (A := #[.ref b]) (hts _ (st_Xr x hx)) ha⟩
end GST
theorem st_tr {l : Launch} (h : l.flags = flags0) : l.stackTraces = false := by
  unfold Launch.stackTraces
  rw [h]
  decide +kernel
theorem st_drp : drp zNo = zNo := by
  funext a
  unfold drp zNo
  simp
theorem st_cnt : zcnt zNo 256 = 0 := by decide +kernel
set_option maxRecDepth 100000 in
theorem st_Z : okZ ZZ (fun _ => 0) 0 zNo := by
  have hr0 : (rX (fun _ => 0) 0 (zF (z0 zNo (fun _ => 0))) (zMt (z0 zNo (fun _ => 0)))).2.1 = zNo := rfl
  have e : fn0 (fun _ => 0) 0 zNo = fin (fun _ => 0) 0 (z0 zNo (fun _ => 0)) := by
    unfold fn0 fnd
    exact srch_t (n := 103) (by rw [hr0]; exact st_cnt)
  unfold okZ
  rw [e]
  refine ⟨st_drp.symm, rfl, rfl, ?_, fun a h => Bool.noConfusion h, fun r hr => ?_⟩
  · show 0 = zcnt zNo 256 - zcnt (drp zNo) 256
    rw [st_drp]
    exact (Nat.sub_self _).symm
  · have h0 : r = 0 := Nat.le_zero.mp hr
    subst h0
    show (0 : Int32) = upd (fun _ => 0) 0 (nI (zcnt (drp zNo) 256)) 0
    rw [st_drp, st_cnt]
    rfl
theorem INV_0 : INV 0 (fun _ => LZ) zNo (fun _ => 0) 0 ZZ (fun _ => 0) 0 YZ (fun _ => 0) (fun _ => LZ) (fun _ => 0) := by
  refine ⟨Nat.zero_le _, ⟨⟨Nat.zero_le _, fun j hj => absurd hj (Nat.not_lt_zero _)⟩, okF_no, ?_⟩, fun _ _ => rfl, st_Z, fun j hj => absurd hj (Nat.not_lt_zero _), fun k hk => absurd hk (Nat.not_lt_zero _), ⟨Nat.zero_le _, fun j hj => absurd hj (Nat.not_lt_zero _)⟩, Nat.zero_le _, Nat.zero_le _, fun j _ => (by show 0 < 256; decide), fun h => absurd h (by decide), fun h => absurd h (by decide)⟩
  show zcnt zNo 256 ≤ 12
  rw [st_cnt]
  decide
/-! a constructor of another class of this package is called -/
section GCI
variable {p : Program} {l : Launch} {e : Env} {R : Room} {s : State} {m : MethodId} {args : Array Value} {below : List Frame} {meth : Method} {c : Code} {cc : ByteArray} {nL : Nat} {own : String} {D : va_G} {ty : Nat → ClassId} {A : Nat → Prop} {H0 : Heap} {Q : State → Prop} {pc : Nat} {lo : List (Nat × Value)} {st : List Value} {ws : va_W} {k n : Nat}
theorem g_callI (C : gC p R s m args c cc nL own D ty A H0) (hN : gNP s) {y : MethodName} {cc2 : ByteArray} {maxL idx mc ms nA b : Nat} {rm : Room} {As rest : List Value} {W0 wr : va_W} {Post : Option Value → va_W → Prop} (hM : gI l D ty y cc2 maxL rm mc ms (.ref b :: As) W0 Post) (h1 : Cond.methodLink own idx y ∈ gG) (h2 : Cond.instanceMethod y ∈ gG) (h3 : Cond.initialized y.cls ∈ gG) (h4 : Cond.code y cc2 maxL none ∈ gG) (hi : y.name = "<init>") (hn : As.length = nA)
    (hy : y.cls ≠ "java/lang/invoke/MethodHandle" ∧ y.cls ≠ "java/lang/invoke/VarHandle" ∧ (parseMethodDescriptor y.desc).map (fun d => d.parameters.length) = some nA) (hR : rm.frames + 1 ≤ R.frames ∧ 8 + (maxL + 11) + rm.locals ≤ R.locals) (hrm : rm.cells = mc ∧ rm.slots = ms) (hd : decode cc pc = .ok (.invokespecial idx, 3)) (hf : k + mc ≤ R.cells ∧ n + ms ≤ R.slots)
    (isC isR : List Nat) (hC : isC.map (fun i => ws[i]?) = W0.map some) (hRr : isR.map (fun i => ws[i]?) = wr.map some) (hnC : va_nd isC = true) (hnR : va_nd isR = true) (hdis : ∀ i ∈ isR, i ∉ isC) (hW : (rest.map fun v => v.category).sum ≤ 8) {st0 : List Value} (hst : st0 = As.reverse ++ .ref b :: rest)
    (kk : ∀ (r : Option Value) (W1 : va_W), Post r W1 → gW p l e R s m args below meth c nL D A H0 Q (pc + 3) lo (r.toList ++ rest) (wr ++ W1) (k + mc) (n + ms)) : gW p l e R s m args below meth c nL D A H0 Q pc lo st0 ws k n := by
  intro ls H locs hl hP hD hS
  have hPc : va_P D vwCl W0 H := hP.sub isC (by
    have : isC.filterMap (fun i => ws[i]?) = (isC.map (fun i => ws[i]?)).filterMap id := by rw [List.filterMap_map]; rfl
    rw [this, hC, List.filterMap_map]; show W0.filterMap some = W0; simp)
  have hDc : va_D A W0 := hD.sub isC hnC hC
  have hFc := va_free (wc := W0) hD hS C.2.2.2.2.2.2 isC hC
  refine g_after (va_runI (As := As) (rest := rest) ⟨C.1, C.2.1, C.2.2.1, C.2.2.2.1, C.2.2.2.2.1⟩ (hM H.size) (cwI nA C.2.2.2.2.1 (gG_I h4) rfl hrm.1 hrm.2 (C.2.2.2.2.1 _ h3) (C.2.2.2.2.1 _ h1) (C.2.2.2.2.1 _ h2) hi hy hR) ⟨gI_blind, fun U hU hWm => ⟨⟨rfl, by rw [hU], by rw [hU]; exact hPc, va_K.moved hWm.alike C.2.2.2.2.2.1, hDc.weaken (fun _ _ _ _ => trivial)⟩, gNP.warm hWm hN⟩⟩ rfl hn hl.1 hst (lv_room hW) hd hf) hS (fun q _ h => hFc q h) hFc (fun r W1 H1 locs1 hp hP1 hD1 hk1 hS1 => ?_)
  obtain ⟨hP2, hD2⟩ := va_join hP hD isC isR hC hRr hnR hdis hk1 hFc hP1 hD1
  exact kk r W1 hp ls H1 locs1 hl hP2 hD2 hS1
end GCI
