/-! what holds at the law's entry -/
section GST
variable {s : State} {b : Nat}
theorem st_K (hts : ∀ w ∈ lw_tbl, w.before #[Value.ref b] s = true) : ∃ (D : va_G) (ty : Nat → ClassId), va_K D vwCl (gT ty) s := by
  have hg : ∀ w ∈ gG, w.before #[Value.ref b] s = true := fun w h => hts w (gG_tbl w h)
  obtain ⟨c0, i0, k0⟩ := u_known (C := RX2) (T := TX2) (N := 1) (n := 1) hg wu_X2 (hg _ wk_X2)
  obtain ⟨c1, i1, k1⟩ := u_known (C := RX3) (T := TX3) (N := 3) (n := 3) hg wu_X3 (hg _ wk_X3)
  obtain ⟨c2, i2, k2⟩ := u_known (C := RX4) (T := TX4) (N := 3) (n := 3) hg wu_X4 (hg _ wk_X4)
  obtain ⟨c3, i3, k3⟩ := u_known (C := RX5) (T := TX5) (N := 9) (n := 9) hg wu_X5 (hg _ wk_X5)
  obtain ⟨c4, i4, k4⟩ := u_known (C := RX6) (T := TX6) (N := 2) (n := 2) hg wu_X6 (hg _ wk_X6)
  obtain ⟨c5, i5, k5⟩ := u_known (C := RX7) (T := TX7) (N := 8) (n := 8) hg wu_X7 (hg _ wk_X7)
  obtain ⟨a0, q0, m0, f0, g0, h0⟩ := Cond.arrayClass_spec (hg _ wa_FieldType_int)
  obtain ⟨a1, q1, m1, f1, g1, h1⟩ := Cond.arrayClass_spec (hg _ wa_FieldType_long)
  obtain ⟨a2, q2, m2, f2, g2, h2⟩ := Cond.arrayClass_spec (hg _ wa_FieldType_byte)
  obtain ⟨m3, a3, q3, f3, -, g3, h3, j3⟩ := Cond.arrayOver_spec (hts (.arrayOver (.object "FollowedLaws$Laws")) (by decide +kernel))
  refine ⟨⟨fun k => match k with | 0 => c0 | 1 => c1 | 2 => c2 | 3 => c3 | 4 => c4 | _ => c5, fun k => match k with | 0 => i0 | 1 => i1 | 2 => i2 | 3 => i3 | 4 => i4 | _ => i5⟩, fun k => match k with | 0 => a0 | 1 => a1 | 2 => a2 | _ => a3, ?_, ?_⟩
  · intro k q hq
    match k, hq with
    | 0, hq => cases hq; exact k0
    | 1, hq => cases hq; exact k1
    | 2, hq => cases hq; exact k2
    | 3, hq => cases hq; exact k3
    | 4, hq => cases hq; exact k4
    | 5, hq => cases hq; exact k5
    | k + 6, hq => simp [vwCl] at hq
  · intro k q hq
    match k, hq with
    | 0, hq => cases hq; exact ⟨fun n z => ⟨fun k h => (by cases h), q0, g0, m0, h0⟩, f0⟩
    | 1, hq => cases hq; exact ⟨fun n z => ⟨fun k h => (by cases h), q1, g1, m1, h1⟩, f1⟩
    | 2, hq => cases hq; exact ⟨fun n z => ⟨fun k h => (by cases h), q2, g2, m2, h2⟩, f2⟩
    | 3, hq => cases hq; exact ⟨fun n z => ⟨fun k h => (by cases h), q3, g3, m3, h3⟩, q3, m3, g3, h3, f3, j3⟩
    | k + 4, hq => simp at hq
theorem st_NPin : ∀ w ∈ nL_, w ∈ lw_tbl := by decide +kernel
theorem st_NPot : ∀ w ∈ nL_, w.onTables = true := by decide
theorem st_NP (hts : ∀ w ∈ lw_tbl, w.before #[Value.ref b] s = true) : gNP s := ⟨fun w hw => va_Nw.of (st_NPot w hw) (hts w (st_NPin w hw)), va_AO.of (hts (.arrayOver (.object "FollowedLaws$Laws")) (by decide +kernel))⟩
end GST
