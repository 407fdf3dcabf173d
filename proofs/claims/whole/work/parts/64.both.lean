/-! both sides' states -/
def AG (q qm : Nat → Nat) (nr : Nat) : Prop := ∀ j, j < 3 * nr → q j = qm j
def okS (X : LT) : Prop := okQ X.2.1 X.2.2 ∧ okF X.1 ∧ zcnt X.1 256 ≤ 12
def RS (X X' : LT) : Prop := X.1 = X'.1 ∧ X.2.2 = X'.2.2 ∧ AG X.2.1 X'.2.1 X.2.2
def okZ (Z : ZT) (q : Nat → Nat) (nr : Nat) (T : Nat → Bool) : Prop := zF Z = zF (fn0 q nr T) ∧ zRd Z = zRd (fn0 q nr T) ∧ zMt Z = zMt (fn0 q nr T) ∧ zDr Z = zDr (fn0 q nr T) ∧ (∀ a, zF Z a = true → zRo Z a = zRo (fn0 q nr T) a ∧ zRu Z a = zRu (fn0 q nr T) a) ∧ ∀ r, r ≤ zRd Z → zSz Z r = zSz (fn0 q nr T) r
theorem okZ_fnd (q : Nat → Nat) (nr : Nat) (T : Nat → Bool) (sz : Nat → Int32) : okZ (fnd q nr T sz) q nr T := ⟨fnd_F _ _ _ _, fnd_rd _ _ _ _, fnd_mt, fnd_dr, fun a _ => ⟨by rw [fnd_ro], by rw [fnd_ru]⟩, fun r hr => fnd_szr sz hr⟩
section AGS
variable {q qm : Nat → Nat} {nr : Nat}
theorem rus_AG {F G : Nat → Bool} (h : AG q qm nr) (X : XT) (n : Nat) (hn : n ≤ nr) : rus F G q n X = rus F G qm n X := by
  induction n with
  | zero => rfl
  | succ n ih => rw [rus, rus, ih (by omega), h (3 * n) (by omega), h (3 * n + 1) (by omega), h (3 * n + 2) (by omega)]
theorem rX_AG (h : AG q qm nr) (F : Nat → Bool) (mt : Nat) : rX q nr F mt = rX qm nr F mt := rus_AG h _ nr (Nat.le_refl _)
theorem srch_AG (h : AG q qm nr) (n : Nat) : ∀ Z, srch q nr n Z = srch qm nr n Z := by
  induction n with
  | zero => intro Z; rfl
  | succ n ih =>
    intro Z
    rw [srch, srch, rX_AG h]
    have e1 : fin q nr Z = fin qm nr Z := by unfold fin; rw [rX_AG h]
    have e2 : nxt q nr Z = nxt qm nr Z := by unfold nxt nx2; rw [rX_AG h]
    rw [e1, e2, ih]
theorem fn0_AG (h : AG q qm nr) (T : Nat → Bool) : fn0 q nr T = fn0 qm nr T := srch_AG h 104 _
theorem dRi_AG (h : AG q qm nr) {r : Nat} (hr : r < nr) : AG (dRi q r 15) (dRi qm r 15) (nr - 1) := by
  intro j hj
  unfold dRi
  split
  · exact h _ (by omega)
  · exact h _ (by omega)
theorem dRi_AG2 (h : AG q qm nr) {r : Nat} (hr : r < nr) (h6 : nr ≤ 6) : AG (dRi q r 15) (zQ (dRi qm r (3 * (nr - 1))) (nr - 1) 3) (nr - 1) := by
  intro j hj
  have e : zQ (dRi qm r (3 * (nr - 1))) (nr - 1) 3 j = dRi qm r (3 * (nr - 1)) j := by
    unfold zQ
    rw [if_neg (by omega)]
  rw [e]
  unfold dRi
  by_cases z : 3 * r ≤ j
  · rw [if_pos (show 3 * r ≤ j ∧ j < 15 by omega), if_pos (show 3 * r ≤ j ∧ j < 3 * (nr - 1) from ⟨z, hj⟩)]
    exact h _ (by omega)
  · rw [if_neg (fun k => z k.1), if_neg (fun k => z k.1)]
    exact h _ (by omega)
theorem aR_AG (h : AG q qm nr) (x y w : Nat) : AG (aR q nr x y w) (aR qm nr x y w) (nr + 1) := by
  intro j hj
  unfold aR
  split
  · rfl
  · split
    · rfl
    · split
      · rfl
      · exact h _ (by omega)
theorem okQ_AG (h : AG q qm nr) (hq : okQ q nr) : okQ qm nr := ⟨hq.1, fun j hj => by
  rw [← h (3 * j) (by omega), ← h (3 * j + 1) (by omega), ← h (3 * j + 2) (by omega)]
  exact hq.2 j hj⟩
variable {Z : ZT} {T : Nat → Bool}
theorem fdA_Z (h : okZ Z q nr T) (k w : Nat) : fdA Z k w = fdA (fn0 q nr T) k w := by
  have e : nth (zF Z) k 256 = nth (zF (fn0 q nr T)) k 256 := by rw [h.1]
  rcases hn : nth (zF Z) k 256 with _ | a
  · rw [fdA_n hn, fdA_n (e.symm.trans hn)]
  · obtain ⟨h1, h2⟩ := h.2.2.2.2.1 a (nth_sp hn).2.1
    rw [fdA_s hn, fdA_s (e.symm.trans hn), h1, h2]
theorem cnA_Z (h : okZ Z q nr T) (sc w : Nat) : cnA T nr Z sc w = cnA T nr (fn0 q nr T) sc w := by
  unfold cnA
  rw [h.1, h.2.1, h.2.2.1, h.2.2.2.1]
theorem wiA_Z (h : okZ Z q nr T) (hA : AG q qm nr) {r : Nat} (hr : r < nr) (w : Nat) : wiA Z q nr T r w = wiA (fn0 qm nr T) qm nr T r w := by
  unfold wiA
  rw [h.1, fn0_AG hA, fn0_AG (dRi_AG hA hr)]
theorem spA_AG (hA : AG q qm nr) (T : Nat → Bool) (k : Nat) : spA q nr T k = spA qm nr T k := by
  rcases hn : nth T k 256 with _ | a
  · rw [spA_n hn, spA_n hn]
  · rw [spA_s hn, spA_s hn, fn0_AG hA]
theorem rcv_AG (hA : AG q qm nr) (T : Nat → Bool) (p j : Nat) : rcv q nr T p j = rcv qm nr T p j := by
  unfold rcv
  rw [fn0_AG hA]
theorem rch_AG (hA : AG q qm nr) (T : Nat → Bool) (p n : Nat) : rch q nr T p n = rch qm nr T p n := by
  induction n with
  | zero => rfl
  | succ n ih => rw [rch, rch, ih, rcv_AG hA]
theorem brA_Z (h : okZ Z q nr T) (hA : AG q qm nr) : brA Z T = brA (fn0 qm nr T) T := by
  unfold brA
  rw [h.1, fn0_AG hA]
theorem szA_Z (h : okZ Z q nr T) (hA : AG q qm nr) (r : Nat) : zSz Z (min r (zRd Z)) = zSz (fn0 qm nr T) (min r (zRd (fn0 qm nr T))) := by
  rw [h.2.2.2.2.2 _ (Nat.min_le_right _ _), h.2.1, fn0_AG hA]
theorem lp_congr {g g2 : Nat → Int64 → Int64} (n : Nat) (h : ∀ k, k < n → ∀ x, g k x = g2 k x) (x : Int64) : lp g n x = lp g2 n x := by
  induction n with
  | zero => rfl
  | succ n ih => rw [lp_s, lp_s, ih (fun k hk => h k (by omega)), h n (by omega)]
theorem dgA_Z (h : okZ Z q nr T) (hA : AG q qm nr) (sc : Nat) (b : Nat → Nat) (len : Nat) : dgA q nr T Z sc b len = dgA qm nr T (fn0 qm nr T) sc b len := by
  have e0 := fn0_AG hA T
  have eF : zF Z = zF (fn0 qm nr T) := by rw [h.1, e0]
  unfold dgA
  rw [eF, rch_AG hA, brA_Z h hA]
  have x1 : ∀ y, lp (e1 T nr Z sc) 8 y = lp (e1 T nr (fn0 qm nr T) sc) 8 y := lp_congr 8 (fun w _ y => by unfold e1; rw [cnA_Z h, e0])
  have x2 : ∀ y, lp (e2 q nr T) (zcnt T 256) y = lp (e2 qm nr T) (zcnt T 256) y := lp_congr _ (fun k _ y => by unfold e2; rw [spA_AG hA])
  have x3 : ∀ y, lp (e3 Z q nr T) nr y = lp (e3 (fn0 qm nr T) qm nr T) nr y := lp_congr nr (fun r hr y => by
    unfold e3
    rw [lp_congr 3 (g := e3a q r) (g2 := e3a qm r) (fun j hj y => by unfold e3a; rw [hA (3 * r + j) (by omega)])]
    exact lp_congr 3 (fun w _ y => by unfold e3b; rw [wiA_Z h hA hr]) _)
  have x4 : ∀ m y, lp (e4 Z) m y = lp (e4 (fn0 qm nr T)) m y := fun m => lp_congr m (fun k _ y => by
    unfold e4
    exact lp_congr 4 (fun w _ y => by unfold e4a; rw [fdA_Z h, e0]) _)
  have x5 : ∀ y, lp (e5 Z) 4 y = lp (e5 (fn0 qm nr T)) 4 y := lp_congr 4 (fun r _ y => by unfold e5; rw [szA_Z h hA])
  have x6 : ∀ y, lp (e6 Z) 4 y = lp (e6 (fn0 qm nr T)) 4 y := lp_congr 4 (fun p _ y => by unfold e6; rw [eF])
  rw [x6, x5, x4, x3, x2, x1]
end AGS
/-- what both sides' states have in common -/
def INV (sc : Nat) (V : Nat → LT) (T : Nat → Bool) (q : Nat → Nat) (nr : Nat) (Z : ZT) (b : Nat → Nat) (len : Nat) (Y : YT) (qm : Nat → Nat) (Vm : Nat → LT) (R : Nat → Int32) : Prop :=
  sc ≤ 6 ∧ okS (T, q, nr) ∧ AG q qm nr ∧ okZ Z q nr T ∧ (∀ j, j < sc → okS (V j) ∧ RS (V j) (Vm j)) ∧ okR Vm sc R ∧ (len ≤ 60 ∧ ∀ j, j < len → b j < 128) ∧ okY Y
section INVS
variable {sc : Nat} {V : Nat → LT} {T : Nat → Bool} {q : Nat → Nat} {nr : Nat} {Z : ZT} {b : Nat → Nat} {len : Nat} {Y : YT} {qm : Nat → Nat} {Vm : Nat → LT} {R : Nat → Int32}
theorem sv_all {Pr : LT → LT → Prop} {X X' : LT} (h6 : sc ≤ 6) (h : ∀ j, j < sc → Pr (V j) (Vm j)) (hX : Pr X X') : ∀ j, j < svC sc → Pr (svV V sc X j) (svV Vm sc X' j) := by
  intro j hj
  unfold svC at hj
  unfold svV
  by_cases h1 : sc < 6
  · rw [if_pos h1] at hj ⊢
    rw [if_pos h1]
    by_cases h2 : j = sc
    · rw [if_pos h2, if_pos h2]; exact hX
    · rw [if_neg h2, if_neg h2]; exact h j (by omega)
  · rw [if_neg h1] at hj ⊢
    rw [if_neg h1]
    by_cases h2 : j < 5
    · rw [if_pos h2, if_pos h2]; exact h (j + 1) (by omega)
    · rw [if_neg h2, if_neg h2, if_pos (by omega), if_pos (by omega)]; exact hX
theorem svC_6 (sc : Nat) (h : sc ≤ 6) : svC sc ≤ 6 := by unfold svC; split <;> omega
/-- a change that saves -/
theorem INV_sv (h : INV sc V T q nr Z b len Y qm Vm R) {T2 : Nat → Bool} {q2 qm2 : Nat → Nat} {n2 : Nat} {sz : Nat → Int32} {R2 : Nat → Int32} {b2 : Nat → Nat} {len2 : Nat} {Y2 : YT} (hS : okS (T2, q2, n2)) (hA : AG q2 qm2 n2) (hR : okR (svV Vm sc (T, qm, nr)) (svC sc) R2) (hl : len2 ≤ 60) (hb : ∀ j, j < len2 → b2 j < 128) (hY : okY Y2) :
    INV (svC sc) (svV V sc (T, q, nr)) T2 q2 n2 (fnd q2 n2 T2 sz) b2 len2 Y2 qm2 (svV Vm sc (T, qm, nr)) R2 := by
  obtain ⟨h1, h2, h3, h4, h5, h6, h7, h8⟩ := h
  exact ⟨svC_6 sc h1, hS, hA, okZ_fnd _ _ _ _, sv_all (Pr := fun X X' => okS X ∧ RS X X') h1 h5 ⟨h2, rfl, rfl, h3⟩, hR, ⟨hl, hb⟩, hY⟩
/-- a change of the buffer, the reader -/
theorem INV_bf (h : INV sc V T q nr Z b len Y qm Vm R) {b2 : Nat → Nat} {len2 : Nat} {Y2 : YT} (hl : len2 ≤ 60) (hb : ∀ j, j < len2 → b2 j < 128) (hY : okY Y2) : INV sc V T q nr Z b2 len2 Y2 qm Vm R :=
  ⟨h.1, h.2.1, h.2.2.1, h.2.2.2.1, h.2.2.2.2.1, h.2.2.2.2.2.1, ⟨hl, hb⟩, hY⟩
theorem INV_undo (h : INV sc V T q nr Z b len Y qm Vm R) (h0 : 0 < sc) {sz : Nat → Int32} : INV (sc - 1) V (V (sc - 1)).1 (V (sc - 1)).2.1 (V (sc - 1)).2.2 (fnd (V (sc - 1)).2.1 (V (sc - 1)).2.2 (V (sc - 1)).1 sz) b len Y (Vm (sc - 1)).2.1 Vm R := by
  obtain ⟨h1, h2, h3, h4, h5, h6, h7, h8⟩ := h
  have hk := h5 (sc - 1) (by omega)
  exact ⟨by omega, hk.1, hk.2.2.2, okZ_fnd _ _ _ _, fun j hj => h5 j (by omega), fun k hk => h6 k (by omega), h7, h8⟩
theorem INV_up (h : INV sc V T q nr Z b len Y qm Vm R) {c : Nat} (hl : len < 60) (hc : c ≤ 126) : INV sc V T q nr Z (upN b len c) (len + 1) Y qm Vm R := by
  refine INV_bf h (by omega) (fun j hj => ?_) h.2.2.2.2.2.2.2
  unfold upN
  split
  · omega
  · exact h.2.2.2.2.2.2.1.2 j (by omega)
theorem zcnt_take {S : Nat → Bool} {a : Nat} : zcnt (zTake S a) 256 ≤ zcnt S 256 := zcnt_sub (fun k _ hk => by
  unfold zTake at hk
  split at hk
  · cases hk
  · exact hk)
end INVS
/-! cases of a call's arguments -/
theorem cs_fact (z1 z2 z3 : Int32) : (∃ a, a < 256 ∧ isF a = true ∧ z1 = nI (a / 64) ∧ z2 = nI (a / 8 % 8) ∧ z3 = nI (a % 8)) ∨ isFi z1 z2 z3 = false := by
  cases h : isFi z1 z2 z3 with
  | false => exact Or.inr rfl
  | true =>
    obtain ⟨h1, h2, h3⟩ := isFi_in h
    obtain ⟨x, hx, rfl⟩ := inI_of (by decide) h1
    obtain ⟨y, hy, rfl⟩ := inI_of (by decide) h2
    obtain ⟨z, hz, rfl⟩ := inI_of (by decide) h3
    rw [isFi_F x (by omega) y (by omega) z (by omega)] at h
    exact Or.inl ⟨64 * x + 8 * y + z, by omega, h, by rw [show (64 * x + 8 * y + z) / 64 = x by omega], by rw [show (64 * x + 8 * y + z) / 8 % 8 = y by omega], by rw [show (64 * x + 8 * y + z) % 8 = z by omega]⟩
theorem cs_atom (z : Int32) : (∃ a, a < 256 ∧ z = nI a) ∨ isA z = false := by
  cases h : isA z with
  | false => exact Or.inr rfl
  | true =>
    rw [← inI_A] at h
    obtain ⟨x, hx, rfl⟩ := inI_of (by decide) h
    exact Or.inl ⟨x, by omega, rfl⟩
theorem cs_rule (z : Int32) {nr : Nat} (h6 : nr ≤ 6) : (∃ r, r < nr ∧ z = nI r) ∨ hR z nr = false := by
  cases h : hR z nr with
  | false => exact Or.inr rfl
  | true => exact Or.inl (hR_of (by omega) h)
theorem cs_pos (z : Int32) : (∃ k, k < 2 ^ 31 ∧ z = nI k) ∨ z < 0 := by
  by_cases h : z < 0
  · exact Or.inr h
  · obtain ⟨k, hk, e⟩ := nI_of h
    exact Or.inl ⟨k, hk, e⟩
theorem cs_rng (z : Int32) {a m : Nat} (hm : m < 2 ^ 31) (ha : a < 2 ^ 31) : (∃ w, a ≤ w ∧ w ≤ m ∧ z = nI w) ∨ z < nI a ∨ nI m < z := by
  by_cases h1 : z < nI a
  · exact Or.inr (Or.inl h1)
  · by_cases h2 : nI m < z
    · exact Or.inr (Or.inr h2)
    · have e0 := nI_toInt ha
      have em := nI_toInt hm
      rw [Int32.lt_iff_toInt_lt, e0] at h1
      rw [Int32.lt_iff_toInt_lt, em] at h2
      have z0 : (0 : Int32).toInt = 0 := by decide +kernel
      obtain ⟨k, hk, rfl⟩ := nI_of (x := z) (by rw [Int32.lt_iff_toInt_lt, z0]; omega)
      rw [nI_toInt hk] at h1 h2
      exact Or.inl ⟨k, by omega, by omega, rfl⟩
theorem nI_lt0 {z : Int32} {m : Nat} (h : z < nI 0 ∨ nI m < z) : z < 0 ∨ nI m < z := by
  rw [nI_0] at h
  exact h
theorem nI_ge4 {z : Int32} (h : z < nI 0 ∨ nI 3 < z) : z < 0 ∨ nI 4 ≤ z := by
  rcases h with h | h
  · rw [nI_0] at h; exact Or.inl h
  · refine Or.inr ?_
    have e3 : (nI 3).toInt = 3 := by decide +kernel
    have e4 : (nI 4).toInt = 4 := by decide +kernel
    rw [Int32.lt_iff_toInt_lt, e3] at h
    rw [Int32.le_iff_toInt_le, e4]
    omega
/-! reading, whatever stood in the reader -/
section RDS
variable {b : Nat → Nat} {len : Nat}
def yE (Y X : YT) : Prop := Y.1 = X.1 ∧ Y.2.1 = X.2.1 ∧ (∀ j, j < Y.1 → Y.2.2 j = X.2.2 j) ∧ (Y.2.1 ≠ 0 → Y.2.2 Y.1 = X.2.2 Y.1)
theorem yE_stb {Y X : YT} (h : yE Y X) : stb Y = stb X := by
  obtain ⟨h1, h2, h3, h4⟩ := h
  unfold stb
  rw [← h1, ← h2]
  by_cases e : Y.2.1 = 3
  · rw [if_pos e, if_pos e]
    by_cases e2 : 0 < Y.1
    · rw [if_pos e2, if_pos e2]
    · rw [if_neg e2, if_neg e2]
      have := h4 (by omega)
      rw [show Y.1 = 0 by omega] at this
      rw [this]
  · rw [if_neg e, if_neg e]
theorem yE_tk {Y X : YT} (h : yE Y X) (c : Nat) : (tk c Y).1 = (tk c X).1 ∧ yE (tk c Y).2 (tk c X).2 := by
  have hs := yE_stb h
  obtain ⟨h1, h2, h3, h4⟩ := id h
  by_cases e3 : Y.2.1 = 3
  · by_cases k1 : c = 59 ∧ stb Y = true
    · rw [tk_m1 e3 k1.1 k1.2, tk_m1 (h2.symm.trans e3) k1.1 (hs.symm.trans k1.2)]
      exact ⟨rfl, rfl, rfl, fun j hj => absurd hj (Nat.not_lt_zero _), fun z => absurd rfl z⟩
    · by_cases k2 : (c = 60 ∧ Y.1 = 0) ∨ (c = 38 ∧ Y.1 = 1)
      · rw [tk_m2 e3 k1 k2, tk_m2 (h2.symm.trans e3) (by rw [← hs]; exact k1) (by rw [← h1]; exact k2)]
        refine ⟨rfl, by show Y.1 + 1 = X.1 + 1; rw [h1], rfl, fun j hj => ?_, fun z => absurd rfl z⟩
        have hj2 : j < Y.1 + 1 := hj
        show Y.2.2 j = X.2.2 j
        by_cases z : j = Y.1
        · rw [z]; exact h4 (by omega)
        · exact h3 j (by omega)
      · rw [tk_m3 e3 k1 k2, tk_m3 (h2.symm.trans e3) (by rw [← hs]; exact k1) (by rw [← h1]; exact k2)]
        exact ⟨rfl, h⟩
  · by_cases k1 : (if Y.2.1 = 0 then ltc c else tmc c) = 256
    · rw [tk_a0 e3 k1, tk_a0 (by rw [← h2]; exact e3) (by rw [← h2]; exact k1)]
      exact ⟨rfl, h⟩
    · unfold tk
      rw [if_neg e3, if_neg k1, ← h2, if_neg e3, if_neg k1]
      refine ⟨rfl, h1, rfl, fun j hj => ?_, fun _ => ?_⟩
      · have hj2 : j < Y.1 := hj
        show upN Y.2.2 Y.1 _ j = upN X.2.2 X.1 _ j
        unfold upN
        rw [if_neg (by omega), if_neg (by omega)]
        exact h3 j hj2
      · show upN Y.2.2 Y.1 _ Y.1 = upN X.2.2 X.1 _ Y.1
        unfold upN
        rw [if_pos rfl, if_pos h1]
        by_cases e0 : Y.2.1 = 0
        · rw [if_pos e0, if_pos e0]
        · rw [if_neg e0, if_neg e0, ← h1, h4 e0]
theorem yE_ry (as a2 : Nat → Nat) (n : Nat) : yE (ry b as n) (ry b a2 n) ∧ fe b as n = fe b a2 n := by
  induction n with
  | zero => exact ⟨⟨rfl, rfl, fun j hj => absurd hj (Nat.not_lt_zero _), fun z => absurd rfl z⟩, rfl⟩
  | succ n ih =>
    have k := yE_tk ih.1 (b n)
    refine ⟨k.2, ?_⟩
    rw [fe, fe, ih.2, k.1]
theorem fe_as (as a2 : Nat → Nat) (n : Nat) : fe b as n = fe b a2 n := (yE_ry as a2 n).2
theorem stb_as (as a2 : Nat → Nat) (n : Nat) : stb (ry b as n) = stb (ry b a2 n) := yE_stb (yE_ry as a2 n).1
def RP (P P' : PT) : Prop := P.1 = P'.1 ∧ P.2.1 = P'.2.1 ∧ P.2.2.2 = P'.2.2.2 ∧ AG P.2.2.1 P'.2.2.1 P.2.2.2
theorem plw_RP {Y : YT} {P P' : PT} (h : RP P P') : (plw Y P = none ∧ plw Y P' = none) ∨ ∃ R R', plw Y P = some R ∧ plw Y P' = some R' ∧ RP R R' := by
  obtain ⟨h1, h2, h3, h4⟩ := h
  by_cases e : Y.1 = 0
  · exact Or.inr ⟨_, _, plw_0 e, plw_0 e, by show P.1 + 1 = P'.1 + 1; rw [h1], by show zPut P.2.1 _ = zPut P'.2.1 _; rw [h2], h3, h4⟩
  · by_cases l : P.2.2.2 < 6
    · exact Or.inr ⟨_, _, plw_1 e l, plw_1 e (h3 ▸ l), by show P.1 + 1 = P'.1 + 1; rw [h1], h2, by show P.2.2.2 + 1 = P'.2.2.2 + 1; rw [h3], by show AG _ (aR P'.2.2.1 P'.2.2.2 _ _ _) _; rw [← h3]; exact aR_AG h4 _ _ _⟩
    · exact Or.inl ⟨plw_2 e l, plw_2 e (h3 ▸ l)⟩
theorem pst_RP {as : Nat → Nat} {P P' : PT} (h : RP P P') (n : Nat) : (pst b as len P n = none ∧ pst b as len P' n = none) ∨ ∃ R R', pst b as len P n = some R ∧ pst b as len P' n = some R' ∧ RP R R' := by
  induction n with
  | zero => exact Or.inr ⟨P, P', rfl, rfl, h⟩
  | succ n ih =>
    rcases ih with ⟨k1, k2⟩ | ⟨R, R', k1, k2, k3⟩
    · exact Or.inl ⟨by rw [pst, k1]; rfl, by rw [pst, k2]; rfl⟩
    · rw [pst_s k1, pst_s k2]
      split
      · exact plw_RP k3
      · exact Or.inr ⟨R, R', rfl, rfl, k3⟩
theorem tk_59 {Y : YT} (h : (tk 59 Y).1 = true) : stb Y = true := by
  by_cases e3 : Y.2.1 = 3
  · cases hs : stb Y with
    | true => rfl
    | false =>
      rw [tk_m3 e3 (fun q => by rw [hs] at q; cases q.2) (by omega)] at h
      cases h
  · rw [tk_a0 e3 (by split <;> decide)] at h
    cases h
theorem fe_pre {as : Nat → Nat} {n m : Nat} (h : fe b as m = none) (hn : n ≤ m) : fe b as n = none := by
  cases e : fe b as n with
  | none => rfl
  | some i =>
    rw [show m = n + (m - n) by omega, fe_le e] at h
    cases h
theorem pst_ok {as : Nat → Nat} (has : okA as) (hf : fe b as len = none) (hs : stb (ry b as len) = true) {P : PT} (hF : okF P.2.1) (hQ : okQ P.2.2.1 P.2.2.2) (n : Nat) (hn : n ≤ len + 1) : ∀ R, pst b as len P n = some R → okF R.2.1 ∧ okQ R.2.2.1 R.2.2.2 ∧ R.1 ≤ P.1 + n := by
  induction n with
  | zero => intro R hR; cases hR; exact ⟨hF, hQ, Nat.le_refl _⟩
  | succ n ih =>
    intro R hR
    rw [pst] at hR
    obtain ⟨R2, k1, k2⟩ := Option.bind_eq_some_iff.mp hR
    obtain ⟨g1, g2, g3⟩ := ih (by omega) R2 k1
    by_cases c : n = len ∨ b n = 59
    · rw [if_pos c] at k2
      have st : stb (ry b as n) = true := by
        by_cases z : n = len
        · rw [z]; exact hs
        · have f1 := fe_pre hf (show n + 1 ≤ len by omega)
          rw [fe_s (fe_pre hf (show n ≤ len by omega))] at f1
          have : (tk (b n) (ry b as n)).1 = true := by
            cases t : (tk (b n) (ry b as n)).1 with
            | true => rfl
            | false => rw [t] at f1; cases f1
          rw [c.resolve_left z] at this
          exact tk_59 this
      have yk := okY_ry (b := b) has n
      by_cases e : (ry b as n).1 = 0
      · rw [plw_0 e] at k2
        cases k2
        refine ⟨okF_put g1 ?_ (yk.2.2.1 0 (by decide)), g2, by show R2.1 + 1 ≤ _; omega⟩
        unfold stb at st
        split at st
        · rw [if_neg (by omega)] at st; exact st
        · cases st
      · by_cases l : R2.2.2.2 < 6
        · rw [plw_1 e l] at k2
          cases k2
          refine ⟨g1, okQ_aR g2 l (yk.2.2.1 0 (by decide)) (yk.2.2.1 1 (by decide)) ?_, by show R2.1 + 1 ≤ _; omega⟩
          split
          · exact Nat.le_of_lt (yk.2.2.1 2 (by decide))
          · exact Nat.le_refl _
        · rw [plw_2 e l] at k2; cases k2
    · rw [if_neg c] at k2
      cases k2
      exact ⟨g1, g2, by omega⟩
end RDS
