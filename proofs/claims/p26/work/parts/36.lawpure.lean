/-! the law's own numbers -/
def ml (x : Int32) : Nat := x.toBitVec.toNat % 2 ^ 31
def lw (x : Int32) (n : Nat) : Nat := ml x % n
def sh (x : Int32) (k : Nat) : Int32 := x >>> (nI k &&& 31)
theorem ml_lt (x : Int32) : ml x < 2 ^ 31 := Nat.mod_lt _ (by decide)
theorem lw_lt {x : Int32} {n : Nat} (h : 0 < n) : lw x n < n := Nat.mod_lt _ h
theorem nI_bv (x : Int32) : x = nI x.toBitVec.toNat := Int32.toBitVec_inj.mp (by show _ = BitVec.ofNat 32 _; simp)
theorem ml_and (x : Int32) : x &&& 2147483647 = nI (ml x) := by
  have h := pk_andNw (n := x.toBitVec.toNat) (m := 2147483647) 31 (by decide +kernel)
  rw [← nI_bv x] at h
  exact h
def vk (v : Int32) : Nat := v.toBitVec.toNat % 8
theorem vk_and (v : Int32) : v &&& nI 7 = nI (vk v) := by
  have h := pk_andNw (n := v.toBitVec.toNat) (m := nI 7) 3 (by decide +kernel)
  rw [← nI_bv v] at h
  exact h
theorem vk_lt (v : Int32) : vk v < 8 := Nat.mod_lt _ (by decide)
def acP (w : Int32) : Nat := w.toBitVec.toNat % 4
theorem acP_and (w : Int32) : w &&& nI 3 = nI (acP w) := by
  have h := pk_andNw (n := w.toBitVec.toNat) (m := nI 3) 2 (by decide +kernel)
  rw [← nI_bv w] at h
  exact h
def pt (x : Int32) : Nat := 64 * lw x 4 + 8 * lw (sh x 2) 8 + lw (sh x 5) 8
theorem pt_lt (x : Int32) : pt x < 256 := by
  have h1 := lw_lt (x := x) (n := 4) (by decide)
  have h2 := lw_lt (x := sh x 2) (n := 8) (by decide)
  have h3 := lw_lt (x := sh x 5) (n := 8) (by decide)
  unfold pt
  omega
def ac6 (w : Int32) : Nat := if lw (sh w 2) 5 = 4 then 6 else 5
def acA (w : Int32) : Nat := 64 * acP w + 8 * lw (sh w 2) 5 + lw (sh w 5) (ac6 w)
theorem ac_all (w : Int32) : acA w / 64 = acP w ∧ acA w / 8 % 8 = lw (sh w 2) 5 ∧ acA w % 8 = lw (sh w 5) (ac6 w) ∧ acA w < 256 ∧ isF (acA w) = true := by
  have h0 : acP w < 4 := Nat.mod_lt _ (by decide)
  have h1 := lw_lt (x := sh w 2) (n := 5) (by decide)
  have h2 := lw_lt (x := sh w 5) (n := ac6 w) (by unfold ac6; split <;> decide)
  have h3 : ac6 w = 6 ∨ (ac6 w = 5 ∧ lw (sh w 2) 5 ≠ 4) := by
    unfold ac6
    by_cases z : lw (sh w 2) 5 = 4
    · rw [if_pos z]; exact Or.inl rfl
    · rw [if_neg z]; exact Or.inr ⟨rfl, z⟩
  have h4 : ac6 w = 6 → lw (sh w 2) 5 = 4 := fun q => by
    unfold ac6 at q
    by_cases z : lw (sh w 2) 5 = 4
    · exact z
    · rw [if_neg z] at q; cases q
  unfold isF acA
  generalize acP w = p at *
  generalize lw (sh w 2) 5 = f at *
  generalize lw (sh w 5) (ac6 w) = t at *
  simp only [decide_eq_true_eq]
  omega
/-! what an act answers, and the laws behind it -/
def acH (v w : Int32) (T : Nat → Bool) (nr : Nat) (Z : ZT) : Int32 :=
  if vk v = 0 then nI 2 else if vk v = 1 then (if nr = 0 then -1 else nI 2) else if vk v = 2 then (if nr = 6 then -1 else nI 1) else if vk v = 3 then (if nr = 6 then -1 else nI 1) else if vk v = 4 then (if 12 < zcnt (zF Z) 256 then -1 else nI 0) else (if zcnt T 256 = 12 then -1 else nI 1)
def acX (v w : Int32) (T : Nat → Bool) (q : Nat → Nat) (nr : Nat) (Z : ZT) : LT :=
  if vk v = 0 then (zTake T (acA w), q, nr) else if vk v = 1 then (T, dRi q (lw w nr) 15, nr - 1) else if vk v = 2 then (T, aR q nr (pt w) (pt (sh w 8)) 256, nr + 1) else if vk v = 3 then (T, aR q nr (pt w) (pt (sh w 8)) (pt (sh w 16)), nr + 1) else if vk v = 4 then (zF Z, q, nr) else (zPut T (acA w), q, nr)
section ACS
variable {v w : Int32} {T : Nat → Bool} {q : Nat → Nat} {nr : Nat} {Z : ZT}
theorem acH_0 (h : vk v = 0) : acH v w T nr Z = nI 2 := by unfold acH; rw [if_pos h]
theorem acH_1 (h : vk v = 1) : acH v w T nr Z = if nr = 0 then -1 else nI 2 := by unfold acH; rw [if_neg (by omega), if_pos h]
theorem acH_2 (h : vk v = 2) : acH v w T nr Z = if nr = 6 then -1 else nI 1 := by unfold acH; rw [if_neg (by omega), if_neg (by omega), if_pos h]
theorem acH_3 (h : vk v = 3) : acH v w T nr Z = if nr = 6 then -1 else nI 1 := by unfold acH; rw [if_neg (by omega), if_neg (by omega), if_neg (by omega), if_pos h]
theorem acH_4 (h : vk v = 4) : acH v w T nr Z = if 12 < zcnt (zF Z) 256 then -1 else nI 0 := by unfold acH; rw [if_neg (by omega), if_neg (by omega), if_neg (by omega), if_neg (by omega), if_pos h]
theorem acH_5 (h : 5 ≤ vk v) : acH v w T nr Z = if zcnt T 256 = 12 then -1 else nI 1 := by unfold acH; rw [if_neg (by omega), if_neg (by omega), if_neg (by omega), if_neg (by omega), if_neg (by omega)]
theorem acX_0 (h : vk v = 0) : acX v w T q nr Z = (zTake T (acA w), q, nr) := by unfold acX; rw [if_pos h]
theorem acX_1 (h : vk v = 1) : acX v w T q nr Z = (T, dRi q (lw w nr) 15, nr - 1) := by unfold acX; rw [if_neg (by omega), if_pos h]
theorem acX_2 (h : vk v = 2) : acX v w T q nr Z = (T, aR q nr (pt w) (pt (sh w 8)) 256, nr + 1) := by unfold acX; rw [if_neg (by omega), if_neg (by omega), if_pos h]
theorem acX_3 (h : vk v = 3) : acX v w T q nr Z = (T, aR q nr (pt w) (pt (sh w 8)) (pt (sh w 16)), nr + 1) := by unfold acX; rw [if_neg (by omega), if_neg (by omega), if_neg (by omega), if_pos h]
theorem acX_4 (h : vk v = 4) : acX v w T q nr Z = (zF Z, q, nr) := by unfold acX; rw [if_neg (by omega), if_neg (by omega), if_neg (by omega), if_neg (by omega), if_pos h]
theorem acX_5 (h : 5 ≤ vk v) : acX v w T q nr Z = (zPut T (acA w), q, nr) := by unfold acX; rw [if_neg (by omega), if_neg (by omega), if_neg (by omega), if_neg (by omega), if_neg (by omega)]
end ACS
theorem zcnt_put {S : Nat → Bool} {a : Nat} (ha : a < 256) : zcnt (zPut S a) 256 ≤ zcnt S 256 + 1 := by
  have h1 := zcnt_or (F := fun k => S k && !decide (k = a)) (U := fun k => decide (k = a)) (fun k hk => by
    have := of_decide_eq_true hk
    simp [this]) 256
  have h2 : zcnt (fun k => S k && !decide (k = a)) 256 ≤ zcnt S 256 := zcnt_sub (fun k _ hk => by
    rw [Bool.and_eq_true] at hk
    exact hk.1)
  have h3 : ∀ n, zcnt (fun k => decide (k = a)) n ≤ 1 ∧ (n ≤ a → zcnt (fun k => decide (k = a)) n = 0) := by
    intro n
    induction n with
    | zero => exact ⟨Nat.zero_le _, fun _ => rfl⟩
    | succ n ih =>
      rw [zcnt_1]
      by_cases z : n = a
      · have := ih.2 (by omega)
        rw [this, decide_eq_true z]
        exact ⟨Nat.le_refl _, fun h => absurd h (by omega)⟩
      · rw [decide_eq_false z]
        exact ⟨ih.1, fun h => ih.2 (by omega)⟩
  have h4 : zcnt (zPut S a) 256 ≤ zcnt (zOr (fun k => S k && !decide (k = a)) (fun k => decide (k = a))) 256 := zcnt_sub (fun k _ hk => by
    unfold zPut at hk
    show ((S k && !decide (k = a)) || decide (k = a)) = true
    by_cases z : k = a
    · rw [decide_eq_true z, Bool.or_true]
    · rw [if_neg z] at hk
      rw [hk, decide_eq_false z]
      rfl)
  have := (h3 256).1
  omega
theorem zcnt_take {S : Nat → Bool} {a : Nat} : zcnt (zTake S a) 256 ≤ zcnt S 256 := zcnt_sub (fun k _ hk => by
    unfold zTake at hk
    split at hk
    · cases hk
    · exact hk)
def okS (X : LT) : Prop := okQ X.2.1 X.2.2 ∧ okF X.1 ∧ zcnt X.1 256 ≤ 12
theorem told_foll {q : Nat → Nat} {nr : Nat} {T : Nat → Bool} (hq : okQ q nr) (hT : okF T) {a : Nat} (h : T a = true) : foll (zF (fn0 q nr T)) a = true := (fnd_ok hq hT (fun _ => 0)).2.2 a (foll_iff.mpr (Or.inl h))
/-- an act keeps the laws' bounds, and count(6) moves as the law asks -/
theorem ac_mono {v w : Int32} {T : Nat → Bool} {q : Nat → Nat} {nr : Nat} {Z : ZT} (hS : okS (T, q, nr)) (hZ : zF Z = zF (fn0 q nr T)) (hno : acH v w T nr Z ≠ -1) :
    okS (acX v w T q nr Z) ∧ ((acH v w T nr Z = nI 0 ∧ insU (zF (fn0 (acX v w T q nr Z).2.1 (acX v w T q nr Z).2.2 (acX v w T q nr Z).1)) 4 = insU (zF (fn0 q nr T)) 4) ∨ (acH v w T nr Z = nI 1 ∧ insU (zF (fn0 q nr T)) 4 ≤ insU (zF (fn0 (acX v w T q nr Z).2.1 (acX v w T q nr Z).2.2 (acX v w T q nr Z).1)) 4) ∨ (acH v w T nr Z = nI 2 ∧ insU (zF (fn0 (acX v w T q nr Z).2.1 (acX v w T q nr Z).2.2 (acX v w T q nr Z).1)) 4 ≤ insU (zF (fn0 q nr T)) 4)) := by
  obtain ⟨hq, hT, h12⟩ := hS
  have hq : okQ q nr := hq
  have hT : okF T := hT
  have h12 : zcnt T 256 ≤ 12 := h12
  have h6 := hq.1
  obtain ⟨-, -, -, a4, a5⟩ := ac_all w
  have hv := vk_lt v
  rcases (show vk v = 0 ∨ vk v = 1 ∨ vk v = 2 ∨ vk v = 3 ∨ vk v = 4 ∨ 5 ≤ vk v by omega) with h | h | h | h | h | h
  · rw [acX_0 h, acH_0 h]
    have hT2 := okF_take hT (acA w)
    refine ⟨⟨hq, hT2, Nat.le_trans zcnt_take h12⟩, Or.inr (Or.inr ⟨rfl, ins_grow hq hT2 hq hT (fun _ h => h) (fun a ha => told_foll hq hT ?_)⟩)⟩
    have ha2 : (if a = acA w then false else T a) = true := ha
    split at ha2
    · cases ha2
    · exact ha2
  · rw [acH_1 h] at hno ⊢
    rw [acX_1 h]
    by_cases z : nr = 0
    · rw [if_pos z] at hno
      exact absurd rfl hno
    · rw [if_neg z]
      have hr : lw w nr < nr := lw_lt (by omega)
      exact ⟨⟨okQ_dRi hq hr, hT, h12⟩, Or.inr (Or.inr ⟨rfl, ins_grow (okQ_dRi hq hr) hT hq hT (fun _ hC => clo_dRi hr h6 hC) (fun a ha => told_foll hq hT ha)⟩)⟩
  · rw [acH_2 h] at hno ⊢
    rw [acX_2 h]
    by_cases z : nr = 6
    · rw [if_pos z] at hno
      exact absurd rfl hno
    · rw [if_neg z]
      have hq2 : okQ (aR q nr (pt w) (pt (sh w 8)) 256) (nr + 1) := okQ_aR hq (by omega) (pt_lt _) (pt_lt _) (Nat.le_refl _)
      exact ⟨⟨hq2, hT, h12⟩, Or.inr (Or.inl ⟨rfl, ins_grow hq hT hq2 hT (fun _ hC => clo_aR hC) (fun a ha => told_foll hq2 hT ha)⟩)⟩
  · rw [acH_3 h] at hno ⊢
    rw [acX_3 h]
    by_cases z : nr = 6
    · rw [if_pos z] at hno
      exact absurd rfl hno
    · rw [if_neg z]
      have hq2 : okQ (aR q nr (pt w) (pt (sh w 8)) (pt (sh w 16))) (nr + 1) := okQ_aR hq (by omega) (pt_lt _) (pt_lt _) (Nat.le_of_lt (pt_lt _))
      exact ⟨⟨hq2, hT, h12⟩, Or.inr (Or.inl ⟨rfl, ins_grow hq hT hq2 hT (fun _ hC => clo_aR hC) (fun a ha => told_foll hq2 hT ha)⟩)⟩
  · rw [acH_4 h] at hno ⊢
    rw [acX_4 h]
    by_cases z : 12 < zcnt (zF Z) 256
    · rw [if_pos z] at hno
      exact absurd rfl hno
    · rw [if_neg z]
      have hF : okF (zF Z) := by rw [hZ]; exact (fnd_ok hq hT (fun _ => 0)).1
      refine ⟨⟨hq, hF, (show zcnt (zF Z) 256 ≤ 12 by omega)⟩, Or.inl ⟨rfl, ?_⟩⟩
      rw [hZ]
      exact ins_settle hq hT
  · rw [acH_5 h] at hno ⊢
    rw [acX_5 h]
    by_cases z : zcnt T 256 = 12
    · rw [if_pos z] at hno
      exact absurd rfl hno
    · rw [if_neg z]
      have hT2 := okF_put hT a5 a4
      have h13 := zcnt_put (S := T) a4
      refine ⟨⟨hq, hT2, (show zcnt (zPut T (acA w)) 256 ≤ 12 by omega)⟩, Or.inr (Or.inl ⟨rfl, ins_grow hq hT hq hT2 (fun _ h => h) (fun a ha => told_foll hq hT2 ?_)⟩)⟩
      unfold zPut
      split
      · rfl
      · exact ha
/-! what the looks hold on -/
theorem fnd_mt {q : Nat → Nat} {nr : Nat} {T : Nat → Bool} {sz : Nat → Int32} : zMt (fnd q nr T sz) = zMt (fn0 q nr T) := congrArg (fun c => c.2.2.1) (fnd_cz q nr T sz)
theorem fnd_dr {q : Nat → Nat} {nr : Nat} {T : Nat → Bool} {sz : Nat → Int32} : zDr (fnd q nr T sz) = zDr (fn0 q nr T) := congrArg (fun c => c.2.2.2.1) (fnd_cz q nr T sz)
theorem fnd_ro {q : Nat → Nat} {nr : Nat} {T : Nat → Bool} {sz : Nat → Int32} : zRo (fnd q nr T sz) = zRo (fn0 q nr T) := congrArg (fun c => c.2.2.2.2.1) (fnd_cz q nr T sz)
theorem fnd_ru {q : Nat → Nat} {nr : Nat} {T : Nat → Bool} {sz : Nat → Int32} : zRu (fnd q nr T sz) = zRu (fn0 q nr T) := congrArg (fun c => c.2.2.2.2.2) (fnd_cz q nr T sz)
/-- the rounds' rows are those of the laws: but for what stands behind the last round's size -/
def okZ (Z : ZT) (q : Nat → Nat) (nr : Nat) (T : Nat → Bool) : Prop := zF Z = zF (fn0 q nr T) ∧ zRd Z = zRd (fn0 q nr T) ∧ zMt Z = zMt (fn0 q nr T) ∧ zDr Z = zDr (fn0 q nr T) ∧ (∀ a, zF Z a = true → zRo Z a = zRo (fn0 q nr T) a ∧ zRu Z a = zRu (fn0 q nr T) a) ∧ ∀ r, r ≤ zRd Z → zSz Z r = zSz (fn0 q nr T) r
theorem okZ_fnd (q : Nat → Nat) (nr : Nat) (T : Nat → Bool) (sz : Nat → Int32) : okZ (fnd q nr T sz) q nr T := ⟨fnd_F _ _ _ _, fnd_rd _ _ _ _, fnd_mt, fnd_dr, fun a _ => ⟨by rw [fnd_ro], by rw [fnd_ru]⟩, fun r hr => fnd_szr sz hr⟩
section OKZ
variable {q : Nat → Nat} {nr : Nat} {T : Nat → Bool} {Z : ZT}
theorem okZ_F (h : okZ Z q nr T) : zF Z = zF (fn0 q nr T) := h.1
theorem okZ_rd (h : okZ Z q nr T) : zRd Z = zRd (fn0 q nr T) := h.2.1
theorem okZ_mt (h : okZ Z q nr T) : zMt Z = zMt (fn0 q nr T) := h.2.2.1
theorem okZ_dr (h : okZ Z q nr T) : zDr Z = zDr (fn0 q nr T) := h.2.2.2.1
theorem okZ_sz (h : okZ Z q nr T) : ∀ r, r ≤ zRd Z → zSz Z r = zSz (fn0 q nr T) r := h.2.2.2.2.2
theorem fdA_Z (h : okZ Z q nr T) (k w : Nat) : fdA Z k w = fdA (fn0 q nr T) k w := by
  have e : nth (zF Z) k 256 = nth (zF (fn0 q nr T)) k 256 := by rw [okZ_F h]
  rcases hn : nth (zF Z) k 256 with _ | a
  · rw [fdA_n hn, fdA_n (e.symm.trans hn)]
  · obtain ⟨h1, h2⟩ := h.2.2.2.2.1 a (nth_sp hn).2.1
    rw [fdA_s hn, fdA_s (e.symm.trans hn), h1, h2]
theorem cnA_Z (h : okZ Z q nr T) (sc w : Nat) : cnA T nr Z sc w = cnA T nr (fn0 q nr T) sc w := by
  unfold cnA
  rw [okZ_F h, okZ_rd h, okZ_mt h, okZ_dr h]
end OKZ
theorem lp_congr {g g2 : Nat → Int64 → Int64} (n : Nat) (h : ∀ k, k < n → ∀ x, g k x = g2 k x) (x : Int64) : lp g n x = lp g2 n x := by
  induction n with
  | zero => rfl
  | succ n ih => rw [lp_s, lp_s, ih (fun k hk => h k (by omega)), h n (by omega)]
/-! the law's hash of the looks -/
def g2 (T : Nat → Bool) : Nat → Int64 → Int64 := fun k h => hsh h (eO (nth T k 256)).toInt64
def g3 (q : Nat → Nat) : Nat → Int64 → Int64 := fun k h => hsh (hsh (hsh h (eA (q (3 * k + 0))).toInt64) (eA (q (3 * k + 1))).toInt64) (eA (q (3 * k + 2))).toInt64
def g4 (Z : ZT) : Nat → Int64 → Int64 := fun k h => hsh (hsh (hsh h (fdA Z k 0).toInt64) (fdA Z k 1).toInt64) (fdA Z k 2).toInt64
theorem g2_s (T : Nat → Bool) (k : Nat) (h : Int64) : lp (g2 T) (k + 1) h = hsh (lp (g2 T) k h) (eO (nth T k 256)).toInt64 := lp_s (g2 T) k h
theorem g3_s (q : Nat → Nat) (k : Nat) (h : Int64) : lp (g3 q) (k + 1) h = hsh (hsh (hsh (lp (g3 q) k h) (eA (q (3 * k + 0))).toInt64) (eA (q (3 * k + 1))).toInt64) (eA (q (3 * k + 2))).toInt64 := lp_s (g3 q) k h
theorem g4_s (Z : ZT) (k : Nat) (h : Int64) : lp (g4 Z) (k + 1) h = hsh (hsh (hsh (lp (g4 Z) k h) (fdA Z k 0).toInt64) (fdA Z k 1).toInt64) (fdA Z k 2).toInt64 := lp_s (g4 Z) k h
def tlA (T : Nat → Bool) (q : Nat → Nat) (nr : Nat) (Z : ZT) (sc : Nat) : Int64 := lp (g4 Z) (zcnt (zF Z) 256) (lp (g3 q) nr (lp (g2 T) 12 (lp (e1 T nr Z sc) 7 3)))
theorem tlA_Z {q : Nat → Nat} {nr : Nat} {T : Nat → Bool} {Z : ZT} (h : okZ Z q nr T) (sc : Nat) : tlA T q nr Z sc = tlA T q nr (fn0 q nr T) sc := by
  unfold tlA
  have x1 : ∀ y, lp (e1 T nr Z sc) 7 y = lp (e1 T nr (fn0 q nr T) sc) 7 y := lp_congr 7 (fun w _ y => by unfold e1; rw [cnA_Z h])
  have x4 : ∀ m y, lp (g4 Z) m y = lp (g4 (fn0 q nr T)) m y := fun m => lp_congr m (fun k _ y => by unfold g4; rw [fdA_Z h, fdA_Z h, fdA_Z h])
  rw [x4, x1, okZ_F h]
theorem okZ_2 {q : Nat → Nat} {nr : Nat} {T : Nat → Bool} {Z Z' : ZT} (h : okZ Z q nr T) (h' : okZ Z' q nr T) (sc : Nat) : tlA T q nr Z sc = tlA T q nr Z' sc := (tlA_Z h sc).trans (tlA_Z h' sc).symm
/-! instances -/
theorem hb_sh : ∀ k, k < 16 → ((nI k &&& 31).toBitVec.smod 32).toNat = k := by decide +kernel
theorem hb_bit {M k : Nat} (hM : M < 2 ^ 16) (hk : k < 16) : (nI M >>> (nI k &&& 31)) &&& nI 1 = nI (if M.testBit k = true then 1 else 0) := by
  rw [pk_shrN (by omega) _ k (hb_sh k hk), pk_andNw (m := nI 1) 1 (by decide +kernel)]
  rw [Nat.testBit_eq_decide_div_mod_eq]
  congr 1
  have : M / 2 ^ k % 2 ^ 1 = 0 ∨ M / 2 ^ k % 2 ^ 1 = 1 := by omega
  by_cases z : M / 2 ^ k % 2 = 1
  · rw [decide_eq_true z, if_pos rfl]; omega
  · rw [decide_eq_false z, if_neg (by decide)]; omega
theorem hb_all {S : Nat → Bool} (p : Nat) : zcnt (fun i => (imp S p 38).testBit i) 32 = zcnt (fun i => (imp S p 38).testBit i) 16 := by
  rw [show 32 = 16 + 16 from rfl, zcnt_split]
  have z2 : zcnt (fun k => (imp S p 38).testBit (16 + k)) 16 = 0 := zcnt_zero.mpr (fun k hk => Nat.testBit_lt_two_pow (Nat.lt_of_lt_of_le (imp_lt S p 38 (by omega)) (Nat.pow_le_pow_right (by decide) (by omega))))
  omega
theorem hb_37 : iM 37 = 65535 ∧ iM 36 = 33825 := by decide +kernel
theorem hb_xy {S : Nat → Bool} (p : Nat) : iM (64 * p + 37) &&& imp S ((64 * p + 37) / 64) 38 = imp S p 38 := by
  rw [iM_m p 37 (by decide), hb_37.1, show (64 * p + 37) / 64 = p by omega]
  apply znat_ext
  intro i
  rw [Nat.testBit_and]
  by_cases h : i < 16
  · rw [show (65535 : Nat) = 2 ^ 16 - 1 from rfl, Nat.testBit_two_pow_sub_one, decide_eq_true h, Bool.true_and]
  · rw [Nat.testBit_lt_two_pow (x := imp S p 38) (Nat.lt_of_lt_of_le (imp_lt S p 38 (by omega)) (Nat.pow_le_pow_right (by decide) (by omega))), Bool.and_false]
theorem hb_xx {S : Nat → Bool} (p : Nat) : iM (64 * p + 36) &&& imp S ((64 * p + 36) / 64) 38 = 33825 &&& imp S p 38 := by
  rw [iM_m p 36 (by decide), hb_37.2, show (64 * p + 36) / 64 = p by omega]
theorem hb_in {M : Nat} : nI (33825 &&& M) &&& ((nI M &&& 33825) ^^^ -1) = 0 := by
  have e : nI M &&& 33825 = nI (33825 &&& M) := (nI_andw M 33825).trans (congrArg nI (Nat.and_comm M 33825))
  rw [e]
  generalize nI (33825 &&& M) = x
  apply Int32.toBitVec_inj.mp
  show x.toBitVec &&& (x.toBitVec ^^^ BitVec.allOnes 32) = 0#32
  apply BitVec.eq_of_getLsbD_eq
  intro i hi
  rw [BitVec.getLsbD_and, BitVec.getLsbD_xor, BitVec.getLsbD_allOnes]
  simp [hi]
theorem hb_fl {F : Nat → Bool} {a : Nat} : (flA F a = 0 ↔ foll F a = false) ∧ flA F a ≤ 2 := by
  unfold flA
  by_cases h : F a = true
  · have : foll F a = true := foll_iff.mpr (Or.inl h)
    rw [if_pos h, this]
    exact ⟨⟨fun z => absurd z (by decide), fun z => absurd z (by decide)⟩, Nat.le_refl _⟩
  · rw [if_neg h]
    cases z : foll F a with
    | true => exact ⟨⟨fun z => absurd z (by decide), fun z => absurd z (by decide)⟩, by decide⟩
    | false => exact ⟨⟨fun _ => rfl, fun _ => rfl⟩, by decide⟩
theorem hb_full {S : Nat → Bool} (hS : okF S) {p : Nat} (h : foll S (64 * p + 37) = true) : imp S p 38 = 65535 := by
  apply znat_ext
  intro i
  by_cases hi : i < 16
  · rw [imp_foll hS p hi, show (65535 : Nat) = 2 ^ 16 - 1 from rfl, Nat.testBit_two_pow_sub_one, decide_eq_true hi]
    have hf : isF (64 * p + (8 * (i / 4) + i % 4)) = true := by
      unfold isF
      simp only [decide_eq_true_eq]
      omega
    refine (foll_gr hS hf).mpr ?_
    have g := gr_of h (a := i / 4) (b := i % 4) (by
      rw [show (64 * p + 37) % 64 = 37 by omega]
      refine ins_iff.mpr ⟨Or.inl (by decide), Or.inl (by decide), Or.inl (by decide)⟩)
    rw [show (64 * p + 37) / 64 = p by omega] at g
    rw [show (64 * p + (8 * (i / 4) + i % 4)) / 64 = p by omega, show (64 * p + (8 * (i / 4) + i % 4)) / 8 % 8 = i / 4 by omega, show (64 * p + (8 * (i / 4) + i % 4)) % 8 = i % 4 by omega]
    exact g
  · rw [Nat.testBit_lt_two_pow (x := imp S p 38) (Nat.lt_of_lt_of_le (imp_lt S p 38 (by omega)) (Nat.pow_le_pow_right (by decide) (by omega))), show (65535 : Nat) = 2 ^ 16 - 1 from rfl, Nat.testBit_two_pow_sub_one, decide_eq_false hi]
/-! sizes behind the rounds -/
theorem srch_ss {q : Nat → Nat} {nr : Nat} (n : Nat) : ∀ {Z : ZT}, zSz Z (zRd Z) = nI (zcnt (zF Z) 256) → zSz (srch q nr n Z) (zRd (srch q nr n Z)) = nI (zcnt (zF (srch q nr n Z)) 256) := by
  induction n with
  | zero => exact fun h => h
  | succ n ih =>
    intro Z h
    by_cases z : zcnt (rX q nr (zF Z) (zMt Z)).2.1 256 = 0
    · rw [srch_t z]
      exact h
    · rw [srch_f z]
      refine ih ?_
      show upd (zSz Z) (zRd Z + 1) (nI (zcnt (drp (nx2 q nr Z)) 256)) (zRd Z + 1) = nI (zcnt (drp (nx2 q nr Z)) 256)
      unfold upd
      rw [if_pos rfl]
theorem srch_s0 {q : Nat → Nat} {nr : Nat} (n : Nat) : ∀ {Z : ZT}, zSz (srch q nr n Z) 0 = zSz Z 0 := by
  induction n with
  | zero => exact rfl
  | succ n ih =>
    intro Z
    by_cases z : zcnt (rX q nr (zF Z) (zMt Z)).2.1 256 = 0
    · rw [srch_t z]
      rfl
    · rw [srch_f z, ih]
      show upd (zSz Z) (zRd Z + 1) (nI (zcnt (drp (nx2 q nr Z)) 256)) 0 = zSz Z 0
      unfold upd
      rw [if_neg (by omega)]
theorem srch_dr {q : Nat → Nat} {nr : Nat} (m : Nat) (n : Nat) : ∀ {Z : ZT}, m ≤ zcnt (zF Z) 256 + zDr Z → m ≤ zcnt (zF (srch q nr n Z)) 256 + zDr (srch q nr n Z) := by
  induction n with
  | zero => exact fun h => h
  | succ n ih =>
    intro Z h
    by_cases z : zcnt (rX q nr (zF Z) (zMt Z)).2.1 256 = 0
    · rw [srch_t z]
      exact h
    · rw [srch_f z]
      refine ih ?_
      show m ≤ zcnt (drp (nx2 q nr Z)) 256 + (zDr Z + (zcnt (nx2 q nr Z) 256 - zcnt (drp (nx2 q nr Z)) 256))
      have h1 : zcnt (zF Z) 256 ≤ zcnt (nx2 q nr Z) 256 := zcnt_sub (fun k _ hk => by
        show (zF Z k || _) = true
        rw [hk]; rfl)
      omega
theorem srch_dB {q : Nat → Nat} {nr : Nat} (n : Nat) : ∀ {Z : ZT}, zDr (srch q nr n Z) ≤ zDr Z + 256 * n := by
  induction n with
  | zero => intro Z; exact Nat.le_refl _
  | succ n ih =>
    intro Z
    by_cases z : zcnt (rX q nr (zF Z) (zMt Z)).2.1 256 = 0
    · rw [srch_t z]
      show zDr Z ≤ _
      omega
    · rw [srch_f z]
      refine Nat.le_trans ih ?_
      show zDr Z + (zcnt (nx2 q nr Z) 256 - zcnt (drp (nx2 q nr Z)) 256) + 256 * n ≤ _
      have := zcnt_le (nx2 q nr Z) 256
      omega
section HBZ
variable {q : Nat → Nat} {nr : Nat} {T : Nat → Bool} {Z : ZT}
theorem hb_last (h : okZ Z q nr T) : zSz Z (min (zRd Z) (zRd Z)) = nI (zcnt (zF Z) 256) := by
  rw [Nat.min_self, okZ_sz h _ (Nat.le_refl _), okZ_rd h, okZ_F h]
  refine srch_ss 104 (Z := z0 T (fun _ => 0)) ?_
  show upd (fun _ => 0) 0 (nI (zcnt (drp T) 256)) 0 = _
  unfold upd
  rw [if_pos rfl]
  rfl
theorem hb_first (h : okZ Z q nr T) : zSz Z (min 0 (zRd Z)) = nI (zcnt (drp T) 256) := by
  rw [Nat.zero_min, okZ_sz h _ (Nat.zero_le _)]
  refine (srch_s0 104 (Z := z0 T (fun _ => 0))).trans ?_
  show upd (fun _ => 0) 0 (nI (zcnt (drp T) 256)) 0 = _
  unfold upd
  rw [if_pos rfl]
theorem drp_cnt (T : Nat → Bool) : zcnt (drp T) 256 ≤ zcnt T 256 := zcnt_sub (fun k _ hk => by
  unfold drp at hk
  rw [Bool.and_eq_true] at hk
  exact hk.1)
theorem hb_drop (h : okZ Z q nr T) : zcnt T 256 ≤ zcnt (zF Z) 256 + zDr Z ∧ zDr Z < 2 ^ 20 := by
  rw [okZ_F h, okZ_dr h]
  have h1 := zcnt_le T 256
  have h2 := drp_cnt T
  constructor
  · refine srch_dr (zcnt T 256) 104 (Z := z0 T (fun _ => 0)) ?_
    show zcnt T 256 ≤ zcnt (drp T) 256 + (zcnt T 256 - zcnt (drp T) 256)
    omega
  · refine Nat.lt_of_le_of_lt (srch_dB 104 (Z := z0 T (fun _ => 0))) ?_
    show zcnt T 256 - zcnt (drp T) 256 + 256 * 104 < 2 ^ 20
    omega
/-- where nothing is told nothing is found; where a fact is told it says something of constants -/
theorem hb_none (hq : okQ q nr) (hT : okF T) (h0 : insU T 4 = 0) : insU (zF (fn0 q nr T)) 4 = 0 := by
  have hno : ∀ a, T a = false := by
    intro a
    refine Bool.eq_false_iff.mpr (fun ha => ?_)
    obtain ⟨hf, hlt⟩ := hT a ha
    have ht := isF_t hf
    have hg : gr T (a / 64) (if a / 8 % 8 < 4 then a / 8 % 8 else 0) (if a % 8 < 4 then a % 8 else 0) := by
      refine gr_of (foll_iff.mpr (Or.inl ha)) (ins_iff.mpr ?_)
      rw [show a % 64 / 8 % 8 = a / 8 % 8 by omega, show a % 64 % 8 = a % 8 by omega, Nat.mod_mod]
      refine ⟨?_, ?_, ?_⟩
      · split <;> omega
      · split <;> omega
      · by_cases z : a % 64 = 36
        · refine Or.inr ?_
          rw [if_neg (by omega), if_neg (by omega)]
        · exact Or.inl z
    have hx : (if a / 8 % 8 < 4 then a / 8 % 8 else 0) < 4 := by split <;> omega
    have hy : (if a % 8 < 4 then a % 8 else 0) < 4 := by split <;> omega
    generalize (if a / 8 % 8 < 4 then a / 8 % 8 else 0) = x at hg hx
    generalize (if a % 8 < 4 then a % 8 else 0) = y at hg hy
    have hfi : isF (64 * (a / 64) + (8 * x + y)) = true := by
      unfold isF
      simp only [decide_eq_true_eq]
      omega
    have hfo : foll T (64 * (a / 64) + (8 * x + y)) = true := by
      refine (foll_gr hT hfi).mpr ?_
      rw [show (64 * (a / 64) + (8 * x + y)) / 64 = a / 64 by omega, show (64 * (a / 64) + (8 * x + y)) / 8 % 8 = x by omega, show (64 * (a / 64) + (8 * x + y)) % 8 = y by omega]
      exact hg
    rw [← alI_ins hT] at h0
    have := zcnt_zero.mp h0 (64 * (a / 64) + (8 * x + y)) (by omega)
    unfold alI at this
    rw [hfo, decide_eq_true (show (64 * (a / 64) + (8 * x + y)) / 8 % 8 < 4 by omega), decide_eq_true (show (64 * (a / 64) + (8 * x + y)) % 8 < 4 by omega)] at this
    exact absurd this (by decide)
  have hF : okF (zF (fn0 q nr T)) := (fnd_ok hq hT (fun _ => 0)).1
  have hl := fnd_least hq hT (sz := fun _ => 0) (C := fun _ _ _ => False) (fun i hi th hth b1 b2 => b1) (fun p a b g => by
    obtain ⟨w, hw, h1, h2⟩ := g
    rw [hno] at h1
    cases h1)
  rw [← alI_ins hF]
  refine zcnt_zero.mpr (fun k hk => Bool.eq_false_iff.mpr (fun z => ?_))
  unfold alI at z
  rw [Bool.and_eq_true, Bool.and_eq_true] at z
  obtain ⟨z1, z2, z3⟩ := z
  have z1 := of_decide_eq_true z1
  have z2 := of_decide_eq_true z2
  exact hl _ _ _ ((foll_gr hF (by unfold isF; simp only [decide_eq_true_eq]; omega)).mp z3)
theorem hb_some (hq : okQ q nr) (hT : okF T) (h : okZ Z q nr T) : insU T 4 ≤ insU (zF Z) 4 ∧ (insU (zF Z) 4 ≠ 0 → 0 < insU T 4) := by
  rw [okZ_F h]
  refine ⟨insU_fnd hq hT _, fun z => Nat.pos_of_ne_zero (fun k => z (hb_none hq hT k))⟩
end HBZ
/-! shares -/
def bQ (x : UInt64) : Bool := decide (¬ Op.cmpValue (FP.dcmp x 0) .l < 0) && decide (¬ 0 ≤ Op.cmpValue (FP.dcmp x 0x3ff0000000000000) .g)
theorem bQ_all : ∀ A, A < 65 → A = 0 ∨ ∀ n, n < A → bQ (bA A n) = true := by decide +kernel
theorem bQ_0 : bQ 0 = true ∧ Op.cmpValue (FP.dcmp 0 0) .l = 0 := by decide +kernel
theorem hb_share {Z : ZT} {T : Nat → Bool} (h : insU (zF Z) 4 ≠ 0 → 0 < insU T 4) : bQ (brA Z T) = true ∧ (insU (zF Z) 4 = 0 → Op.cmpValue (FP.dcmp (brA Z T) 0) .l = 0) := by
  unfold brA
  by_cases z : insU (zF Z) 4 = 0
  · rw [if_pos z]
    exact ⟨bQ_0.1, fun _ => bQ_0.2⟩
  · rw [if_neg z]
    have h1 := insU_64 (zF Z) 4
    have h2 := h z
    exact ⟨(bQ_all _ (by omega)).resolve_left z _ (by omega), fun k => absurd k z⟩
theorem bQ_1 {x : UInt64} (h : bQ x = true) : ¬ Op.cmpValue (FP.dcmp x 0) .l < 0 ∧ ¬ 0 ≤ Op.cmpValue (FP.dcmp x 0x3ff0000000000000) .g := by
  unfold bQ at h
  rw [Bool.and_eq_true] at h
  exact ⟨of_decide_eq_true h.1, of_decide_eq_true h.2⟩
theorem isF_k {p k : Nat} (hp : p < 4) (hk : k < 16) : isF (64 * p + (8 * (k / 4) + k % 4)) = true := by
  unfold isF
  simp only [decide_eq_true_eq]
  omega
theorem nth_ex {S : Nat → Bool} {k n : Nat} (h : k < zcnt S n) : ∃ a, nth S k n = some a := by
  induction n with
  | zero => exact absurd h (Nat.not_lt_zero _)
  | succ n ih =>
    by_cases z : k < zcnt S n
    · obtain ⟨a, ha⟩ := ih z
      exact ⟨a, nth_le ha 1⟩
    · rw [zcnt_1] at h
      rcases hn : nth S k n with _ | a
      · rw [nth_s hn]
        by_cases hs : S n = true
        · rw [if_pos hs] at h
          refine ⟨n, ?_⟩
          rw [hs, show zcnt S n = k by omega]
          simp
        · rw [if_neg hs] at h
          omega
      · exact ⟨a, nth_le hn 1⟩
theorem nI_nz {n : Nat} (h0 : 0 < n) (hn : n < 2 ^ 31) : ¬ nI n = 0 := by
  intro h
  have h2 : nI n ≤ nI 0 := by rw [h]; decide
  exact nI_ge h0 hn h2
