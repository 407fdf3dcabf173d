/-! the reference's rounds are the class's -/
theorem rusB_256 {F G : Nat → Bool} {q : Nat → Nat} {X : XT} (n : Nat) (hn : n ≤ 6) : rusB F G q 256 n X = rus F G q n X := by
  induction n with
  | zero => rfl
  | succ n ih => rw [rusB, if_neg (by omega), rus, ih (by omega)]
theorem rXB_256 {q : Nat → Nat} {nr : Nat} (h : nr ≤ 6) (F : Nat → Bool) (mt : Nat) : rXB q nr 256 F mt = rX q nr F mt := rusB_256 nr h
theorem srchB_256 {q : Nat → Nat} {nr : Nat} (h : nr ≤ 6) (n : Nat) : ∀ Z, srchB q nr 256 n Z = srch q nr n Z := by
  induction n with
  | zero => intro Z; rfl
  | succ n ih =>
    intro Z
    by_cases z : zcnt (rX q nr (zF Z) (zMt Z)).2.1 256 = 0
    · rw [srch_t z, srchB_t (by rw [rXB_256 h]; exact z)]
      unfold finB fin
      rw [rXB_256 h]
    · rw [srch_f z, srchB_f (by rw [rXB_256 h]; exact z), ih]
      congr 1
      unfold nxtB nxt nx2B nx2
      rw [rXB_256 h]
theorem fndB_256 {q : Nat → Nat} {nr : Nat} (h : nr ≤ 6) (T : Nat → Bool) (sz : Nat → Int32) : fndB q nr 256 T sz = fnd q nr T sz := srchB_256 h 104 _
theorem fnd_ok {q : Nat → Nat} {nr : Nat} (hq : okQ q nr) {T : Nat → Bool} (hT : okF T) (sz : Nat → Int32) : okF (zF (fnd q nr T sz)) ∧ zRd (fnd q nr T sz) ≤ 103 ∧ ∀ a, foll T a = true → foll (zF (fnd q nr T sz)) a = true := by
  rw [← fndB_256 hq.1]
  exact fndB_ok hq hT sz
theorem srch_sz {q : Nat → Nat} {nr : Nat} (n : Nat) : ∀ {Z Z' : ZT}, cz Z = cz Z' → (∀ r, r ≤ zRd Z → zSz Z r = zSz Z' r) → ∀ r, r ≤ zRd (srch q nr n Z) → zSz (srch q nr n Z) r = zSz (srch q nr n Z') r := by
  induction n with
  | zero => intro Z Z' _ h; exact h
  | succ n ih =>
    intro Z Z' h hs
    obtain ⟨F, rd, mt, dr, ro, ru, sz⟩ := Z
    obtain ⟨F', rd', mt', dr', ro', ru', sz'⟩ := Z'
    simp only [cz, Prod.mk.injEq] at h
    obtain ⟨rfl, rfl, rfl, rfl, rfl, rfl⟩ := h
    by_cases z : zcnt (rX q nr (zF (F, rd, mt, dr, ro, ru, sz)) (zMt (F, rd, mt, dr, ro, ru, sz))).2.1 256 = 0
    · rw [srch_t z, srch_t (Z := (F, rd, mt, dr, ro, ru, sz')) z]
      exact hs
    · rw [srch_f z, srch_f (Z := (F, rd, mt, dr, ro, ru, sz')) z]
      refine ih rfl (fun r hr => ?_)
      have hr2 : r ≤ rd + 1 := hr
      have hs2 : ∀ r, r ≤ rd → sz r = sz' r := hs
      show upd sz (rd + 1) _ r = upd sz' (rd + 1) _ r
      unfold upd
      by_cases e : r = rd + 1
      · rw [if_pos e, if_pos e]
        rfl
      · rw [if_neg e, if_neg e]
        exact hs2 r (by omega)
theorem fnd_szr {q : Nat → Nat} {nr : Nat} {T : Nat → Bool} (sz : Nat → Int32) {r : Nat} (h : r ≤ zRd (fnd q nr T sz)) : zSz (fnd q nr T sz) r = zSz (fn0 q nr T) r := by
  refine srch_sz 104 (Z := z0 T sz) (Z' := z0 T (fun _ => 0)) rfl (fun r hr => ?_) r h
  have hr2 : r ≤ 0 := hr
  have : r = 0 := by omega
  subst this
  show upd sz 0 (nI (zcnt (drp T) 256)) 0 = upd (fun _ => 0) 0 (nI (zcnt (drp T) 256)) 0
  unfold upd
  rw [if_pos rfl, if_pos rfl]
theorem stp_U {G : Nat → Bool} {lk : Option (Nat → Nat)} {h k k2 : Nat} {X Y : XT} (e : X.2.1 = Y.2.1) : (stp G lk h k X).2.1 = (stp G lk h k2 Y).2.1 := by
  cases lk with
  | none => exact e
  | some L =>
    by_cases h1 : G (rs L h) = true
    · simp only [stp, h1, if_true]; exact e
    · by_cases h2 : Y.2.1 (rs L h) = true
      · have h3 : X.2.1 (rs L h) = true := by rw [e]; exact h2
        simp only [stp, h1, h2, h3, if_true, if_false]; exact e
      · have h3 : ¬ X.2.1 (rs L h) = true := by rw [e]; exact h2
        simp only [stp, h1, h2, h3, if_false]
        exact congrArg (fun S => zPut S (rs L h)) e
theorem in2_U {F G : Nat → Bool} {L : Nat → Nat} {o h k k2 : Nat} {X Y : XT} (e : X.2.1 = Y.2.1) (n : Nat) : (in2 F G L o h k n X).2.1 = (in2 F G L o h k2 n Y).2.1 := by
  induction n with
  | zero => exact e
  | succ n ih =>
    rw [in2, in2]
    split
    · exact stp_U ih
    · exact ih
theorem pl_U {F G : Nat → Bool} {one o h k k2 : Nat} {X Y : XT} (e : X.2.1 = Y.2.1) (n : Nat) : (pl F G one o h k n X).2.1 = (pl F G one o h k2 n Y).2.1 := by
  induction n with
  | zero => exact e
  | succ n ih =>
    rw [pl, pl]
    split
    · split
      · exact ih
      · split
        · exact stp_U ih
        · exact in2_U ih 38
    · exact ih
theorem dRi_lo {q : Nat → Nat} {r j : Nat} (h : j < 3 * r) : dRi q r 15 j = q j := by unfold dRi; rw [if_neg (by omega)]
theorem dRi_hi {q : Nat → Nat} {r j : Nat} (h : 3 * r ≤ j) (h2 : j < 15) : dRi q r 15 j = q (j + 3) := by unfold dRi; rw [if_pos (by omega)]
theorem rusB_lo {F G : Nat → Bool} {q : Nat → Nat} {b : Nat} {X Y : XT} (e : X.2.1 = Y.2.1) (n : Nat) (hn : n ≤ b) : (rusB F G q b n X).2.1 = (rus F G (dRi q b 15) n Y).2.1 := by
  induction n with
  | zero => exact e
  | succ n ih =>
    rw [rusB, if_neg (by omega), rus, dRi_lo (by omega), dRi_lo (by omega), dRi_lo (by omega)]
    exact pl_U (ih (by omega)) 38
theorem rusB_hi {F G : Nat → Bool} {q : Nat → Nat} {b : Nat} {X Y : XT} (e : X.2.1 = Y.2.1) (m : Nat) (hm : b + m ≤ 5) : (rusB F G q b (b + m + 1) X).2.1 = (rus F G (dRi q b 15) (b + m) Y).2.1 := by
  induction m with
  | zero =>
    rw [rusB, if_pos (by omega)]
    exact rusB_lo e b (Nat.le_refl _)
  | succ m ih =>
    rw [rusB, if_neg (by omega), show b + (m + 1) = (b + m) + 1 from rfl, rus, dRi_hi (by omega) (by omega), dRi_hi (by omega) (by omega), dRi_hi (by omega) (by omega), show 3 * (b + m) + 1 + 3 = 3 * (b + m + 1) + 1 by omega, show 3 * (b + m) + 2 + 3 = 3 * (b + m + 1) + 2 by omega, show 3 * (b + m) + 3 = 3 * (b + m + 1) by omega]
    exact pl_U (ih (by omega)) 38
theorem rX_skip {q : Nat → Nat} {nr b : Nat} (hb : b < nr) (h6 : nr ≤ 6) (F : Nat → Bool) (mt mt2 : Nat) : (rXB q nr b F mt).2.1 = (rX (dRi q b 15) (nr - 1) F mt2).2.1 := by
  obtain ⟨m, rfl⟩ : ∃ m, nr = b + m + 1 := ⟨nr - 1 - b, by omega⟩
  exact rusB_hi (X := (mt, zNo, fun _ => 0)) (Y := (mt2, zNo, fun _ => 0)) rfl m (by omega)
theorem srch_skip {q : Nat → Nat} {nr b : Nat} (hb : b < nr) (h6 : nr ≤ 6) (n : Nat) : ∀ {Z Z' : ZT}, zF Z = zF Z' → zRd Z = zRd Z' → zF (srchB q nr b n Z) = zF (srch (dRi q b 15) (nr - 1) n Z') ∧ zRd (srchB q nr b n Z) = zRd (srch (dRi q b 15) (nr - 1) n Z') := by
  induction n with
  | zero => exact fun h1 h2 => ⟨h1, h2⟩
  | succ n ih =>
    intro Z Z' h1 h2
    have e : (rXB q nr b (zF Z) (zMt Z)).2.1 = (rX (dRi q b 15) (nr - 1) (zF Z') (zMt Z')).2.1 := by rw [← h1]; exact rX_skip hb h6 _ _ _
    by_cases z : zcnt (rX (dRi q b 15) (nr - 1) (zF Z') (zMt Z')).2.1 256 = 0
    · rw [srch_t z, srchB_t (by rw [e]; exact z)]
      exact ⟨h1, h2⟩
    · rw [srch_f z, srchB_f (by rw [e]; exact z)]
      refine ih ?_ ?_
      · show drp (zOr (zF Z) _) = drp (zOr (zF Z') _)
        rw [e, h1]
      · show zRd Z + 1 = zRd Z' + 1
        rw [h2]
theorem fnd_skip {q : Nat → Nat} {nr b : Nat} (hb : b < nr) (h6 : nr ≤ 6) (T : Nat → Bool) (sz : Nat → Int32) : zF (fndB q nr b T sz) = zF (fn0 (dRi q b 15) (nr - 1) T) ∧ zRd (fndB q nr b T sz) = zRd (fn0 (dRi q b 15) (nr - 1) T) := srch_skip hb h6 104 rfl rfl
/-! instances -/
theorem iM_t : ∀ w, w < 38 → isF w = true → ∀ k, k < 16 → (iM w).testBit k = (decide (w = 8 * (k / 4) + k % 4) || sp w (8 * (k / 4) + k % 4)) := by decide +kernel
theorem imp_t (S : Nat → Bool) (p n k : Nat) : (imp S p n).testBit k = zany (fun w => S (64 * p + w) && (iM w).testBit k) n := by
  induction n with
  | zero => exact Nat.zero_testBit k
  | succ n ih =>
    rw [imp, zany]
    by_cases h : S (64 * p + n) = true
    · rw [if_pos h, Nat.testBit_or, ih, h, Bool.true_and]
    · rw [if_neg h, ih, Bool.eq_false_iff.mpr h, Bool.false_and, Bool.or_false]
theorem imp_foll {S : Nat → Bool} (hS : okF S) (p : Nat) {k : Nat} (hk : k < 16) : (imp S p 38).testBit k = foll S (64 * p + (8 * (k / 4) + k % 4)) := by
  have hc : 8 * (k / 4) + k % 4 < 64 := by omega
  rw [imp_t, Bool.eq_iff_iff, zany_iff, foll_iff]
  have e1 : (64 * p + (8 * (k / 4) + k % 4)) / 64 = p := by omega
  have e2 : (64 * p + (8 * (k / 4) + k % 4)) % 64 = 8 * (k / 4) + k % 4 := by omega
  constructor
  · rintro ⟨w, hw, h⟩
    rw [Bool.and_eq_true] at h
    have hf := (hS _ h.1).1
    rw [isF_m p w (by omega)] at hf
    have h2 := h.2
    rw [iM_t w hw hf k hk, Bool.or_eq_true] at h2
    rcases h2 with z | z
    · rw [← of_decide_eq_true z]
      exact Or.inl h.1
    · exact Or.inr (wk_iff.mpr ⟨w, by omega, by rw [e1]; exact h.1, by rw [e2]; exact z⟩)
  · intro h
    rcases h with z | z
    · refine ⟨8 * (k / 4) + k % 4, by omega, ?_⟩
      have hf := (hS _ z).1
      rw [isF_m p _ hc] at hf
      rw [z, iM_t _ (by omega) hf k hk, decide_eq_true rfl]; rfl
    · obtain ⟨o, ho, h1, h2⟩ := wk_iff.mp z
      rw [e1] at h1
      rw [e2] at h2
      have hf := (hS _ h1).1
      have h38 : o < 38 := Nat.lt_of_not_le (fun q => by have := F38 hS (p := p) q ho; rw [this] at h1; cases h1)
      rw [isF_m p o ho] at hf
      refine ⟨o, h38, ?_⟩
      rw [h1, iM_t o h38 hf k hk, h2, Bool.or_true]; rfl
theorem alI_blk {S : Nat → Bool} (hS : okF S) (p : Nat) : zcnt (fun i => alI S (64 * p + i)) 64 = zcnt (fun k => (imp S p 38).testBit k) 32 := by
  have key : ∀ n, n ≤ 4 → zcnt (fun i => alI S (64 * p + i)) (8 * n) = zcnt (fun k => (imp S p 38).testBit k) (4 * n) := by
    intro n
    induction n with
    | zero => intro _; rfl
    | succ n ih =>
      intro hn
      rw [show 8 * (n + 1) = 8 * n + (4 + 4) by omega, show 4 * (n + 1) = 4 * n + 4 by omega, zcnt_split, zcnt_split _ (4 * n), ih (by omega), zcnt_split _ 4 4]
      have z1 : zcnt (fun k => alI S (64 * p + (8 * n + (4 + k)))) 4 = 0 := zcnt_zero.mpr (fun k hk => by
        unfold alI
        rw [decide_eq_false (show ¬ (64 * p + (8 * n + (4 + k))) % 8 < 4 by omega)]
        rw [Bool.false_and, Bool.and_false])
      rw [z1, Nat.add_zero]
      congr 1
      refine zcnt_congr (fun k hk => ?_)
      rw [imp_foll hS p (by omega), show (4 * n + k) / 4 = n by omega, show (4 * n + k) % 4 = k by omega]
      unfold alI
      rw [decide_eq_true (show (64 * p + (8 * n + k)) / 8 % 8 < 4 by omega), decide_eq_true (show (64 * p + (8 * n + k)) % 8 < 4 by omega)]
      rfl
  have k4 : zcnt (fun i => alI S (64 * p + i)) 32 = zcnt (fun k => (imp S p 38).testBit k) 16 := key 4 (Nat.le_refl _)
  have e1 : zcnt (fun i => alI S (64 * p + i)) 64 = zcnt (fun i => alI S (64 * p + i)) 32 + zcnt (fun k => alI S (64 * p + (32 + k))) 32 := zcnt_split _ 32 32
  have e2 : zcnt (fun k => (imp S p 38).testBit k) 32 = zcnt (fun k => (imp S p 38).testBit k) 16 + zcnt (fun k => (imp S p 38).testBit (16 + k)) 16 := zcnt_split _ 16 16
  have z1 : zcnt (fun k => alI S (64 * p + (32 + k))) 32 = 0 := zcnt_zero.mpr (fun k hk => by
    unfold alI
    rw [decide_eq_false (show ¬ (64 * p + (32 + k)) / 8 % 8 < 4 by omega)]; rfl)
  have z2 : zcnt (fun k => (imp S p 38).testBit (16 + k)) 16 = 0 := zcnt_zero.mpr (fun k hk => Nat.testBit_lt_two_pow (Nat.lt_of_lt_of_le (imp_lt S p 38 (by omega)) (Nat.pow_le_pow_right (by decide) (by omega))))
  rw [e1, e2, k4, z1, z2]
theorem alI_ins {S : Nat → Bool} (hS : okF S) : zcnt (alI S) 256 = insU S 4 := by
  have key : ∀ n, zcnt (alI S) (64 * n) = insU S n := by
    intro n
    induction n with
    | zero => rfl
    | succ n ih => rw [show 64 * (n + 1) = 64 * n + 64 by omega, zcnt_split, ih, alI_blk hS n, insU]
  exact key 4
theorem insU_mono {S R : Nat → Bool} (hS : okF S) (hR : okF R) (h : ∀ a, foll S a = true → foll R a = true) : insU S 4 ≤ insU R 4 := by
  rw [← alI_ins hS, ← alI_ins hR]
  refine zcnt_sub (fun k _ hk => ?_)
  unfold alI at hk ⊢
  rw [Bool.and_eq_true, Bool.and_eq_true] at hk ⊢
  exact ⟨hk.1, hk.2.1, h k hk.2.2⟩
theorem insU_fnd {q : Nat → Nat} {nr : Nat} (hq : okQ q nr) {T : Nat → Bool} (hT : okF T) (sz : Nat → Int32) : insU T 4 ≤ insU (zF (fnd q nr T sz)) 4 := by
  obtain ⟨h1, _, h3⟩ := fnd_ok hq hT sz
  exact insU_mono hT h1 h3
theorem iB_C : ∀ a, a < 256 → isF a = true → iB a = iC a := by decide +kernel
/-- the reference's mask -/
def mkM (F : Nat → Bool) (a n : Nat) : Nat := zmsk (fun k => isO a (a / 64 * 64 + 8 * (k / 4) + k % 4) && foll F (a / 64 * 64 + 8 * (k / 4) + k % 4)) n
theorem isO_t : ∀ w, w < 64 → isF w = true → ∀ k, k < 16 → isO w (8 * (k / 4) + k % 4) = (iM w).testBit k := by decide +kernel
theorem iM_m (p w : Nat) (hw : w < 64) : iM (64 * p + w) = iM w := by
  unfold iM
  rw [show (64 * p + w) / 8 % 8 = w / 8 % 8 by omega, show (64 * p + w) % 8 = w % 8 by omega]
theorem isO_m (p o w : Nat) (ho : o < 64) (hw : w < 64) : isO (64 * p + o) (64 * p + w) = isO o w := by
  unfold isO
  rw [spF_m p o w ho hw, show decide (64 * p + o = 64 * p + w) = decide (o = w) from decide_eq_decide.mpr (by omega)]
theorem iM_lt3 {a : Nat} : iM a < 2 ^ 16 := by
  have h := iM_lt (a % 64) (by omega)
  rw [← iM_m (a / 64) (a % 64) (by omega), show 64 * (a / 64) + a % 64 = a by omega] at h
  exact h
theorem isO_t_aux (p w : Nat) (hf : isF w = true) (hw : w < 64) {k : Nat} (hk : k < 16) : isO (64 * p + w) (64 * p + (8 * (k / 4) + k % 4)) = (iM (64 * p + w)).testBit k := by
  rw [isO_m p w _ hw (by omega), iM_m p w hw]
  exact isO_t w hw hf k hk
theorem mkM_ok {F : Nat → Bool} (hF : okF F) {a : Nat} (ha : a < 256) (hf : isF a = true) : mkM F a 16 = iM a &&& imp F (a / 64) 38 := by
  apply znat_ext
  intro i
  unfold mkM
  rw [zmsk_tb, Nat.testBit_and]
  have e2 : 64 * (a / 64) + a % 64 = a := by omega
  by_cases h : i < 16
  · rw [decide_eq_true h, Bool.true_and, imp_foll hF _ h, show a / 64 * 64 + 8 * (i / 4) + i % 4 = 64 * (a / 64) + (8 * (i / 4) + i % 4) by omega]
    congr 1
    have hw : isF (a % 64) = true := by rw [← isF_m (a / 64) (a % 64) (by omega), e2]; exact hf
    have := isO_t_aux (a / 64) (a % 64) hw (by omega) h
    rw [e2] at this
    exact this
  · rw [decide_eq_false h, Bool.false_and, Nat.testBit_lt_two_pow (x := iM a) (Nat.lt_of_lt_of_le iM_lt3 (Nat.pow_le_pow_right (by decide) (by omega))), Bool.false_and]
