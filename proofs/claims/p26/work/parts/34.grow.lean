/-! the rounds grow: each that counts lets one fact more follow (whole's part 48, over the class's own rounds) -/
theorem zcnt_1 (p : Nat → Bool) (n : Nat) : zcnt p (n + 1) = zcnt p n + (if p n then 1 else 0) := rfl
theorem isF_m (p o : Nat) (ho : o < 64) : isF (64 * p + o) = isF o := by
  unfold isF
  rw [show (64 * p + o) / 8 % 8 = o / 8 % 8 by omega, show (64 * p + o) % 8 = o % 8 by omega]
theorem F38 {F : Nat → Bool} (hF : okF F) {p n : Nat} (h : 38 ≤ n) (h2 : n < 64) : F (64 * p + n) = false := by
  refine Bool.eq_false_iff.mpr (fun q => ?_)
  have := (hF _ q).1
  unfold isF at this
  simp only [decide_eq_true_eq] at this
  omega
theorem wk_iff {F : Nat → Bool} {a : Nat} : wk F a = true ↔ ∃ o, o < 64 ∧ F (64 * (a / 64) + o) = true ∧ sp o (a % 64) = true := by
  unfold wk wkp
  rw [zany_iff]
  constructor
  · rintro ⟨o, h1, h2⟩
    rw [Bool.and_eq_true] at h2
    exact ⟨o, h1, h2.1, h2.2⟩
  · rintro ⟨o, h1, h2, h3⟩
    exact ⟨o, h1, by rw [Bool.and_eq_true]; exact ⟨h2, h3⟩⟩
def spT (n : Nat) (f : Nat → Bool) : Bool := zcnt f n == n
theorem spT_of {n : Nat} {f : Nat → Bool} (h : spT n f = true) {k : Nat} (hk : k < n) : f k = true := by
  have e := eq_of_beq h
  cases z : f k with
  | true => rfl
  | false =>
    exfalso
    have := zcnt_lt (p := f) (q := fun _ => true) (fun _ _ _ => rfl) hk z rfl
    have := zcnt_le (fun _ => true) n
    omega
theorem sp_trB : spT 64 (fun w => spT 64 (fun o => !(sp o w) || spT 64 (fun o2 => !(sp o2 o) || (sp o2 w && spm o2 == 0)))) = true := by decide +kernel
theorem sp_tr (w : Nat) (hw : w < 64) (o : Nat) (ho : o < 64) (h : sp o w = true) (o2 : Nat) (ho2 : o2 < 64) (h2 : sp o2 o = true) : sp o2 w = true ∧ spm o2 = 0 := by
  have k := spT_of (spT_of sp_trB hw) ho
  rw [h, Bool.not_true, Bool.false_or] at k
  have k2 := spT_of k ho2
  simp only [h2, Bool.not_true, Bool.false_or, Bool.and_eq_true] at k2
  exact ⟨k2.1, eq_of_beq k2.2⟩
theorem sp_isF : ∀ w, w < 64 → spm w ≠ 0 → isF w = true := by decide +kernel
theorem wk_no {F : Nat → Bool} {a : Nat} (h : spm (a % 64) = 0) : wk F a = false := by
  refine Bool.eq_false_iff.mpr (fun q => ?_)
  obtain ⟨o, _, _, h3⟩ := wk_iff.mp q
  unfold sp at h3
  rw [h, Nat.zero_testBit] at h3
  cases h3
theorem wk_drp {F : Nat → Bool} {a : Nat} (h : wk F a = true) : wk (drp F) a = true := by
  obtain ⟨o, ho, hF, hs⟩ := wk_iff.mp h
  by_cases z : wk F (64 * (a / 64) + o) = true
  · obtain ⟨o2, ho2, hF2, hs2⟩ := wk_iff.mp z
    rw [show (64 * (a / 64) + o) / 64 = a / 64 by omega] at hF2
    rw [show (64 * (a / 64) + o) % 64 = o by omega] at hs2
    obtain ⟨k1, k2⟩ := sp_tr (a % 64) (by omega) o ho hs o2 ho2 hs2
    refine wk_iff.mpr ⟨o2, ho2, ?_, k1⟩
    unfold drp
    rw [hF2, wk_no (by rw [show (64 * (a / 64) + o2) % 64 = o2 by omega]; exact k2)]; rfl
  · refine wk_iff.mpr ⟨o, ho, ?_, hs⟩
    unfold drp
    rw [hF, Bool.eq_false_iff.mpr z]; rfl
theorem foll_iff {F : Nat → Bool} {a : Nat} : foll F a = true ↔ F a = true ∨ wk F a = true := by
  unfold foll
  exact Bool.or_eq_true _ _ ▸ Iff.rfl
theorem foll_mono {F G : Nat → Bool} (h : ∀ a, F a = true → G a = true) {a : Nat} (ha : foll F a = true) : foll G a = true := by
  rcases foll_iff.mp ha with q | q
  · exact foll_iff.mpr (Or.inl (h a q))
  · obtain ⟨o, ho, hF, hs⟩ := wk_iff.mp q
    exact foll_iff.mpr (Or.inr (wk_iff.mpr ⟨o, ho, h _ hF, hs⟩))
theorem foll_drp {F : Nat → Bool} {a : Nat} (h : foll F a = true) : foll (drp F) a = true := by
  by_cases z : wk F a = true
  · exact foll_iff.mpr (Or.inr (wk_drp z))
  · rcases foll_iff.mp h with q | q
    · refine foll_iff.mpr (Or.inl ?_)
      unfold drp
      rw [q, Bool.eq_false_iff.mpr z]; rfl
    · exact absurd q z
theorem foll_F {F : Nat → Bool} (hF : okF F) {a : Nat} (h : foll F a = true) (ha : a < 256) : isF a = true := by
  rcases foll_iff.mp h with q | q
  · exact (hF a q).1
  · obtain ⟨o, _, _, h3⟩ := wk_iff.mp q
    have : isF (a % 64) = true := sp_isF (a % 64) (by omega) (fun z => by unfold sp at h3; rw [z, Nat.zero_testBit] at h3; cases h3)
    rw [← isF_m (a / 64) (a % 64) (by omega), show 64 * (a / 64) + a % 64 = a by omega] at this
    exact this
theorem cnt_isF : zcnt isF 256 = 104 := by decide +kernel
theorem foll_104 {F : Nat → Bool} (hF : okF F) : zcnt (foll F) 256 ≤ 104 := by
  rw [← cnt_isF]
  exact zcnt_sub (fun k hk h => foll_F hF h hk)
def nG (G U : Nat → Bool) : Prop := ∀ a, U a = true → G a = false
theorem nG_no (G : Nat → Bool) : nG G zNo := fun a h => by cases h
theorem nG_stp {G : Nat → Bool} {lk : Option (Nat → Nat)} {h k : Nat} {X : XT} (hX : nG G X.2.1) : nG G (stp G lk h k X).2.1 := by
  cases lk with
  | none => exact hX
  | some L =>
    unfold stp
    simp only
    split
    · exact hX
    · rename_i h1
      split
      · exact hX
      · intro a ha
        simp only [zPut] at ha
        split at ha
        · rename_i e; rw [e]; exact Bool.eq_false_iff.mpr h1
        · exact hX a ha
theorem nG_in2 {F G : Nat → Bool} {L : Nat → Nat} {o h k : Nat} {X : XT} (hX : nG G X.2.1) (n : Nat) : nG G (in2 F G L o h k n X).2.1 := by
  induction n with
  | zero => exact hX
  | succ n ih =>
    rw [in2]
    split
    · exact nG_stp ih
    · exact ih
theorem nG_pl {F G : Nat → Bool} {one o h k : Nat} {X : XT} (hX : nG G X.2.1) (n : Nat) : nG G (pl F G one o h k n X).2.1 := by
  induction n with
  | zero => exact hX
  | succ n ih =>
    rw [pl]
    split
    · split
      · exact ih
      · split
        · exact nG_stp ih
        · exact nG_in2 ih 38
    · exact ih
theorem nG_rus {F G : Nat → Bool} {q : Nat → Nat} {X : XT} (hX : nG G X.2.1) (n : Nat) : nG G (rus F G q n X).2.1 := by
  induction n with
  | zero => exact hX
  | succ n ih =>
    rw [rus]
    exact nG_pl ih 38
theorem in2_no {G : Nat → Bool} {L : Nat → Nat} {o h k : Nat} {X : XT} (n : Nat) : in2 zNo G L o h k n X = X := by
  induction n with
  | zero => rfl
  | succ n ih => rw [in2, if_neg (show ¬ zNo (64 * (o / 64) + n) = true from fun z => Bool.false_ne_true z), ih]
theorem pl_no {G : Nat → Bool} {one o h k : Nat} {X : XT} (n : Nat) : pl zNo G one o h k n X = X := by
  induction n with
  | zero => rfl
  | succ n ih => rw [pl, if_neg (show ¬ zNo (64 * (one / 64) + n) = true from fun z => Bool.false_ne_true z), ih]
theorem rus_no {G : Nat → Bool} {q : Nat → Nat} {X : XT} (n : Nat) : rus zNo G q n X = X := by
  induction n with
  | zero => rfl
  | succ n ih => rw [rus, pl_no, ih]
theorem zNo_of {F : Nat → Bool} (hF : okF F) (h : zcnt F 256 = 0) : F = zNo := by
  funext a
  refine Bool.eq_false_iff.mpr (fun q => ?_)
  exact absurd ((zcnt_zero.mp h a (hF a q).2).symm.trans q) (by decide)
theorem zcnt_or {F U : Nat → Bool} (h : ∀ a, U a = true → F a = false) (n : Nat) : zcnt F n + zcnt U n = zcnt (zOr F U) n := by
  induction n with
  | zero => rfl
  | succ n ih =>
    rw [zcnt_1, zcnt_1, zcnt_1, ← ih]
    show _ = _ + (if (F n || U n) = true then 1 else 0)
    cases h1 : U n with
    | false => rw [Bool.or_false]; simp only [Bool.false_eq_true, if_false]; omega
    | true => rw [h n h1]; simp only [Bool.false_or, Bool.false_eq_true, if_true, if_false]; omega
def iZ (Z : ZT) : Prop := okF (zF Z) ∧ (zRd Z + 1 ≤ zcnt (foll (zF Z)) 256 ∨ (zcnt (zF Z) 256 = 0 ∧ zRd Z = 0))
theorem iZ_rd {Z : ZT} (h : iZ Z) : zRd Z ≤ 103 := by
  have := foll_104 h.1
  rcases h.2 with q | q <;> omega
theorem foll_cnt (F : Nat → Bool) : zcnt F 256 ≤ zcnt (foll F) 256 := zcnt_sub (fun k _ h => foll_iff.mpr (Or.inl h))
theorem iZ_0 {T : Nat → Bool} (hT : okF T) (sz : Nat → Int32) : iZ (z0 T sz) := by
  refine ⟨okF_drp hT, ?_⟩
  show 0 + 1 ≤ zcnt (foll (drp T)) 256 ∨ (zcnt (drp T) 256 = 0 ∧ 0 = 0)
  have := foll_cnt (drp T)
  omega
theorem rX_ok {q : Nat → Nat} {nr : Nat} (hq : okQ q nr) (F : Nat → Bool) (mt : Nat) : okF (rX q nr F mt).2.1 := okF_rus hq okF_no nr (Nat.le_refl _)
theorem rX_nG {q : Nat → Nat} {nr : Nat} (F : Nat → Bool) (mt : Nat) : nG (foll F) (rX q nr F mt).2.1 := nG_rus (nG_no _) nr
theorem rX_dj {q : Nat → Nat} {nr : Nat} (F : Nat → Bool) (mt : Nat) : ∀ a, (rX q nr F mt).2.1 a = true → F a = false := fun a h => by
  have := rX_nG F mt a h
  exact Bool.eq_false_iff.mpr (fun z => absurd (this.symm.trans (foll_iff.mpr (Or.inl z))) (by decide))
theorem rX_gr {q : Nat → Nat} {nr : Nat} {F : Nat → Bool} {mt : Nat} (h : ¬ zcnt (rX q nr F mt).2.1 256 = 0) : zcnt (foll F) 256 < zcnt (foll (drp (zOr F (rX q nr F mt).2.1))) 256 := by
  obtain ⟨i, hi, hu⟩ := zcnt_pos.mp (Nat.pos_of_ne_zero h)
  refine zcnt_lt (i := i) (fun k _ hk => foll_drp (foll_mono (fun a ha => ?_) hk)) hi (rX_nG F mt i hu) (foll_drp (foll_iff.mpr (Or.inl ?_)))
  · unfold zOr; rw [ha]; rfl
  · unfold zOr; rw [hu, Bool.or_true]
theorem iZ_nxt {q : Nat → Nat} {nr : Nat} (hq : okQ q nr) {Z : ZT} (hZ : iZ Z) (h : ¬ zcnt (rX q nr (zF Z) (zMt Z)).2.1 256 = 0) : iZ (nxt q nr Z) := by
  refine ⟨okF_drp (okF_or hZ.1 (rX_ok hq _ _)), Or.inl ?_⟩
  show zRd Z + 1 + 1 ≤ zcnt (foll (drp (zOr (zF Z) (rX q nr (zF Z) (zMt Z)).2.1))) 256
  have h1 := rX_gr h
  rcases hZ.2 with z | z
  · omega
  · refine absurd ?_ h
    rw [zNo_of hZ.1 z.1]
    show zcnt (rus zNo (foll zNo) q nr (zMt Z, zNo, fun _ => 0)).2.1 256 = 0
    rw [rus_no]
    exact zcnt_zero.mpr (fun _ _ => rfl)
theorem srch_ok {q : Nat → Nat} {nr : Nat} (hq : okQ q nr) (n : Nat) : ∀ {Z : ZT}, iZ Z → iZ (srch q nr n Z) ∧ ∀ a, foll (zF Z) a = true → foll (zF (srch q nr n Z)) a = true := by
  induction n with
  | zero => exact fun h => ⟨h, fun a ha => ha⟩
  | succ n ih =>
    intro Z h
    by_cases z : zcnt (rX q nr (zF Z) (zMt Z)).2.1 256 = 0
    · rw [srch_t z]
      exact ⟨h, fun a ha => ha⟩
    · rw [srch_f z]
      obtain ⟨k1, k2⟩ := ih (iZ_nxt hq h z)
      refine ⟨k1, fun a ha => k2 a (foll_drp (foll_mono (fun c hc => ?_) ha))⟩
      show (zF Z c || _) = true
      rw [hc]; rfl
theorem fnd_ok {q : Nat → Nat} {nr : Nat} (hq : okQ q nr) {T : Nat → Bool} (hT : okF T) (sz : Nat → Int32) : okF (zF (fnd q nr T sz)) ∧ zRd (fnd q nr T sz) ≤ 103 ∧ ∀ a, foll T a = true → foll (zF (fnd q nr T sz)) a = true := by
  obtain ⟨k1, k2⟩ := srch_ok hq 104 (iZ_0 hT sz)
  exact ⟨k1.1, iZ_rd k1, fun a ha => k2 a (foll_drp ha)⟩
theorem srch_sz {q : Nat → Nat} {nr : Nat} (n : Nat) : ∀ {Z Z' : ZT}, cz Z = cz Z' → (∀ r, r ≤ zRd Z → zSz Z r = zSz Z' r) → ∀ r, r ≤ zRd (srch q nr n Z) → zSz (srch q nr n Z) r = zSz (srch q nr n Z') r := by
  induction n with
  | zero => intro Z Z' _ h; exact h
  | succ n ih =>
    intro Z Z' h hs
    obtain ⟨F, rd, mt, dr, ro, ru, sz⟩ := Z
    obtain ⟨F', rd', mt', dr', ro', ru', sz'⟩ := Z'
    simp only [cz, Prod.mk.injEq] at h
    obtain ⟨rfl, rfl, rfl, rfl, rfl, rfl⟩ := h
    by_cases z : zcnt (rX q nr (zF (F, rd, mt, dr, ro, ru, sz)) (zMt (F, rd, mt, dr, ro, ru, sz))).2.1 256 = 0
    · rw [srch_t z, srch_t (Z := (F, rd, mt, dr, ro, ru, sz')) z]
      exact hs
    · rw [srch_f z, srch_f (Z := (F, rd, mt, dr, ro, ru, sz')) z]
      refine ih rfl (fun r hr => ?_)
      have hr2 : r ≤ rd + 1 := hr
      have hs2 : ∀ r, r ≤ rd → sz r = sz' r := hs
      show upd sz (rd + 1) _ r = upd sz' (rd + 1) _ r
      unfold upd
      by_cases e : r = rd + 1
      · rw [if_pos e, if_pos e]
        rfl
      · rw [if_neg e, if_neg e]
        exact hs2 r (by omega)
theorem fnd_szr {q : Nat → Nat} {nr : Nat} {T : Nat → Bool} (sz : Nat → Int32) {r : Nat} (h : r ≤ zRd (fnd q nr T sz)) : zSz (fnd q nr T sz) r = zSz (fn0 q nr T) r := by
  refine srch_sz 104 (Z := z0 T sz) (Z' := z0 T (fun _ => 0)) rfl (fun r hr => ?_) r h
  have hr2 : r ≤ 0 := hr
  have : r = 0 := by omega
  subst this
  show upd sz 0 (nI (zcnt (drp T) 256)) 0 = upd (fun _ => 0) 0 (nI (zcnt (drp T) 256)) 0
  unfold upd
  rw [if_pos rfl, if_pos rfl]
theorem stp_U {G : Nat → Bool} {lk : Option (Nat → Nat)} {h k k2 : Nat} {X Y : XT} (e : X.2.1 = Y.2.1) : (stp G lk h k X).2.1 = (stp G lk h k2 Y).2.1 := by
  cases lk with
  | none => exact e
  | some L =>
    by_cases h1 : G (rs L h) = true
    · simp only [stp, h1, if_true]; exact e
    · by_cases h2 : Y.2.1 (rs L h) = true
      · have h3 : X.2.1 (rs L h) = true := by rw [e]; exact h2
        simp only [stp, h1, h2, h3, if_true, if_false]; exact e
      · have h3 : ¬ X.2.1 (rs L h) = true := by rw [e]; exact h2
        simp only [stp, h1, h2, h3, if_false]
        exact congrArg (fun S => zPut S (rs L h)) e
theorem in2_U {F G : Nat → Bool} {L : Nat → Nat} {o h k k2 : Nat} {X Y : XT} (e : X.2.1 = Y.2.1) (n : Nat) : (in2 F G L o h k n X).2.1 = (in2 F G L o h k2 n Y).2.1 := by
  induction n with
  | zero => exact e
  | succ n ih =>
    rw [in2, in2]
    split
    · exact stp_U ih
    · exact ih
theorem pl_U {F G : Nat → Bool} {one o h k k2 : Nat} {X Y : XT} (e : X.2.1 = Y.2.1) (n : Nat) : (pl F G one o h k n X).2.1 = (pl F G one o h k2 n Y).2.1 := by
  induction n with
  | zero => exact e
  | succ n ih =>
    rw [pl, pl]
    split
    · split
      · exact ih
      · split
        · exact stp_U ih
        · exact in2_U ih 38
    · exact ih
theorem rus_U {F G : Nat → Bool} {q : Nat → Nat} {X Y : XT} (e : X.2.1 = Y.2.1) (n : Nat) : (rus F G q n X).2.1 = (rus F G q n Y).2.1 := by
  induction n with
  | zero => exact e
  | succ n ih =>
    rw [rus, rus]
    exact pl_U ih 38
theorem rX_U {q : Nat → Nat} {nr : Nat} (F : Nat → Bool) (mt mt2 : Nat) : (rX q nr F mt).2.1 = (rX q nr F mt2).2.1 := rus_U (X := (mt, zNo, fun _ => 0)) (Y := (mt2, zNo, fun _ => 0)) rfl nr
/-- behind all rounds nothing new is left -/
theorem srch_end {q : Nat → Nat} {nr : Nat} (hq : okQ q nr) (n : Nat) : ∀ {Z : ZT}, iZ Z → 104 ≤ n + zRd Z → zcnt (rX q nr (zF (srch q nr n Z)) 0).2.1 256 = 0 := by
  induction n with
  | zero => exact fun h h2 => absurd (iZ_rd h) (by omega)
  | succ n ih =>
    intro Z h h2
    by_cases z : zcnt (rX q nr (zF Z) (zMt Z)).2.1 256 = 0
    · rw [srch_t z]
      show zcnt (rX q nr (zF Z) 0).2.1 256 = 0
      rw [rX_U _ 0 (zMt Z)]
      exact z
    · rw [srch_f z]
      refine ih (iZ_nxt hq h z) ?_
      show 104 ≤ n + (zRd Z + 1)
      omega
theorem fnd_end {q : Nat → Nat} {nr : Nat} (hq : okQ q nr) {T : Nat → Bool} (hT : okF T) (sz : Nat → Int32) : zcnt (rX q nr (zF (fnd q nr T sz)) 0).2.1 256 = 0 := srch_end hq 104 (iZ_0 hT sz) (Nat.le_add_right _ _)
def alI (F : Nat → Bool) (a : Nat) : Bool := decide (a / 8 % 8 < 4) && (decide (a % 8 < 4) && foll F a)
/-! instances -/
theorem iM_t : ∀ w, w < 38 → isF w = true → ∀ k, k < 16 → (iM w).testBit k = (decide (w = 8 * (k / 4) + k % 4) || sp w (8 * (k / 4) + k % 4)) := by decide +kernel
theorem imp_t (S : Nat → Bool) (p n k : Nat) : (imp S p n).testBit k = zany (fun w => S (64 * p + w) && (iM w).testBit k) n := by
  induction n with
  | zero => exact Nat.zero_testBit k
  | succ n ih =>
    rw [imp, zany]
    by_cases h : S (64 * p + n) = true
    · rw [if_pos h, Nat.testBit_or, ih, h, Bool.true_and]
    · rw [if_neg h, ih, Bool.eq_false_iff.mpr h, Bool.false_and, Bool.or_false]
theorem imp_foll {S : Nat → Bool} (hS : okF S) (p : Nat) {k : Nat} (hk : k < 16) : (imp S p 38).testBit k = foll S (64 * p + (8 * (k / 4) + k % 4)) := by
  have hc : 8 * (k / 4) + k % 4 < 64 := by omega
  rw [imp_t, Bool.eq_iff_iff, zany_iff, foll_iff]
  have e1 : (64 * p + (8 * (k / 4) + k % 4)) / 64 = p := by omega
  have e2 : (64 * p + (8 * (k / 4) + k % 4)) % 64 = 8 * (k / 4) + k % 4 := by omega
  constructor
  · rintro ⟨w, hw, h⟩
    rw [Bool.and_eq_true] at h
    have hf := (hS _ h.1).1
    rw [isF_m p w (by omega)] at hf
    have h2 := h.2
    rw [iM_t w hw hf k hk, Bool.or_eq_true] at h2
    rcases h2 with z | z
    · rw [← of_decide_eq_true z]
      exact Or.inl h.1
    · exact Or.inr (wk_iff.mpr ⟨w, by omega, by rw [e1]; exact h.1, by rw [e2]; exact z⟩)
  · intro h
    rcases h with z | z
    · refine ⟨8 * (k / 4) + k % 4, by omega, ?_⟩
      have hf := (hS _ z).1
      rw [isF_m p _ hc] at hf
      rw [z, iM_t _ (by omega) hf k hk, decide_eq_true rfl]; rfl
    · obtain ⟨o, ho, h1, h2⟩ := wk_iff.mp z
      rw [e1] at h1
      rw [e2] at h2
      have hf := (hS _ h1).1
      have h38 : o < 38 := Nat.lt_of_not_le (fun q => by have := F38 hS (p := p) q ho; rw [this] at h1; cases h1)
      rw [isF_m p o ho] at hf
      refine ⟨o, h38, ?_⟩
      rw [h1, iM_t o h38 hf k hk, h2, Bool.or_true]; rfl
theorem alI_blk {S : Nat → Bool} (hS : okF S) (p : Nat) : zcnt (fun i => alI S (64 * p + i)) 64 = zcnt (fun k => (imp S p 38).testBit k) 32 := by
  have key : ∀ n, n ≤ 4 → zcnt (fun i => alI S (64 * p + i)) (8 * n) = zcnt (fun k => (imp S p 38).testBit k) (4 * n) := by
    intro n
    induction n with
    | zero => intro _; rfl
    | succ n ih =>
      intro hn
      rw [show 8 * (n + 1) = 8 * n + (4 + 4) by omega, show 4 * (n + 1) = 4 * n + 4 by omega, zcnt_split, zcnt_split _ (4 * n), ih (by omega), zcnt_split _ 4 4]
      have z1 : zcnt (fun k => alI S (64 * p + (8 * n + (4 + k)))) 4 = 0 := zcnt_zero.mpr (fun k hk => by
        unfold alI
        rw [decide_eq_false (show ¬ (64 * p + (8 * n + (4 + k))) % 8 < 4 by omega)]
        rw [Bool.false_and, Bool.and_false])
      rw [z1, Nat.add_zero]
      congr 1
      refine zcnt_congr (fun k hk => ?_)
      rw [imp_foll hS p (by omega), show (4 * n + k) / 4 = n by omega, show (4 * n + k) % 4 = k by omega]
      unfold alI
      rw [decide_eq_true (show (64 * p + (8 * n + k)) / 8 % 8 < 4 by omega), decide_eq_true (show (64 * p + (8 * n + k)) % 8 < 4 by omega)]
      rfl
  have k4 : zcnt (fun i => alI S (64 * p + i)) 32 = zcnt (fun k => (imp S p 38).testBit k) 16 := key 4 (Nat.le_refl _)
  have e1 : zcnt (fun i => alI S (64 * p + i)) 64 = zcnt (fun i => alI S (64 * p + i)) 32 + zcnt (fun k => alI S (64 * p + (32 + k))) 32 := zcnt_split _ 32 32
  have e2 : zcnt (fun k => (imp S p 38).testBit k) 32 = zcnt (fun k => (imp S p 38).testBit k) 16 + zcnt (fun k => (imp S p 38).testBit (16 + k)) 16 := zcnt_split _ 16 16
  have z1 : zcnt (fun k => alI S (64 * p + (32 + k))) 32 = 0 := zcnt_zero.mpr (fun k hk => by
    unfold alI
    rw [decide_eq_false (show ¬ (64 * p + (32 + k)) / 8 % 8 < 4 by omega)]; rfl)
  have z2 : zcnt (fun k => (imp S p 38).testBit (16 + k)) 16 = 0 := zcnt_zero.mpr (fun k hk => Nat.testBit_lt_two_pow (Nat.lt_of_lt_of_le (imp_lt S p 38 (by omega)) (Nat.pow_le_pow_right (by decide) (by omega))))
  rw [e1, e2, k4, z1, z2]
theorem alI_ins {S : Nat → Bool} (hS : okF S) : zcnt (alI S) 256 = insU S 4 := by
  have key : ∀ n, zcnt (alI S) (64 * n) = insU S n := by
    intro n
    induction n with
    | zero => rfl
    | succ n ih => rw [show 64 * (n + 1) = 64 * n + 64 by omega, zcnt_split, ih, alI_blk hS n, insU]
  exact key 4
theorem insU_mono {S R : Nat → Bool} (hS : okF S) (hR : okF R) (h : ∀ a, foll S a = true → foll R a = true) : insU S 4 ≤ insU R 4 := by
  rw [← alI_ins hS, ← alI_ins hR]
  refine zcnt_sub (fun k _ hk => ?_)
  unfold alI at hk ⊢
  rw [Bool.and_eq_true, Bool.and_eq_true] at hk ⊢
  exact ⟨hk.1, hk.2.1, h k hk.2.2⟩
theorem insU_fnd {q : Nat → Nat} {nr : Nat} (hq : okQ q nr) {T : Nat → Bool} (hT : okF T) (sz : Nat → Int32) : insU T 4 ≤ insU (zF (fnd q nr T sz)) 4 := by
  obtain ⟨h1, _, h3⟩ := fnd_ok hq hT sz
  exact insU_mono hT h1 h3
theorem iM_m (p w : Nat) (hw : w < 64) : iM (64 * p + w) = iM w := by
  unfold iM
  rw [show (64 * p + w) / 8 % 8 = w / 8 % 8 by omega, show (64 * p + w) % 8 = w % 8 by omega]
