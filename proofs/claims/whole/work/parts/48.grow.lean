/-! the rounds grow: each that counts lets one fact more follow -/
theorem wk_iff {F : Nat → Bool} {a : Nat} : wk F a = true ↔ ∃ o, o < 64 ∧ F (64 * (a / 64) + o) = true ∧ sp o (a % 64) = true := by
  unfold wk wkp
  rw [zany_iff]
  constructor
  · rintro ⟨o, h1, h2⟩
    rw [Bool.and_eq_true] at h2
    exact ⟨o, h1, h2.1, h2.2⟩
  · rintro ⟨o, h1, h2, h3⟩
    exact ⟨o, h1, by rw [Bool.and_eq_true]; exact ⟨h2, h3⟩⟩
def spT (n : Nat) (f : Nat → Bool) : Bool := zcnt f n == n
theorem spT_of {n : Nat} {f : Nat → Bool} (h : spT n f = true) {k : Nat} (hk : k < n) : f k = true := by
  have e := eq_of_beq h
  cases z : f k with
  | true => rfl
  | false =>
    exfalso
    have := zcnt_lt (p := f) (q := fun _ => true) (fun _ _ _ => rfl) hk z rfl
    have := zcnt_le (fun _ => true) n
    omega
theorem sp_trB : spT 64 (fun w => spT 64 (fun o => !(sp o w) || spT 64 (fun o2 => !(sp o2 o) || (sp o2 w && spm o2 == 0)))) = true := by decide +kernel
theorem sp_tr (w : Nat) (hw : w < 64) (o : Nat) (ho : o < 64) (h : sp o w = true) (o2 : Nat) (ho2 : o2 < 64) (h2 : sp o2 o = true) : sp o2 w = true ∧ spm o2 = 0 := by
  have k := spT_of (spT_of sp_trB hw) ho
  rw [h, Bool.not_true, Bool.false_or] at k
  have k2 := spT_of k ho2
  simp only [h2, Bool.not_true, Bool.false_or, Bool.and_eq_true] at k2
  exact ⟨k2.1, eq_of_beq k2.2⟩
theorem sp_isF : ∀ w, w < 64 → spm w ≠ 0 → isF w = true := by decide +kernel
theorem wk_no {F : Nat → Bool} {a : Nat} (h : spm (a % 64) = 0) : wk F a = false := by
  refine Bool.eq_false_iff.mpr (fun q => ?_)
  obtain ⟨o, _, _, h3⟩ := wk_iff.mp q
  unfold sp at h3
  rw [h, Nat.zero_testBit] at h3
  cases h3
theorem wk_drp {F : Nat → Bool} {a : Nat} (h : wk F a = true) : wk (drp F) a = true := by
  obtain ⟨o, ho, hF, hs⟩ := wk_iff.mp h
  by_cases z : wk F (64 * (a / 64) + o) = true
  · obtain ⟨o2, ho2, hF2, hs2⟩ := wk_iff.mp z
    rw [show (64 * (a / 64) + o) / 64 = a / 64 by omega] at hF2
    rw [show (64 * (a / 64) + o) % 64 = o by omega] at hs2
    obtain ⟨k1, k2⟩ := sp_tr (a % 64) (by omega) o ho hs o2 ho2 hs2
    refine wk_iff.mpr ⟨o2, ho2, ?_, k1⟩
    unfold drp
    rw [hF2, wk_no (by rw [show (64 * (a / 64) + o2) % 64 = o2 by omega]; exact k2)]; rfl
  · refine wk_iff.mpr ⟨o, ho, ?_, hs⟩
    unfold drp
    rw [hF, Bool.eq_false_iff.mpr z]; rfl
theorem foll_iff {F : Nat → Bool} {a : Nat} : foll F a = true ↔ F a = true ∨ wk F a = true := by
  unfold foll
  exact Bool.or_eq_true _ _ ▸ Iff.rfl
theorem foll_mono {F G : Nat → Bool} (h : ∀ a, F a = true → G a = true) {a : Nat} (ha : foll F a = true) : foll G a = true := by
  rcases foll_iff.mp ha with q | q
  · exact foll_iff.mpr (Or.inl (h a q))
  · obtain ⟨o, ho, hF, hs⟩ := wk_iff.mp q
    exact foll_iff.mpr (Or.inr (wk_iff.mpr ⟨o, ho, h _ hF, hs⟩))
theorem foll_drp {F : Nat → Bool} {a : Nat} (h : foll F a = true) : foll (drp F) a = true := by
  by_cases z : wk F a = true
  · exact foll_iff.mpr (Or.inr (wk_drp z))
  · rcases foll_iff.mp h with q | q
    · refine foll_iff.mpr (Or.inl ?_)
      unfold drp
      rw [q, Bool.eq_false_iff.mpr z]; rfl
    · exact absurd q z
theorem foll_F {F : Nat → Bool} (hF : okF F) {a : Nat} (h : foll F a = true) (ha : a < 256) : isF a = true := by
  rcases foll_iff.mp h with q | q
  · exact (hF a q).1
  · obtain ⟨o, _, _, h3⟩ := wk_iff.mp q
    have : isF (a % 64) = true := sp_isF (a % 64) (by omega) (fun z => by unfold sp at h3; rw [z, Nat.zero_testBit] at h3; cases h3)
    rw [← isF_m (a / 64) (a % 64) (by omega), show 64 * (a / 64) + a % 64 = a by omega] at this
    exact this
theorem cnt_isF : zcnt isF 256 = 104 := by decide +kernel
theorem foll_104 {F : Nat → Bool} (hF : okF F) : zcnt (foll F) 256 ≤ 104 := by
  rw [← cnt_isF]
  exact zcnt_sub (fun k hk h => foll_F hF h hk)
def nG (G U : Nat → Bool) : Prop := ∀ a, U a = true → G a = false
theorem nG_no (G : Nat → Bool) : nG G zNo := fun a h => by cases h
theorem nG_stp {G : Nat → Bool} {lk : Option (Nat → Nat)} {h k : Nat} {X : XT} (hX : nG G X.2.1) : nG G (stp G lk h k X).2.1 := by
  cases lk with
  | none => exact hX
  | some L =>
    unfold stp
    simp only
    split
    · exact hX
    · rename_i h1
      split
      · exact hX
      · intro a ha
        simp only [zPut] at ha
        split at ha
        · rename_i e; rw [e]; exact Bool.eq_false_iff.mpr h1
        · exact hX a ha
theorem nG_in2 {F G : Nat → Bool} {L : Nat → Nat} {o h k : Nat} {X : XT} (hX : nG G X.2.1) (n : Nat) : nG G (in2 F G L o h k n X).2.1 := by
  induction n with
  | zero => exact hX
  | succ n ih =>
    rw [in2]
    split
    · exact nG_stp ih
    · exact ih
theorem nG_pl {F G : Nat → Bool} {one o h k : Nat} {X : XT} (hX : nG G X.2.1) (n : Nat) : nG G (pl F G one o h k n X).2.1 := by
  induction n with
  | zero => exact hX
  | succ n ih =>
    rw [pl]
    split
    · split
      · exact ih
      · split
        · exact nG_stp ih
        · exact nG_in2 ih 38
    · exact ih
theorem nG_rusB {F G : Nat → Bool} {q : Nat → Nat} {b : Nat} {X : XT} (hX : nG G X.2.1) (n : Nat) : nG G (rusB F G q b n X).2.1 := by
  induction n with
  | zero => exact hX
  | succ n ih =>
    rw [rusB]
    split
    · exact ih
    · exact nG_pl ih 38
theorem in2_no {G : Nat → Bool} {L : Nat → Nat} {o h k : Nat} {X : XT} (n : Nat) : in2 zNo G L o h k n X = X := by
  induction n with
  | zero => rfl
  | succ n ih => rw [in2, if_neg (show ¬ zNo (64 * (o / 64) + n) = true from fun z => Bool.false_ne_true z), ih]
theorem pl_no {G : Nat → Bool} {one o h k : Nat} {X : XT} (n : Nat) : pl zNo G one o h k n X = X := by
  induction n with
  | zero => rfl
  | succ n ih => rw [pl, if_neg (show ¬ zNo (64 * (one / 64) + n) = true from fun z => Bool.false_ne_true z), ih]
theorem rusB_no {G : Nat → Bool} {q : Nat → Nat} {b : Nat} {X : XT} (n : Nat) : rusB zNo G q b n X = X := by
  induction n with
  | zero => rfl
  | succ n ih =>
    rw [rusB]
    split
    · exact ih
    · rw [pl_no, ih]
theorem zNo_of {F : Nat → Bool} (hF : okF F) (h : zcnt F 256 = 0) : F = zNo := by
  funext a
  refine Bool.eq_false_iff.mpr (fun q => ?_)
  exact absurd ((zcnt_zero.mp h a (hF a q).2).symm.trans q) (by decide)
theorem zcnt_or {F U : Nat → Bool} (h : ∀ a, U a = true → F a = false) (n : Nat) : zcnt F n + zcnt U n = zcnt (zOr F U) n := by
  induction n with
  | zero => rfl
  | succ n ih =>
    rw [zcnt_1, zcnt_1, zcnt_1, ← ih]
    show _ = _ + (if (F n || U n) = true then 1 else 0)
    cases h1 : U n with
    | false => rw [Bool.or_false]; simp only [Bool.false_eq_true, if_false]; omega
    | true => rw [h n h1]; simp only [Bool.false_or, Bool.false_eq_true, if_true, if_false]; omega
/-! the reference's rounds, but for a rule -/
def rXB (q : Nat → Nat) (nr b : Nat) (F : Nat → Bool) (mt : Nat) : XT := rusB F (foll F) q b nr (mt, zNo, fun _ => 0)
def finB (q : Nat → Nat) (nr b : Nat) (Z : ZT) : ZT := (zF Z, zRd Z, (rXB q nr b (zF Z) (zMt Z)).1, zDr Z, zRo Z, zRu Z, zSz Z)
def nx2B (q : Nat → Nat) (nr b : Nat) (Z : ZT) : Nat → Bool := zOr (zF Z) (rXB q nr b (zF Z) (zMt Z)).2.1
def nxtB (q : Nat → Nat) (nr b : Nat) (Z : ZT) : ZT := (drp (nx2B q nr b Z), zRd Z + 1, (rXB q nr b (zF Z) (zMt Z)).1, zDr Z + (zcnt (nx2B q nr b Z) 256 - zcnt (drp (nx2B q nr b Z)) 256), roA (rXB q nr b (zF Z) (zMt Z)).2.1 (zRd Z) (zRo Z), ruA (rXB q nr b (zF Z) (zMt Z)).2.1 (rXB q nr b (zF Z) (zMt Z)).2.2 (zRu Z), upd (zSz Z) (zRd Z + 1) (nI (zcnt (drp (nx2B q nr b Z)) 256)))
def srchB (q : Nat → Nat) (nr b : Nat) : Nat → ZT → ZT
  | 0, Z => Z
  | n + 1, Z => if zcnt (rXB q nr b (zF Z) (zMt Z)).2.1 256 = 0 then finB q nr b Z else srchB q nr b n (nxtB q nr b Z)
theorem srchB_t {q : Nat → Nat} {nr b n : Nat} {Z : ZT} (h : zcnt (rXB q nr b (zF Z) (zMt Z)).2.1 256 = 0) : srchB q nr b (n + 1) Z = finB q nr b Z := by rw [srchB, if_pos h]
theorem srchB_f {q : Nat → Nat} {nr b n : Nat} {Z : ZT} (h : ¬ zcnt (rXB q nr b (zF Z) (zMt Z)).2.1 256 = 0) : srchB q nr b (n + 1) Z = srchB q nr b n (nxtB q nr b Z) := by rw [srchB, if_neg h]
def fndB (q : Nat → Nat) (nr b : Nat) (T : Nat → Bool) (sz : Nat → Int32) : ZT := srchB q nr b 104 (z0 T sz)
def iZ (Z : ZT) : Prop := okF (zF Z) ∧ (zRd Z + 1 ≤ zcnt (foll (zF Z)) 256 ∨ (zcnt (zF Z) 256 = 0 ∧ zRd Z = 0))
theorem iZ_rd {Z : ZT} (h : iZ Z) : zRd Z ≤ 103 := by
  have := foll_104 h.1
  rcases h.2 with q | q <;> omega
theorem foll_cnt (F : Nat → Bool) : zcnt F 256 ≤ zcnt (foll F) 256 := zcnt_sub (fun k _ h => foll_iff.mpr (Or.inl h))
theorem iZ_0 {T : Nat → Bool} (hT : okF T) (sz : Nat → Int32) : iZ (z0 T sz) := by
  refine ⟨okF_drp hT, ?_⟩
  show 0 + 1 ≤ zcnt (foll (drp T)) 256 ∨ (zcnt (drp T) 256 = 0 ∧ 0 = 0)
  have := foll_cnt (drp T)
  omega
theorem rXB_ok {q : Nat → Nat} {nr b : Nat} (hq : okQ q nr) (F : Nat → Bool) (mt : Nat) : okF (rXB q nr b F mt).2.1 := okF_rusB hq okF_no nr (Nat.le_refl _)
theorem rXB_nG {q : Nat → Nat} {nr b : Nat} (F : Nat → Bool) (mt : Nat) : nG (foll F) (rXB q nr b F mt).2.1 := nG_rusB (nG_no _) nr
theorem rXB_dj {q : Nat → Nat} {nr b : Nat} (F : Nat → Bool) (mt : Nat) : ∀ a, (rXB q nr b F mt).2.1 a = true → F a = false := fun a h => by
  have := rXB_nG F mt a h
  exact Bool.eq_false_iff.mpr (fun z => absurd (this.symm.trans (foll_iff.mpr (Or.inl z))) (by decide))
theorem rXB_gr {q : Nat → Nat} {nr b : Nat} {F : Nat → Bool} {mt : Nat} (h : ¬ zcnt (rXB q nr b F mt).2.1 256 = 0) : zcnt (foll F) 256 < zcnt (foll (drp (zOr F (rXB q nr b F mt).2.1))) 256 := by
  obtain ⟨i, hi, hu⟩ := zcnt_pos.mp (Nat.pos_of_ne_zero h)
  refine zcnt_lt (i := i) (fun k _ hk => foll_drp (foll_mono (fun a ha => ?_) hk)) hi (rXB_nG F mt i hu) (foll_drp (foll_iff.mpr (Or.inl ?_)))
  · unfold zOr; rw [ha]; rfl
  · unfold zOr; rw [hu, Bool.or_true]
theorem iZ_nxt {q : Nat → Nat} {nr b : Nat} (hq : okQ q nr) {Z : ZT} (hZ : iZ Z) (h : ¬ zcnt (rXB q nr b (zF Z) (zMt Z)).2.1 256 = 0) : iZ (nxtB q nr b Z) := by
  refine ⟨okF_drp (okF_or hZ.1 (rXB_ok hq _ _)), Or.inl ?_⟩
  show zRd Z + 1 + 1 ≤ zcnt (foll (drp (zOr (zF Z) (rXB q nr b (zF Z) (zMt Z)).2.1))) 256
  have h1 := rXB_gr h
  rcases hZ.2 with z | z
  · omega
  · refine absurd ?_ h
    rw [zNo_of hZ.1 z.1]
    show zcnt (rusB zNo (foll zNo) q b nr (zMt Z, zNo, fun _ => 0)).2.1 256 = 0
    rw [rusB_no]
    exact zcnt_zero.mpr (fun _ _ => rfl)
theorem srchB_ok {q : Nat → Nat} {nr b : Nat} (hq : okQ q nr) (n : Nat) : ∀ {Z : ZT}, iZ Z → iZ (srchB q nr b n Z) ∧ ∀ a, foll (zF Z) a = true → foll (zF (srchB q nr b n Z)) a = true := by
  induction n with
  | zero => exact fun h => ⟨h, fun a ha => ha⟩
  | succ n ih =>
    intro Z h
    by_cases z : zcnt (rXB q nr b (zF Z) (zMt Z)).2.1 256 = 0
    · rw [srchB_t z]
      exact ⟨h, fun a ha => ha⟩
    · rw [srchB_f z]
      obtain ⟨k1, k2⟩ := ih (iZ_nxt hq h z)
      refine ⟨k1, fun a ha => k2 a (foll_drp (foll_mono (fun c hc => ?_) ha))⟩
      show (zF Z c || _) = true
      rw [hc]; rfl
theorem fndB_ok {q : Nat → Nat} {nr b : Nat} (hq : okQ q nr) {T : Nat → Bool} (hT : okF T) (sz : Nat → Int32) : okF (zF (fndB q nr b T sz)) ∧ zRd (fndB q nr b T sz) ≤ 103 ∧ ∀ a, foll T a = true → foll (zF (fndB q nr b T sz)) a = true := by
  obtain ⟨k1, k2⟩ := srchB_ok (b := b) hq 104 (iZ_0 hT sz)
  exact ⟨k1.1, iZ_rd k1, fun a ha => k2 a (foll_drp ha)⟩
