/-! ground facts: what is found, said of constants without end; the rounds end with the least set that is closed under the rules -/
/-- a pair of terms w (8 f + s) stands for the constants a, b -/
def ins (w a b : Nat) : Bool := (decide (4 ≤ w / 8 % 8) || decide (a = w / 8 % 8)) && ((decide (4 ≤ w % 8) || decide (b = w % 8)) && (decide (w % 64 ≠ 36) || decide (a = b)))
theorem ins_iff {w a b : Nat} : ins w a b = true ↔ (4 ≤ w / 8 % 8 ∨ a = w / 8 % 8) ∧ (4 ≤ w % 8 ∨ b = w % 8) ∧ (w % 64 ≠ 36 ∨ a = b) := by
  unfold ins
  simp only [Bool.and_eq_true, Bool.or_eq_true, decide_eq_true_eq]
theorem ins_rep (w a b : Nat) : ins w a b = ins w (if a < 4 then a else 4) (if b < 4 then b else if a = b then 4 else 5) := by
  rw [Bool.eq_iff_iff, ins_iff, ins_iff]
  by_cases h1 : a < 4
  · by_cases h2 : b < 4
    · rw [if_pos h1, if_pos h2]
    · rw [if_pos h1, if_neg h2, if_neg (show ¬ a = b by omega)]
      omega
  · by_cases h2 : b < 4
    · rw [if_neg h1, if_pos h2]
      omega
    · by_cases h3 : a = b
      · rw [if_neg h1, if_neg h2, if_pos h3]
        omega
      · rw [if_neg h1, if_neg h2, if_neg h3]
        omega
theorem sp_insB : spT 64 (fun w => spT 64 (fun o => !(sp o w) || spT 6 (fun a => spT 6 (fun b => !(ins w a b) || ins o a b)))) = true := by decide +kernel
theorem sp_ins {w o a b : Nat} (hw : w < 64) (ho : o < 64) (h : sp o w = true) (hi : ins w a b = true) : ins o a b = true := by
  have k := spT_of (spT_of sp_insB hw) ho
  rw [h, Bool.not_true, Bool.false_or] at k
  rw [ins_rep] at hi ⊢
  have k2 := spT_of (spT_of k (k := if a < 4 then a else 4) (by split <;> omega)) (k := if b < 4 then b else if a = b then 4 else 5) (by split <;> (try split) <;> omega)
  rw [hi, Bool.not_true, Bool.false_or] at k2
  exact k2
theorem ins_selfB : spT 64 (fun w => !(isF w) || ins w (w / 8 % 8) (w % 8)) = true := by decide +kernel
theorem ins_self {w : Nat} (hw : w < 64) (hf : isF w = true) : ins w (w / 8 % 8) (w % 8) = true := by
  have k := spT_of ins_selfB hw
  rw [hf, Bool.not_true, Bool.false_or] at k
  exact k
theorem ins_genB : spT 64 (fun w => !(isF w) || spT 64 (fun v => !(isF v) || (!(ins v (w / 8 % 8) (w % 8)) || (v == w || sp v w)))) = true := by decide +kernel
theorem ins_gen {w v : Nat} (hw : w < 64) (hf : isF w = true) (hv : v < 64) (hg : isF v = true) (hi : ins v (w / 8 % 8) (w % 8) = true) : v = w ∨ sp v w = true := by
  have k := spT_of ins_genB hw
  rw [hf, Bool.not_true, Bool.false_or] at k
  have k2 := spT_of k hv
  simp only [hg, hi, Bool.not_true, Bool.false_or, Bool.or_eq_true] at k2
  rcases k2 with z | z
  · exact Or.inl (eq_of_beq z)
  · exact Or.inr z
/-- the ground facts of a set of facts -/
def gr (F : Nat → Bool) (p a b : Nat) : Prop := ∃ w, w < 64 ∧ F (64 * p + w) = true ∧ ins w a b = true
theorem gr_of {F : Nat → Bool} {r a b : Nat} (h : foll F r = true) (hi : ins (r % 64) a b = true) : gr F (r / 64) a b := by
  rcases foll_iff.mp h with z | z
  · exact ⟨r % 64, by omega, by rw [show 64 * (r / 64) + r % 64 = r by omega]; exact z, hi⟩
  · obtain ⟨o, ho, h1, h2⟩ := wk_iff.mp z
    exact ⟨o, ho, h1, sp_ins (by omega) ho h2 hi⟩
theorem isF_r {a : Nat} (hf : isF a = true) : isF (a % 64) = true := by
  rw [← isF_m (a / 64) (a % 64) (by omega), show 64 * (a / 64) + a % 64 = a by omega]
  exact hf
theorem foll_gr {F : Nat → Bool} (hF : okF F) {a : Nat} (hf : isF a = true) : foll F a = true ↔ gr F (a / 64) (a / 8 % 8) (a % 8) := by
  have e1 : a % 64 / 8 % 8 = a / 8 % 8 := by omega
  have e2 : a % 64 % 8 = a % 8 := by omega
  constructor
  · intro h
    have := ins_self (w := a % 64) (by omega) (isF_r hf)
    rw [e1, e2] at this
    exact gr_of h this
  · rintro ⟨w, hw, h1, h2⟩
    have hg := (hF _ h1).1
    rw [isF_m _ _ hw] at hg
    rcases ins_gen (w := a % 64) (by omega) (isF_r hf) hw hg (by rw [e1, e2]; exact h2) with z | z
    · refine foll_iff.mpr (Or.inl ?_)
      rw [z, show 64 * (a / 64) + a % 64 = a by omega] at h1
      exact h1
    · exact foll_iff.mpr (Or.inr (wk_iff.mpr ⟨w, hw, h1, z⟩))
theorem gr_foll {S T : Nat → Bool} (h : ∀ a, T a = true → foll S a = true) {p a b : Nat} (g : gr T p a b) : gr S p a b := by
  obtain ⟨w, hw, h1, h2⟩ := g
  have := gr_of (h _ h1) (a := a) (b := b) (by rw [show (64 * p + w) % 64 = w by omega]; exact h2)
  rw [show (64 * p + w) / 64 = p by omega] at this
  exact this
/-! terms with their constants -/
def ths (th : Nat → Nat) : Prop := ∀ c, c < 4 → th c = c
def rsp (L th : Nat → Nat) : Prop := ∀ t, t < 12 → th t = th (L t)
def cL (L : Nat → Nat) : Prop := ∀ c, c < 4 → L c = c
theorem jn_t {L th : Nat → Nat} {x y : Nat} (hL : vl L) (hc : ths th) (hx : x < 12) (hy : y < 12) (hr : rsp L th) (e : th x = th y) : ∃ M, jn L x y = some M ∧ rsp M th := by
  unfold jn
  by_cases h1 : L x = L y
  · rw [if_pos h1]
    exact ⟨L, rfl, hr⟩
  · rw [if_neg h1]
    have ex := hr x hx
    have ey := hr y hy
    have e2 : th (L x) = th (L y) := by rw [← ex, ← ey]; exact e
    by_cases h2 : max (L x) (L y) < 4
    · exfalso
      have a1 := hc (L x) (by omega)
      have a2 := hc (L y) (by omega)
      exact h1 (by rw [← a1, ← a2]; exact e2)
    · rw [if_neg h2]
      refine ⟨_, rfl, fun t ht => ?_⟩
      have et := hr t ht
      show th t = th (if L t = max (L x) (L y) then min (L x) (L y) else L t)
      by_cases h3 : L t = max (L x) (L y)
      · rw [if_pos h3]
        rcases Nat.le_total (L x) (L y) with z | z
        · rw [Nat.max_eq_right z] at h3
          rw [Nat.min_eq_left z, et, h3]
          exact e2.symm
        · rw [Nat.max_eq_left z] at h3
          rw [Nat.min_eq_right z, et, h3]
          exact e2
      · rw [if_neg h3]
        exact et
theorem jn_s {L M th : Nat → Nat} {x y : Nat} (hL : vl L) (hx : x < 12) (hy : y < 12) (e : jn L x y = some M) (hr : rsp M th) : rsp L th ∧ th x = th y := by
  unfold jn at e
  by_cases h1 : L x = L y
  · rw [if_pos h1] at e
    cases Option.some.inj e
    exact ⟨hr, by rw [hr x hx, hr y hy, h1]⟩
  · rw [if_neg h1] at e
    by_cases h2 : max (L x) (L y) < 4
    · rw [if_pos h2] at e
      cases e
    · rw [if_neg h2] at e
      cases Option.some.inj e
      refine ⟨fun t ht => ?_, ?_⟩
      · have h3 := hL t ht
        rw [hr t ht, hr (L t) (by omega)]
        show th (if L t = max (L x) (L y) then min (L x) (L y) else L t) = th (if L (L t) = max (L x) (L y) then min (L x) (L y) else L (L t))
        rw [h3.2]
      · rw [hr x hx, hr y hy]
        show th (if L x = max (L x) (L y) then min (L x) (L y) else L x) = th (if L y = max (L x) (L y) then min (L x) (L y) else L y)
        rcases Nat.le_total (L x) (L y) with z | z
        · rw [Nat.max_eq_right z, Nat.min_eq_left z, if_neg h1, if_pos rfl]
        · rw [Nat.max_eq_left z, Nat.min_eq_right z, if_pos rfl, if_neg (fun k => h1 k.symm)]
theorem jn_c {L M : Nat → Nat} {x y : Nat} (hc : cL L) (e : jn L x y = some M) : cL M := by
  unfold jn at e
  by_cases h1 : L x = L y
  · rw [if_pos h1] at e
    cases Option.some.inj e
    exact hc
  · rw [if_neg h1] at e
    by_cases h2 : max (L x) (L y) < 4
    · rw [if_pos h2] at e
      cases e
    · rw [if_neg h2] at e
      cases Option.some.inj e
      intro c h
      show (if L c = max (L x) (L y) then min (L x) (L y) else L c) = c
      rw [hc c h, if_neg (by omega)]
section ALS
variable {L M th : Nat → Nat} {part w ap : Nat}
theorem al_t (hL : vl L) (hc : ths th) (h1 : own (w / 8 % 8) ap < 12) (h2 : own (w % 8) ap < 12) (hr : rsp L th) (e1 : th (part / 8 % 8) = th (own (w / 8 % 8) ap)) (e2 : th (part % 8) = th (own (w % 8) ap)) : ∃ M, al L part w ap = some M ∧ rsp M th := by
  obtain ⟨K, k1, k2⟩ := jn_t hL hc (show part / 8 % 8 < 12 by omega) h1 hr e1
  obtain ⟨N, m1, m2⟩ := jn_t (vl_jn hL (show part / 8 % 8 < 12 by omega) h1 k1) hc (show part % 8 < 12 by omega) h2 k2 e2
  refine ⟨N, ?_, m2⟩
  unfold al
  rw [k1]
  exact m1
theorem al_s (hL : vl L) (h1 : own (w / 8 % 8) ap < 12) (h2 : own (w % 8) ap < 12) (e : al L part w ap = some M) (hr : rsp M th) : rsp L th ∧ th (part / 8 % 8) = th (own (w / 8 % 8) ap) ∧ th (part % 8) = th (own (w % 8) ap) := by
  unfold al at e
  rcases hk : jn L (part / 8 % 8) (own (w / 8 % 8) ap) with _ | K
  · rw [hk] at e
    cases e
  · rw [hk] at e
    have e3 : jn K (part % 8) (own (w % 8) ap) = some M := e
    obtain ⟨a1, a2⟩ := jn_s (vl_jn hL (show part / 8 % 8 < 12 by omega) h1 hk) (show part % 8 < 12 by omega) h2 e3 hr
    obtain ⟨b1, b2⟩ := jn_s hL (show part / 8 % 8 < 12 by omega) h1 hk a1
    exact ⟨b1, b2, a2⟩
theorem al_c (hc : cL L) (e : al L part w ap = some M) : cL M := by
  unfold al at e
  rcases hk : jn L (part / 8 % 8) (own (w / 8 % 8) ap) with _ | K
  · rw [hk] at e
    cases e
  · rw [hk] at e
    exact jn_c (jn_c hc hk) e
end ALS
theorem isF_t {w : Nat} (h : isF w = true) : (w / 8 % 8 < 4 ∧ w % 8 ≤ 4) ∨ (w / 8 % 8 = 4 ∧ w % 8 ≤ 5) := by
  unfold isF at h
  exact of_decide_eq_true h
theorem own_l {w ap : Nat} (h : isF w = true) (ha : ap ≤ 6) : own (w / 8 % 8) ap < 12 ∧ own (w % 8) ap < 12 := by
  have := isF_t h
  exact ⟨own_lt (by omega) ha, own_lt (by omega) ha⟩
theorem own_s {th : Nat → Nat} {w ap x y : Nat} (hc : ths th) (e1 : x = th (own (w / 8 % 8) ap)) (e2 : y = th (own (w % 8) ap)) : ins w x y = true := by
  refine ins_iff.mpr ⟨?_, ?_, ?_⟩
  · by_cases h : w / 8 % 8 < 4
    · refine Or.inr ?_
      rw [e1]
      unfold own
      rw [if_pos h]
      exact hc _ h
    · exact Or.inl (by omega)
  · by_cases h : w % 8 < 4
    · refine Or.inr ?_
      rw [e2]
      unfold own
      rw [if_pos h]
      exact hc _ h
    · exact Or.inl (by omega)
  · by_cases h : w % 64 = 36
    · refine Or.inr ?_
      rw [e1, e2, show w / 8 % 8 = 4 by omega, show w % 8 = 4 by omega]
    · exact Or.inl h
/-- the constants of a rule's places, and of its facts' places -/
def xt (th : Nat → Nat) (w1 a1 b1 w2 a2 b2 : Nat) : Nat → Nat := fun t => if t < 8 then th t else if t = 8 then (if w1 / 8 % 8 < 4 then b1 else a1) else if t = 9 then b1 else if t = 10 then (if w2 / 8 % 8 < 4 then b2 else a2) else b2
section XTS
variable {th : Nat → Nat} {w1 a1 b1 w2 a2 b2 : Nat}
theorem xt_8 {t : Nat} (h : t < 8) : xt th w1 a1 b1 w2 a2 b2 t = th t := if_pos h
theorem xt_c (hc : ths th) : ths (xt th w1 a1 b1 w2 a2 b2) := fun c h => by rw [xt_8 (by omega)]; exact hc c h
theorem xt_1 (hc : ths th) (hf : isF w1 = true) (hi : ins w1 a1 b1 = true) : xt th w1 a1 b1 w2 a2 b2 (own (w1 / 8 % 8) 4) = a1 := by
  have h := isF_t hf
  obtain ⟨i1, i2, i3⟩ := ins_iff.mp hi
  unfold own
  by_cases z : w1 / 8 % 8 < 4
  · rw [if_pos z, xt_8 (by omega), hc _ z]
    omega
  · rw [if_neg z]
    unfold xt
    rw [if_neg (by omega), if_pos (by omega), if_neg z]
theorem xt_2 (hc : ths th) (hf : isF w1 = true) (hi : ins w1 a1 b1 = true) : xt th w1 a1 b1 w2 a2 b2 (own (w1 % 8) 4) = b1 := by
  have h := isF_t hf
  obtain ⟨i1, i2, i3⟩ := ins_iff.mp hi
  unfold own
  by_cases z : w1 % 8 < 4
  · rw [if_pos z, xt_8 (by omega), hc _ z]
    omega
  · rw [if_neg z]
    unfold xt
    by_cases z4 : w1 % 8 = 4
    · rw [if_neg (by omega), if_pos (by omega)]
      split
      · rfl
      · omega
    · rw [if_neg (by omega), if_neg (by omega), if_pos (by omega)]
theorem xt_3 (hc : ths th) (hf : isF w2 = true) (hi : ins w2 a2 b2 = true) : xt th w1 a1 b1 w2 a2 b2 (own (w2 / 8 % 8) 6) = a2 := by
  have h := isF_t hf
  obtain ⟨i1, i2, i3⟩ := ins_iff.mp hi
  unfold own
  by_cases z : w2 / 8 % 8 < 4
  · rw [if_pos z, xt_8 (by omega), hc _ z]
    omega
  · rw [if_neg z]
    unfold xt
    rw [if_neg (by omega), if_neg (by omega), if_neg (by omega), if_pos (by omega), if_neg z]
theorem xt_4 (hc : ths th) (hf : isF w2 = true) (hi : ins w2 a2 b2 = true) : xt th w1 a1 b1 w2 a2 b2 (own (w2 % 8) 6) = b2 := by
  have h := isF_t hf
  obtain ⟨i1, i2, i3⟩ := ins_iff.mp hi
  unfold own
  by_cases z : w2 % 8 < 4
  · rw [if_pos z, xt_8 (by omega), hc _ z]
    omega
  · rw [if_neg z]
    unfold xt
    by_cases z4 : w2 % 8 = 4
    · rw [if_neg (by omega), if_neg (by omega), if_neg (by omega), if_pos (by omega)]
      split
      · rfl
      · omega
    · rw [if_neg (by omega), if_neg (by omega), if_neg (by omega), if_neg (by omega)]
end XTS
theorem rs_d {L : Nat → Nat} {h : Nat} : rs L h / 64 = h / 64 ∧ rs L h % 64 / 8 % 8 = (if L (h / 8 % 8) < 4 then L (h / 8 % 8) else 4) ∧ rs L h % 64 % 8 = (if L (h % 8) < 4 then L (h % 8) else if L (h / 8 % 8) < 4 ∨ L (h / 8 % 8) = L (h % 8) then 4 else 5) := by
  unfold rs
  generalize L (h / 8 % 8) = u
  generalize L (h % 8) = v
  have h1 : (if u < 4 then u else 4) ≤ 4 := by split <;> omega
  have h2 : (if v < 4 then v else if u < 4 ∨ u = v then 4 else 5) ≤ 5 := by split <;> (try split) <;> omega
  generalize (if u < 4 then u else 4) = x at h1 ⊢
  generalize (if v < 4 then v else if u < 4 ∨ u = v then 4 else 5) = y at h2 ⊢
  omega
theorem rs_t {M th : Nat → Nat} {h : Nat} (hc : ths th) (hr : rsp M th) : ins (rs M h % 64) (th (h / 8 % 8)) (th (h % 8)) = true := by
  obtain ⟨-, d1, d2⟩ := rs_d (L := M) (h := h)
  have r1 := hr (h / 8 % 8) (by omega)
  have r2 := hr (h % 8) (by omega)
  have e3 : M (h / 8 % 8) = M (h % 8) → th (h / 8 % 8) = th (h % 8) := fun z => by rw [r1, r2, z]
  have c1 : M (h / 8 % 8) < 4 → th (h / 8 % 8) = M (h / 8 % 8) := fun z => r1.trans (hc _ z)
  have c2 : M (h % 8) < 4 → th (h % 8) = M (h % 8) := fun z => r2.trans (hc _ z)
  refine ins_iff.mpr ?_
  rw [d1, d2, Nat.mod_mod]
  have e4 : rs M h % 64 = 36 → rs M h % 64 / 8 % 8 = 4 ∧ rs M h % 64 % 8 = 4 := fun z => by rw [z]; exact ⟨rfl, rfl⟩
  rw [d1, d2] at e4
  generalize rs M h % 64 = r at e4 ⊢
  generalize th (h / 8 % 8) = x at *
  generalize th (h % 8) = y at *
  generalize M (h / 8 % 8) = u at *
  generalize M (h % 8) = v at *
  refine ⟨?_, ?_, ?_⟩
  · by_cases z : u < 4
    · rw [if_pos z]; exact Or.inr (c1 z)
    · rw [if_neg z]; exact Or.inl (Nat.le_refl _)
  · by_cases z : v < 4
    · rw [if_pos z]; exact Or.inr (c2 z)
    · rw [if_neg z]; refine Or.inl ?_; split <;> omega
  · by_cases z : r = 36
    · obtain ⟨k1, k2⟩ := e4 z
      refine Or.inr (e3 ?_)
      by_cases z1 : v < 4
      · rw [if_pos z1] at k2; omega
      · rw [if_neg z1] at k2
        by_cases z2 : u < 4
        · rw [if_pos z2] at k1; omega
        · by_cases z3 : u < 4 ∨ u = v
          · omega
          · rw [if_neg z3] at k2; omega
    · exact Or.inl z
theorem rs_s {M : Nat → Nat} {h a b : Nat} (hv : vl M) (hcL : cL M) (hi : ins (rs M h % 64) a b = true) : ∃ th, ths th ∧ rsp M th ∧ th (h / 8 % 8) = a ∧ th (h % 8) = b := by
  obtain ⟨-, d1, d2⟩ := rs_d (L := M) (h := h)
  obtain ⟨i1, i2, i3⟩ := ins_iff.mp hi
  rw [d1] at i1
  rw [d2] at i2
  rw [Nat.mod_mod] at i3
  refine ⟨fun t => if M t < 4 then M t else if M t = M (h / 8 % 8) then a else if M t = M (h % 8) then b else 0, fun c hc => ?_, fun t ht => ?_, ?_, ?_⟩
  · show (if M c < 4 then M c else _) = c
    rw [hcL c hc, if_pos hc]
  · show (if M t < 4 then M t else if M t = M (h / 8 % 8) then a else if M t = M (h % 8) then b else 0) = (if M (M t) < 4 then M (M t) else if M (M t) = M (h / 8 % 8) then a else if M (M t) = M (h % 8) then b else 0)
    rw [(hv t ht).2]
  · show (if M (h / 8 % 8) < 4 then M (h / 8 % 8) else if M (h / 8 % 8) = M (h / 8 % 8) then a else _) = a
    by_cases z : M (h / 8 % 8) < 4
    · rw [if_pos z]
      rw [if_pos z] at i1
      omega
    · rw [if_neg z, if_pos rfl]
  · show (if M (h % 8) < 4 then M (h % 8) else if M (h % 8) = M (h / 8 % 8) then a else if M (h % 8) = M (h % 8) then b else 0) = b
    by_cases z : M (h % 8) < 4
    · rw [if_pos z]
      rw [if_pos z] at i2
      omega
    · rw [if_neg z]
      by_cases z2 : M (h % 8) = M (h / 8 % 8)
      · rw [if_pos z2]
        have z3 : ¬ M (h / 8 % 8) < 4 := by rw [← z2]; exact z
        rw [if_neg z3] at d1
        rw [if_neg z, if_pos (Or.inr z2.symm)] at d2
        rcases i3 with k | k
        · omega
        · exact k
      · rw [if_neg z2, if_pos rfl]
/-! closed under the rules -/
def bod (C : Nat → Nat → Nat → Prop) (th : Nat → Nat) (x : Nat) : Prop := C (x / 64) (th (x / 8 % 8)) (th (x % 8))
def clo (q : Nat → Nat) (nr : Nat) (C : Nat → Nat → Nat → Prop) : Prop := ∀ i, i < nr → ∀ th, ths th → bod C th (q (3 * i + 1)) → (q (3 * i + 2) = 256 ∨ bod C th (q (3 * i + 2))) → bod C th (q (3 * i))
theorem all_stp {PP : Nat → Prop} {G : Nat → Bool} {lk : Option (Nat → Nat)} {h k : Nat} {X : XT} (hX : ∀ a, X.2.1 a = true → PP a) (hr : ∀ L, lk = some L → PP (rs L h)) : ∀ a, (stp G lk h k X).2.1 a = true → PP a := by
  cases lk with
  | none => exact hX
  | some L =>
    unfold stp
    simp only
    split
    · exact hX
    · split
      · exact hX
      · intro a ha
        simp only [zPut] at ha
        split at ha
        · rename_i e; rw [e]; exact hr L rfl
        · exact hX a ha
theorem all_in2 {PP : Nat → Prop} {F G : Nat → Bool} {L : Nat → Nat} {o h k : Nat} {X : XT} (hX : ∀ a, X.2.1 a = true → PP a) (hr : ∀ n, n < 38 → F (64 * (o / 64) + n) = true → ∀ M, al L o n 6 = some M → PP (rs M h)) (n : Nat) (hn : n ≤ 38) : ∀ a, (in2 F G L o h k n X).2.1 a = true → PP a := by
  induction n with
  | zero => exact hX
  | succ n ih =>
    rw [in2]
    split
    · rename_i z
      exact all_stp (ih (by omega)) (fun M e => hr n (by omega) z M e)
    · exact ih (by omega)
theorem all_pl {PP : Nat → Prop} {F G : Nat → Bool} {one o h k : Nat} {X : XT} (hX : ∀ a, X.2.1 a = true → PP a) (hr : ∀ n, n < 38 → F (64 * (one / 64) + n) = true → ∀ L, al idL one n 4 = some L → (o = 256 → PP (rs L h)) ∧ ∀ n2, n2 < 38 → o ≠ 256 → F (64 * (o / 64) + n2) = true → ∀ M, al L o n2 6 = some M → PP (rs M h)) (n : Nat) (hn : n ≤ 38) : ∀ a, (pl F G one o h k n X).2.1 a = true → PP a := by
  induction n with
  | zero => exact hX
  | succ n ih =>
    rw [pl]
    split
    · rename_i z
      split
      · exact ih (by omega)
      · rename_i L e
        split
        · rename_i z2
          exact all_stp (ih (by omega)) (fun L2 e2 => by cases Option.some.inj e2; exact (hr n (by omega) z L e).1 z2)
        · rename_i z2
          exact all_in2 (ih (by omega)) (fun n2 hn2 f2 M e2 => (hr n (by omega) z L e).2 n2 hn2 z2 f2 M e2) 38 (Nat.le_refl _)
    · exact ih (by omega)
theorem all_rus {PP : Nat → Prop} {F G : Nat → Bool} {q : Nat → Nat} {X : XT} (hX : ∀ a, X.2.1 a = true → PP a) (N : Nat) (hr : ∀ i, i < N → ∀ n, n < 38 → F (64 * (q (3 * i + 1) / 64) + n) = true → ∀ L, al idL (q (3 * i + 1)) n 4 = some L → (q (3 * i + 2) = 256 → PP (rs L (q (3 * i)))) ∧ ∀ n2, n2 < 38 → q (3 * i + 2) ≠ 256 → F (64 * (q (3 * i + 2) / 64) + n2) = true → ∀ M, al L (q (3 * i + 2)) n2 6 = some M → PP (rs M (q (3 * i)))) (m : Nat) (hm : m ≤ N) : ∀ a, (rus F G q m X).2.1 a = true → PP a := by
  induction m with
  | zero => exact hX
  | succ m ih =>
    rw [rus]
    exact all_pl (ih (by omega)) (hr m (by omega)) 38 (Nat.le_refl _)
theorem mem_stp {G : Nat → Bool} {lk : Option (Nat → Nat)} {h k : Nat} {X : XT} {a : Nat} (hX : X.2.1 a = true) : (stp G lk h k X).2.1 a = true := by
  cases lk with
  | none => exact hX
  | some L =>
    unfold stp
    simp only
    split
    · exact hX
    · split
      · exact hX
      · show zPut X.2.1 (rs L h) a = true
        unfold zPut
        split
        · rfl
        · exact hX
theorem new_stp {G : Nat → Bool} {L : Nat → Nat} {h k : Nat} {X : XT} : G (rs L h) = true ∨ (stp G (some L) h k X).2.1 (rs L h) = true := by
  unfold stp
  simp only
  split
  · rename_i z; exact Or.inl z
  · split
    · rename_i z; exact Or.inr z
    · refine Or.inr ?_
      show zPut X.2.1 (rs L h) (rs L h) = true
      unfold zPut
      rw [if_pos rfl]
theorem mem_in2 {F G : Nat → Bool} {L : Nat → Nat} {o h k : Nat} {X : XT} {a : Nat} (hX : X.2.1 a = true) (n : Nat) : (in2 F G L o h k n X).2.1 a = true := by
  induction n with
  | zero => exact hX
  | succ n ih =>
    rw [in2]
    split
    · exact mem_stp ih
    · exact ih
theorem new_in2 {F G : Nat → Bool} {L M : Nat → Nat} {o h k n2 : Nat} {X : XT} (f2 : F (64 * (o / 64) + n2) = true) (e : al L o n2 6 = some M) (n : Nat) (hn : n2 < n) : G (rs M h) = true ∨ (in2 F G L o h k n X).2.1 (rs M h) = true := by
  induction n with
  | zero => exact absurd hn (Nat.not_lt_zero _)
  | succ n ih =>
    rw [in2]
    by_cases z : n2 = n
    · subst z
      rw [if_pos f2, e]
      exact new_stp
    · rcases ih (by omega) with k1 | k1
      · exact Or.inl k1
      · refine Or.inr ?_
        split
        · exact mem_stp k1
        · exact k1
theorem mem_pl {F G : Nat → Bool} {one o h k : Nat} {X : XT} {a : Nat} (hX : X.2.1 a = true) (n : Nat) : (pl F G one o h k n X).2.1 a = true := by
  induction n with
  | zero => exact hX
  | succ n ih =>
    rw [pl]
    split
    · split
      · exact ih
      · split
        · exact mem_stp ih
        · exact mem_in2 ih 38
    · exact ih
theorem new_pl {F G : Nat → Bool} {one o h k n1 : Nat} {X : XT} {L : Nat → Nat} (f1 : F (64 * (one / 64) + n1) = true) (e1 : al idL one n1 4 = some L) (n : Nat) (hn : n1 < n) : (o = 256 → G (rs L h) = true ∨ (pl F G one o h k n X).2.1 (rs L h) = true) ∧ ∀ n2 M, n2 < 38 → o ≠ 256 → F (64 * (o / 64) + n2) = true → al L o n2 6 = some M → G (rs M h) = true ∨ (pl F G one o h k n X).2.1 (rs M h) = true := by
  induction n with
  | zero => exact absurd hn (Nat.not_lt_zero _)
  | succ n ih =>
    by_cases z : n1 = n
    · subst z
      rw [pl, if_pos f1, e1]
      refine ⟨fun ho => ?_, fun n2 M h2 ho f2 e2 => ?_⟩
      · simp only [if_pos ho]
        exact new_stp
      · simp only [if_neg ho]
        exact new_in2 f2 e2 38 h2
    · obtain ⟨i1, i2⟩ := ih (by omega)
      have up : ∀ a, (pl F G one o h k n X).2.1 a = true → (pl F G one o h k (n + 1) X).2.1 a = true := by
        intro a ha
        rw [pl]
        split
        · split
          · exact ha
          · split
            · exact mem_stp ha
            · exact mem_in2 ha 38
        · exact ha
      exact ⟨fun ho => (i1 ho).imp id (up _), fun n2 M h2 ho f2 e2 => (i2 n2 M h2 ho f2 e2).imp id (up _)⟩
theorem mem_rus {F G : Nat → Bool} {q : Nat → Nat} {X : XT} {a : Nat} (m n : Nat) (h : (rus F G q m X).2.1 a = true) : (rus F G q (m + n) X).2.1 a = true := by
  induction n with
  | zero => exact h
  | succ n ih =>
    rw [← Nat.add_assoc, rus]
    exact mem_pl ih 38
theorem new_rus {F G : Nat → Bool} {q : Nat → Nat} {X : XT} {i n1 N : Nat} {L : Nat → Nat} (hi : i < N) (h1 : n1 < 38) (f1 : F (64 * (q (3 * i + 1) / 64) + n1) = true) (e1 : al idL (q (3 * i + 1)) n1 4 = some L) : (q (3 * i + 2) = 256 → G (rs L (q (3 * i))) = true ∨ (rus F G q N X).2.1 (rs L (q (3 * i))) = true) ∧ ∀ n2 M, n2 < 38 → q (3 * i + 2) ≠ 256 → F (64 * (q (3 * i + 2) / 64) + n2) = true → al L (q (3 * i + 2)) n2 6 = some M → G (rs M (q (3 * i))) = true ∨ (rus F G q N X).2.1 (rs M (q (3 * i))) = true := by
  obtain ⟨j, rfl⟩ : ∃ j, N = (i + 1) + j := ⟨N - (i + 1), by omega⟩
  obtain ⟨i1, i2⟩ := new_pl (G := G) (o := q (3 * i + 2)) (h := q (3 * i)) (k := i) (X := rus F G q i X) f1 e1 38 h1
  have up : ∀ a, (pl F G (q (3 * i + 1)) (q (3 * i + 2)) (q (3 * i)) i 38 (rus F G q i X)).2.1 a = true → (rus F G q ((i + 1) + j) X).2.1 a = true := fun a ha => mem_rus (i + 1) j (by rw [rus]; exact ha)
  exact ⟨fun ho => (i1 ho).imp id (up _), fun n2 M h2 ho f2 e2 => (i2 n2 M h2 ho f2 e2).imp id (up _)⟩
theorem cL_id : cL idL := fun _ _ => rfl
theorem rsp_id (th : Nat → Nat) : rsp idL th := fun _ _ => rfl
/-- what a round finds is said by every closed set that says the facts ahead of it -/
theorem rX_sound {q : Nat → Nat} {nr : Nat} {F : Nat → Bool} {mt : Nat} {C : Nat → Nat → Nat → Prop} (hF : okF F) (hC : clo q nr C) (hg : ∀ p a b, gr F p a b → C p a b) : ∀ r, (rX q nr F mt).2.1 r = true → ∀ a b, ins (r % 64) a b = true → C (r / 64) a b := by
  refine all_rus (PP := fun r => ∀ a b, ins (r % 64) a b = true → C (r / 64) a b) (fun a h => by cases h) nr (fun i hi n hn f1 L e1 => ?_) nr (Nat.le_refl _)
  have g1 := (hF _ f1).1
  rw [isF_m _ _ (by omega)] at g1
  obtain ⟨o1, o2⟩ := own_l (ap := 4) g1 (by decide)
  have hv1 : vl L := vl_al vl_id o1 o2 e1
  have hc1 : cL L := al_c cL_id e1
  refine ⟨fun ho a b hi2 => ?_, fun n2 hn2 ho f2 M e2 a b hi2 => ?_⟩
  · obtain ⟨th, t1, t2, t3, t4⟩ := rs_s hv1 hc1 hi2
    obtain ⟨-, s1, s2⟩ := al_s vl_id o1 o2 e1 t2
    have hb := hC i hi th t1 (hg _ _ _ ⟨n, by omega, f1, own_s t1 s1 s2⟩) (Or.inl ho)
    unfold bod at hb
    rw [t3, t4] at hb
    rw [rs_d.1]
    exact hb
  · have g2 := (hF _ f2).1
    rw [isF_m _ _ (by omega)] at g2
    obtain ⟨p1, p2⟩ := own_l (ap := 6) g2 (by decide)
    obtain ⟨th, t1, t2, t3, t4⟩ := rs_s (vl_al hv1 p1 p2 e2) (al_c hc1 e2) hi2
    obtain ⟨r1, r2, r3⟩ := al_s hv1 p1 p2 e2 t2
    obtain ⟨-, s1, s2⟩ := al_s vl_id o1 o2 e1 r1
    have hb := hC i hi th t1 (hg _ _ _ ⟨n, by omega, f1, own_s t1 s1 s2⟩) (Or.inr (hg _ _ _ ⟨n2, by omega, f2, own_s t1 r2 r3⟩))
    unfold bod at hb
    rw [t3, t4] at hb
    rw [rs_d.1]
    exact hb
/-- where a round finds nothing new, what is found is closed -/
theorem rX_closed {q : Nat → Nat} {nr : Nat} {F : Nat → Bool} {mt : Nat} (hq : okQ q nr) (hF : okF F) (h0 : zcnt (rX q nr F mt).2.1 256 = 0) : clo q nr (gr F) := by
  intro i hi th hth b1 b2
  obtain ⟨w1, hw1, f1, i1⟩ := b1
  have g1 := (hF _ f1).1
  rw [isF_m _ _ hw1] at g1
  have hn1 : w1 < 38 := Nat.lt_of_not_le (fun z => by have := F38 hF (p := q (3 * i + 1) / 64) z hw1; rw [this] at f1; cases f1)
  obtain ⟨o1, o2⟩ := own_l (ap := 4) g1 (by decide)
  have hh := (hq.2 i hi).1
  have fin2 : ∀ (M ph : Nat → Nat), ths ph → rsp M ph → (∀ t, t < 8 → ph t = th t) → (foll F (rs M (q (3 * i))) = true ∨ (rX q nr F mt).2.1 (rs M (q (3 * i))) = true) → bod (gr F) th (q (3 * i)) := by
    intro M ph c1 c2 c3 c4
    have c5 : foll F (rs M (q (3 * i))) = true := by
      rcases c4 with z | z
      · exact z
      · exact absurd ((zcnt_zero.mp h0 _ (rs_lt hh)).symm.trans z) (by decide)
    have c6 := gr_of c5 (rs_t (h := q (3 * i)) c1 c2)
    rw [rs_d.1, c3 _ (by omega), c3 _ (by omega)] at c6
    exact c6
  by_cases ho : q (3 * i + 2) = 256
  · have hx : ths (xt th w1 (th (q (3 * i + 1) / 8 % 8)) (th (q (3 * i + 1) % 8)) 0 0 0) := xt_c hth
    obtain ⟨L, e1, r1⟩ := al_t (part := q (3 * i + 1)) (w := w1) (ap := 4) vl_id hx o1 o2 (rsp_id _) (by rw [xt_1 hth g1 i1, xt_8 (by omega)]) (by rw [xt_2 hth g1 i1, xt_8 (by omega)])
    exact fin2 L _ hx r1 (fun t ht => xt_8 ht) ((new_rus hi hn1 f1 e1).1 ho)
  · obtain ⟨w2, hw2, f2, i2⟩ := b2.resolve_left ho
    have g2 := (hF _ f2).1
    rw [isF_m _ _ hw2] at g2
    have hn2 : w2 < 38 := Nat.lt_of_not_le (fun z => by have := F38 hF (p := q (3 * i + 2) / 64) z hw2; rw [this] at f2; cases f2)
    obtain ⟨p1, p2⟩ := own_l (ap := 6) g2 (by decide)
    have hx : ths (xt th w1 (th (q (3 * i + 1) / 8 % 8)) (th (q (3 * i + 1) % 8)) w2 (th (q (3 * i + 2) / 8 % 8)) (th (q (3 * i + 2) % 8))) := xt_c hth
    obtain ⟨L, e1, r1⟩ := al_t (part := q (3 * i + 1)) (w := w1) (ap := 4) vl_id hx o1 o2 (rsp_id _) (by rw [xt_1 hth g1 i1, xt_8 (by omega)]) (by rw [xt_2 hth g1 i1, xt_8 (by omega)])
    obtain ⟨M, e2, r2⟩ := al_t (part := q (3 * i + 2)) (w := w2) (ap := 6) (vl_al vl_id o1 o2 e1) hx p1 p2 r1 (by rw [xt_3 hth g2 i2, xt_8 (by omega)]) (by rw [xt_4 hth g2 i2, xt_8 (by omega)])
    exact fin2 M _ hx r2 (fun t ht => xt_8 ht) ((new_rus hi hn1 f1 e1).2 w2 M hn2 ho f2 e2)
theorem srch_sound {q : Nat → Nat} {nr : Nat} (hq : okQ q nr) {C : Nat → Nat → Nat → Prop} (hC : clo q nr C) (n : Nat) : ∀ {Z : ZT}, okF (zF Z) → (∀ p a b, gr (zF Z) p a b → C p a b) → ∀ p a b, gr (zF (srch q nr n Z)) p a b → C p a b := by
  induction n with
  | zero => exact fun _ h => h
  | succ n ih =>
    intro Z hF h
    by_cases z : zcnt (rX q nr (zF Z) (zMt Z)).2.1 256 = 0
    · rw [srch_t z]
      exact h
    · rw [srch_f z]
      refine ih (okF_drp (okF_or hF (rX_ok hq _ _))) (fun p a b g => ?_)
      obtain ⟨w, hw, h1, h2⟩ := g
      have h3 : (zF Z (64 * p + w) || (rX q nr (zF Z) (zMt Z)).2.1 (64 * p + w)) = true := by
        have h4 : (nx2 q nr Z (64 * p + w) && !wk (nx2 q nr Z) (64 * p + w)) = true := h1
        rw [Bool.and_eq_true] at h4
        exact h4.1
      rw [Bool.or_eq_true] at h3
      rcases h3 with k | k
      · exact h p a b ⟨w, hw, k, h2⟩
      · have := rX_sound (mt := zMt Z) hF hC h _ k a b (by rw [show (64 * p + w) % 64 = w by omega]; exact h2)
        rw [show (64 * p + w) / 64 = p by omega] at this
        exact this
theorem fnd_least {q : Nat → Nat} {nr : Nat} (hq : okQ q nr) {T : Nat → Bool} (hT : okF T) {sz : Nat → Int32} {C : Nat → Nat → Nat → Prop} (hC : clo q nr C) (h : ∀ p a b, gr T p a b → C p a b) : ∀ p a b, gr (zF (fnd q nr T sz)) p a b → C p a b := by
  refine srch_sound hq hC 104 (Z := z0 T sz) (okF_drp hT) (fun p a b g => ?_)
  obtain ⟨w, hw, h1, h2⟩ := g
  have h4 : (T (64 * p + w) && !wk T (64 * p + w)) = true := h1
  rw [Bool.and_eq_true] at h4
  exact h p a b ⟨w, hw, h4.1, h2⟩
theorem fnd_clo {q : Nat → Nat} {nr : Nat} (hq : okQ q nr) {T : Nat → Bool} (hT : okF T) (sz : Nat → Int32) : clo q nr (gr (zF (fnd q nr T sz))) := rX_closed (mt := 0) hq (fnd_ok hq hT sz).1 (fnd_end hq hT sz)
/-- what is found grows with the told facts and with the rules -/
theorem fnd_mono {q q2 : Nat → Nat} {nr n2 : Nat} {T T2 : Nat → Bool} (hq : okQ q nr) (hT : okF T) (hq2 : okQ q2 n2) (hT2 : okF T2) (hc : ∀ C, clo q2 n2 C → clo q nr C) (hTT : ∀ a, T a = true → foll (zF (fn0 q2 n2 T2)) a = true) : ∀ a, foll (zF (fn0 q nr T)) a = true → foll (zF (fn0 q2 n2 T2)) a = true := by
  intro a ha
  have k1 := (fnd_ok hq hT (fun _ => 0)).1
  have k2 := (fnd_ok hq2 hT2 (fun _ => 0)).1
  have hlt : a < 256 := by
    rcases foll_iff.mp ha with z | z
    · exact (k1 a z).2
    · obtain ⟨o, -, h1, -⟩ := wk_iff.mp z
      have := (k1 _ h1).2
      omega
  have hf := foll_F k1 ha hlt
  refine (foll_gr k2 hf).mpr ?_
  exact fnd_least hq hT (hc _ (fnd_clo hq2 hT2 _)) (fun p x y g => gr_foll hTT g) _ _ _ ((foll_gr k1 hf).mp ha)
theorem ins_grow {q q2 : Nat → Nat} {nr n2 : Nat} {T T2 : Nat → Bool} (hq : okQ q nr) (hT : okF T) (hq2 : okQ q2 n2) (hT2 : okF T2) (hc : ∀ C, clo q2 n2 C → clo q nr C) (hTT : ∀ a, T a = true → foll (zF (fn0 q2 n2 T2)) a = true) : insU (zF (fn0 q nr T)) 4 ≤ insU (zF (fn0 q2 n2 T2)) 4 :=
  insU_mono (fnd_ok hq hT _).1 (fnd_ok hq2 hT2 _).1 (fnd_mono hq hT hq2 hT2 hc hTT)
theorem clo_aR {q : Nat → Nat} {nr h a b : Nat} {C : Nat → Nat → Nat → Prop} (hC : clo (aR q nr h a b) (nr + 1) C) : clo q nr C := by
  intro i hi th hth b1 b2
  have e : ∀ j, j < 3 * nr → aR q nr h a b j = q j := fun j hj => by
    unfold aR
    rw [if_neg (by omega), if_neg (by omega), if_neg (by omega)]
  have := hC i (by omega) th hth
  rw [e (3 * i + 1) (by omega), e (3 * i + 2) (by omega), e (3 * i) (by omega)] at this
  exact this b1 b2
theorem clo_dRi {q : Nat → Nat} {nr r : Nat} {C : Nat → Nat → Nat → Prop} (hr : r < nr) (h6 : nr ≤ 6) (hC : clo q nr C) : clo (dRi q r 15) (nr - 1) C := by
  intro i hi th hth b1 b2
  by_cases z : i < r
  · have e : ∀ j, j < 3 * r → dRi q r 15 j = q j := fun j hj => by
      unfold dRi
      rw [if_neg (by omega)]
    rw [e (3 * i + 1) (by omega)] at b1
    rw [e (3 * i + 2) (by omega)] at b2
    rw [e (3 * i) (by omega)]
    exact hC i (by omega) th hth b1 b2
  · have e : ∀ j, 3 * r ≤ j → j < 15 → dRi q r 15 j = q (j + 3) := fun j h1 h2 => by
      unfold dRi
      rw [if_pos ⟨h1, h2⟩]
    rw [e (3 * i + 1) (by omega) (by omega), show 3 * i + 1 + 3 = 3 * (i + 1) + 1 by omega] at b1
    rw [e (3 * i + 2) (by omega) (by omega), show 3 * i + 2 + 3 = 3 * (i + 1) + 2 by omega] at b2
    rw [e (3 * i) (by omega) (by omega), show 3 * i + 3 = 3 * (i + 1) by omega]
    exact hC (i + 1) (by omega) th hth b1 b2
/-- told facts that are what is found: nothing more follows, nothing less -/
theorem ins_settle {q : Nat → Nat} {nr : Nat} {T : Nat → Bool} (hq : okQ q nr) (hT : okF T) : insU (zF (fn0 q nr (zF (fn0 q nr T)))) 4 = insU (zF (fn0 q nr T)) 4 := by
  have k1 := fnd_ok hq hT (fun _ => 0)
  have k2 := fnd_ok hq k1.1 (fun _ => 0)
  refine Nat.le_antisymm (ins_grow hq k1.1 hq hT (fun _ h => h) (fun a h => foll_iff.mpr (Or.inl h))) (ins_grow hq hT hq k1.1 (fun _ h => h) (fun a h => ?_))
  exact k2.2.2 a (k1.2.2 a (foll_iff.mpr (Or.inl h)))
