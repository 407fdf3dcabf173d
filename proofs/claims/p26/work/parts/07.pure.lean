/-! numbers, bits, sets of facts -/
def zcnt (p : Nat → Bool) : Nat → Nat
  | 0 => 0
  | n + 1 => zcnt p n + (if p n then 1 else 0)
def zany (p : Nat → Bool) : Nat → Bool
  | 0 => false
  | n + 1 => zany p n || p n
def zmsk (p : Nat → Bool) : Nat → Nat
  | 0 => 0
  | n + 1 => zmsk p n + (if p n then 2 ^ n else 0)
theorem zany_iff {p : Nat → Bool} {n : Nat} : zany p n = true ↔ ∃ i, i < n ∧ p i = true := by
  induction n with
  | zero => simp [zany]
  | succ n ih =>
    simp only [zany, Bool.or_eq_true, ih]
    constructor
    · rintro (⟨i, h1, h2⟩ | h)
      · exact ⟨i, by omega, h2⟩
      · exact ⟨n, by omega, h⟩
    · rintro ⟨i, h1, h2⟩
      by_cases h : i = n
      · exact Or.inr (h ▸ h2)
      · exact Or.inl ⟨i, by omega, h2⟩
theorem zany_congr {p q : Nat → Bool} {n : Nat} (h : ∀ i, i < n → p i = q i) : zany p n = zany q n := by
  induction n with
  | zero => rfl
  | succ n ih => rw [zany, zany, ih (fun i hi => h i (by omega)), h n (by omega)]
theorem zcnt_congr {p q : Nat → Bool} {n : Nat} (h : ∀ i, i < n → p i = q i) : zcnt p n = zcnt q n := by
  induction n with
  | zero => rfl
  | succ n ih => rw [zcnt, zcnt, ih (fun i hi => h i (by omega)), h n (by omega)]
theorem zmsk_congr {p q : Nat → Bool} {n : Nat} (h : ∀ i, i < n → p i = q i) : zmsk p n = zmsk q n := by
  induction n with
  | zero => rfl
  | succ n ih => rw [zmsk, zmsk, ih (fun i hi => h i (by omega)), h n (by omega)]
theorem zcnt_le (p : Nat → Bool) (n : Nat) : zcnt p n ≤ n := by
  induction n with
  | zero => exact Nat.le_refl _
  | succ n ih => rw [zcnt]; split <;> omega
theorem zcnt_mono (p : Nat → Bool) {m n : Nat} (h : m ≤ n) : zcnt p m ≤ zcnt p n := by
  induction n with
  | zero => rw [show m = 0 by omega]; exact Nat.le_refl _
  | succ n ih =>
    by_cases hm : m = n + 1
    · rw [hm]; exact Nat.le_refl _
    · rw [zcnt]; exact Nat.le_trans (ih (by omega)) (Nat.le_add_right _ _)
theorem zcnt_split (p : Nat → Bool) (m n : Nat) : zcnt p (m + n) = zcnt p m + zcnt (fun k => p (m + k)) n := by
  induction n with
  | zero => rfl
  | succ n ih => rw [← Nat.add_assoc, zcnt, ih, zcnt]; omega
theorem zcnt_sub {p q : Nat → Bool} {n : Nat} (h : ∀ k, k < n → p k = true → q k = true) : zcnt p n ≤ zcnt q n := by
  induction n with
  | zero => exact Nat.le_refl _
  | succ n ih =>
    have h1 := ih (fun k hk => h k (by omega))
    have h2 := h n (by omega)
    rw [zcnt, zcnt]
    cases hp : p n <;> simp_all <;> omega
theorem zcnt_lt {p q : Nat → Bool} {n i : Nat} (h : ∀ k, k < n → p k = true → q k = true) (hi : i < n) (hp : p i = false) (hq : q i = true) : zcnt p n < zcnt q n := by
  induction n with
  | zero => exact absurd hi (Nat.not_lt_zero _)
  | succ n ih =>
    have h2 := h n (by omega)
    rw [zcnt, zcnt]
    by_cases hin : i = n
    · subst hin
      have h1 := zcnt_sub (p := p) (q := q) (n := i) (fun k hk => h k (by omega))
      simp [hp, hq]; omega
    · have h1 := ih (fun k hk => h k (by omega)) (by omega)
      cases hpn : p n <;> simp_all <;> omega
theorem zcnt_pos {p : Nat → Bool} {n : Nat} : 0 < zcnt p n ↔ ∃ k, k < n ∧ p k = true := by
  induction n with
  | zero => simp [zcnt]
  | succ n ih =>
    rw [zcnt]
    constructor
    · intro h
      by_cases hp : p n = true
      · exact ⟨n, by omega, hp⟩
      · simp [hp] at h
        obtain ⟨k, h1, h2⟩ := ih.mp h
        exact ⟨k, by omega, h2⟩
    · rintro ⟨k, h1, h2⟩
      by_cases hk : k = n
      · subst hk; simp [h2]
      · have := ih.mpr ⟨k, by omega, h2⟩
        omega
theorem zcnt_zero {p : Nat → Bool} {n : Nat} : zcnt p n = 0 ↔ ∀ k, k < n → p k = false := by
  have h := zcnt_pos (p := p) (n := n)
  constructor
  · intro h0 k hk
    cases hp : p k with
    | false => rfl
    | true => have := h.mpr ⟨k, hk, hp⟩; omega
  · intro h0
    rcases Nat.eq_zero_or_pos (zcnt p n) with q | q
    · exact q
    · obtain ⟨k, h1, h2⟩ := h.mp q
      rw [h0 k h1] at h2; cases h2
theorem zmsk_lt (p : Nat → Bool) (n : Nat) : zmsk p n < 2 ^ n := by
  induction n with
  | zero => exact Nat.one_pos
  | succ n ih => rw [zmsk, Nat.pow_succ]; split <;> omega
theorem zmsk_tb (p : Nat → Bool) (n i : Nat) : (zmsk p n).testBit i = (decide (i < n) && p i) := by
  induction n with
  | zero => simp [zmsk]
  | succ n ih =>
    have hl := zmsk_lt p n
    rw [zmsk]
    cases hp : p n with
    | false =>
      simp only [Bool.false_eq_true, if_false, Nat.add_zero, ih]
      by_cases h : i = n
      · subst h; simp [hp]
      · by_cases h2 : i < n <;> simp [h2] <;> intro h3 <;> omega
    | true =>
      simp only [if_true]
      rw [Nat.add_comm, ]
      by_cases h : i = n
      · subst h; rw [Nat.testBit_two_pow_add_eq, ih]; simp [hp]
      · by_cases h2 : i < n
        · rw [Nat.testBit_two_pow_add_gt h2, ih]; simp [h2]; omega
        · rw [Nat.testBit_lt_two_pow (Nat.lt_of_lt_of_le (show 2 ^ n + zmsk p n < 2 ^ (n + 1) by rw [Nat.pow_succ]; omega) (Nat.pow_le_pow_right (by omega) (by omega)))]
          simp; omega
theorem znat_ext {a b : Nat} (h : ∀ i, a.testBit i = b.testBit i) : a = b := Nat.eq_of_testBit_eq h
/-! from the kit's laws for bits (BITS.to-paste): longs by their numbers -/
theorem wb_tb (n : Nat) : (lN n).toBitVec = BitVec.ofNat 64 n := rfl
theorem wb_inj {a b : Int64} (h : a.toBitVec = b.toBitVec) : a = b := Int64.toBitVec_inj.mp h
theorem wb_tn {n : Nat} (h : n < 2 ^ 64) : (lN n).toBitVec.toNat = n := by rw [wb_tb, BitVec.toNat_ofNat, Nat.mod_eq_of_lt h]
theorem wb_of (x : Int64) : ∃ n, n < 2 ^ 64 ∧ x = lN n := ⟨x.toBitVec.toNat, x.toBitVec.isLt, wb_inj (by rw [wb_tb]; simp)⟩
theorem wb_of32 (x : Int32) : ∃ n, n < 2 ^ 32 ∧ x = nI n := ⟨x.toBitVec.toNat, x.toBitVec.isLt, Int32.toBitVec_inj.mp (by show _ = BitVec.ofNat 32 _; simp)⟩
theorem wb_c : ∀ k, k < 64 → ((nI k).toInt64 &&& 63) = lN k := by decide +kernel
theorem wb_cu : ∀ k, k < 64 → ((nI k).toInt64.toUInt64 &&& Int64.toUInt64 63) = UInt64.ofNat k := by decide +kernel
theorem wb_sm : ∀ k, k < 64 → (BitVec.ofNat 64 k).smod 64 = BitVec.ofNat 64 k := by decide +kernel
theorem wb_pw {a b : Nat} (h : a ≤ b) : 2 ^ b = 2 ^ a * 2 ^ (b - a) := by rw [← Nat.pow_add]; congr 1; omega
theorem wb_lt2 {a b : Nat} (h : a < b) : 2 ^ a < 2 ^ b := Nat.pow_lt_pow_right (by decide) h
theorem wb_mod (n : Nat) : lN n = lN (n % 2 ^ 64) := wb_inj (by rw [wb_tb, wb_tb]; apply BitVec.eq_of_toNat_eq; rw [BitVec.toNat_ofNat, BitVec.toNat_ofNat, Nat.mod_mod])
theorem wb_shr {n k : Nat} (hn : n < 2 ^ 64) (hk : k < 64) : ((lN n).toUInt64 >>> ((nI k).toInt64.toUInt64 &&& Int64.toUInt64 63)).toInt64 = lN (n / 2 ^ k) := by
  rw [wb_cu k hk]
  apply wb_inj
  apply BitVec.eq_of_toNat_eq
  show ((lN n).toUInt64 >>> UInt64.ofNat k).toNat = (BitVec.ofNat 64 _).toNat
  have h1 : (UInt64.ofNat k).toNat = k := by
    show (BitVec.ofNat 64 k).toNat = k
    rw [BitVec.toNat_ofNat, Nat.mod_eq_of_lt (by omega)]
  have h2 : (lN n).toUInt64.toNat = n := wb_tn hn
  rw [UInt64.toNat_shiftRight, h1, h2, Nat.mod_eq_of_lt hk, Nat.shiftRight_eq_div_pow, BitVec.toNat_ofNat, Nat.mod_eq_of_lt (Nat.lt_of_le_of_lt (Nat.div_le_self _ _) hn)]
theorem wb_shl (n : Nat) {k : Nat} (hk : k < 64) : lN n <<< ((nI k).toInt64 &&& 63) = lN (n * 2 ^ k) := by
  rw [wb_c k hk]
  apply wb_inj
  rw [Int64.toBitVec_shiftLeft, wb_tb, wb_tb, wb_tb, wb_sm k hk]
  apply BitVec.eq_of_toNat_eq
  rw [BitVec.shiftLeft_eq', BitVec.toNat_shiftLeft, BitVec.toNat_ofNat, BitVec.toNat_ofNat, BitVec.toNat_ofNat, Nat.mod_eq_of_lt (show k < 2 ^ 64 by omega), Nat.shiftLeft_eq, Nat.mul_mod, Nat.mod_mod, ← Nat.mul_mod]
theorem wb_and {a b : Nat} (ha : a < 2 ^ 64) (hb : b < 2 ^ 64) : lN a &&& lN b = lN (a &&& b) := by
  apply wb_inj
  rw [Int64.toBitVec_and, wb_tb, wb_tb, wb_tb]
  apply BitVec.eq_of_toNat_eq
  rw [BitVec.toNat_and, BitVec.toNat_ofNat, BitVec.toNat_ofNat, BitVec.toNat_ofNat, Nat.mod_eq_of_lt ha, Nat.mod_eq_of_lt hb, Nat.mod_eq_of_lt (Nat.and_lt_two_pow _ hb)]
theorem wb_or {a b : Nat} (ha : a < 2 ^ 64) (hb : b < 2 ^ 64) : lN a ||| lN b = lN (a ||| b) := by
  apply wb_inj
  rw [Int64.toBitVec_or, wb_tb, wb_tb, wb_tb]
  apply BitVec.eq_of_toNat_eq
  rw [BitVec.toNat_or, BitVec.toNat_ofNat, BitVec.toNat_ofNat, BitVec.toNat_ofNat, Nat.mod_eq_of_lt ha, Nat.mod_eq_of_lt hb, Nat.mod_eq_of_lt (Nat.or_lt_two_pow ha hb)]
theorem wb_mask {n k : Nat} (hn : n < 2 ^ 64) (hk : k < 64) : lN n &&& lN (2 ^ k - 1) = lN (n % 2 ^ k) := by
  rw [wb_and hn (by have := wb_lt2 hk; omega), Nat.and_two_pow_sub_one_eq_mod]
theorem wb_a1 {n : Nat} (hn : n < 2 ^ 64) : lN n &&& 1 = lN (n % 2) := wb_mask (k := 1) hn (by decide)
theorem wb_bit {n k : Nat} (hn : n < 2 ^ 64) (hk : k < 64) : ((lN n).toUInt64 >>> ((nI k).toInt64.toUInt64 &&& Int64.toUInt64 63)).toInt64 &&& 1 = lN (n / 2 ^ k % 2) := by
  rw [wb_shr hn hk, wb_a1 (Nat.lt_of_le_of_lt (Nat.div_le_self _ _) hn)]
/-! sets of facts as masks -/
def zM (S : Nat → Bool) (p : Nat) : Int64 := lN (zmsk (fun i => S (64 * p + i)) 64)
def zPut (S : Nat → Bool) (a : Nat) : Nat → Bool := fun j => if j = a then true else S j
def zTake (S : Nat → Bool) (a : Nat) : Nat → Bool := fun j => if j = a then false else S j
def zOr (S T : Nat → Bool) : Nat → Bool := fun j => S j || T j
def zNo : Nat → Bool := fun _ => false
theorem zM_congr {S T : Nat → Bool} {p : Nat} (h : ∀ i, i < 64 → S (64 * p + i) = T (64 * p + i)) : zM S p = zM T p := congrArg lN (zmsk_congr h)
theorem zM_no (p : Nat) : zM zNo p = lN 0 := by
  have : zmsk (fun i => zNo (64 * p + i)) 64 = 0 := by
    apply znat_ext; intro i; rw [zmsk_tb]; simp [zNo]
  rw [zM, this]
theorem z_tbdiv (x k : Nat) : x / 2 ^ k % 2 = if x.testBit k then 1 else 0 := by
  rw [Nat.testBit_eq_decide_div_mod_eq]
  by_cases h : x / 2 ^ k % 2 = 1
  · simp [h]
  · have : x / 2 ^ k % 2 = 0 := by omega
    simp [this]
theorem lg_cmp0 (n : Nat) (h : n < 2) : lg_cmp (lN n) (lN 0) = bI (n == 1) := by
  rcases (show n = 0 ∨ n = 1 by omega) with rfl | rfl <;> decide +kernel
theorem zM_has (S : Nat → Bool) (a : Nat) {p k : Nat} (hp : p = a / 64) (hk : k = a % 64) : lg_cmp (((zM S p).toUInt64 >>> ((nI k).toInt64.toUInt64 &&& Int64.toUInt64 63)).toInt64 &&& lN 1) (lN 0) = bI (S a) := by
  subst hp; subst hk
  have hlt := zmsk_lt (fun i => S (64 * (a / 64) + i)) 64
  have := wb_bit (n := zmsk (fun i => S (64 * (a / 64) + i)) 64) (k := a % 64) hlt (by omega)
  rw [zM, show (lN 1 : Int64) = 1 from rfl, this, z_tbdiv, zmsk_tb]
  have e : 64 * (a / 64) + a % 64 = a := by omega
  rw [show (decide (a % 64 < 64) && S (64 * (a / 64) + a % 64)) = S a by rw [e]; simp; intro _; omega]
  cases S a <;> decide +kernel
theorem zM_bit (k : Nat) (hk : k < 64) : (lN 1) <<< ((nI k).toInt64 &&& 63) = lN (2 ^ k) := by rw [wb_shl 1 hk, Nat.one_mul]
theorem z_pow64 {k : Nat} (hk : k < 64) : 2 ^ k < 2 ^ 64 := Nat.pow_lt_pow_right (by decide) hk
theorem zM_put (S : Nat → Bool) (a : Nat) {p k : Nat} (hp : p = a / 64) (hk : k = a % 64) : vp_updL (zM S) p (zM S p ||| ((lN 1) <<< ((nI k).toInt64 &&& 63))) = zM (zPut S a) := by
  subst hp; subst hk
  funext q
  have hk : a % 64 < 64 := by omega
  rw [zM_bit _ hk]
  unfold vp_updL
  by_cases hq : q = a / 64
  · subst hq
    rw [if_pos rfl, zM, wb_or (zmsk_lt _ 64) (z_pow64 hk), zM]
    congr 1
    apply znat_ext; intro i
    rw [Nat.testBit_or, zmsk_tb, zmsk_tb, Nat.testBit_two_pow]
    unfold zPut
    by_cases h : i < 64
    · by_cases h2 : a % 64 = i
      · simp [h, h2, show 64 * (a / 64) + i = a by omega]
      · simp [h, h2, show ¬ 64 * (a / 64) + i = a by omega]
    · simp [h, show ¬ a % 64 = i by omega]
  · rw [if_neg hq]
    exact zM_congr (fun i hi => by unfold zPut; rw [if_neg (by omega)])
theorem zM_take (S : Nat → Bool) (a : Nat) {p k : Nat} (hp : p = a / 64) (hk : k = a % 64) : vp_updL (zM S) p (zM S p &&& (((lN 1) <<< ((nI k).toInt64 &&& 63)) ^^^ (-1))) = zM (zTake S a) := by
  subst hp; subst hk
  funext q
  have hk : a % 64 < 64 := by omega
  rw [zM_bit _ hk]
  have hx : lN (2 ^ (a % 64)) ^^^ (-1) = lN ((2 ^ 64 - 1) ^^^ 2 ^ (a % 64)) := by
    apply wb_inj
    rw [Int64.toBitVec_xor, wb_tb, wb_tb]
    apply BitVec.eq_of_toNat_eq
    rw [BitVec.toNat_xor, BitVec.toNat_ofNat, BitVec.toNat_ofNat, Nat.mod_eq_of_lt (z_pow64 hk), Nat.mod_eq_of_lt (Nat.xor_lt_two_pow (by decide) (z_pow64 hk)), Nat.xor_comm]
    rfl
  have hb : (2 ^ 64 - 1) ^^^ 2 ^ (a % 64) < 2 ^ 64 := Nat.xor_lt_two_pow (by decide) (z_pow64 hk)
  unfold vp_updL
  by_cases hq : q = a / 64
  · subst hq
    rw [if_pos rfl, hx, zM, wb_and (zmsk_lt _ 64) hb, zM]
    congr 1
    apply znat_ext; intro i
    rw [Nat.testBit_and, zmsk_tb, zmsk_tb, Nat.testBit_xor, Nat.testBit_two_pow_sub_one, Nat.testBit_two_pow]
    unfold zTake
    by_cases h : i < 64
    · by_cases h2 : a % 64 = i
      · simp [h, h2, show 64 * (a / 64) + i = a by omega]
      · simp [h, h2, show ¬ 64 * (a / 64) + i = a by omega]
    · simp [h]
  · rw [if_neg hq]
    exact zM_congr (fun i hi => by unfold zTake; rw [if_neg (by omega)])
theorem zM_or (S T : Nat → Bool) (p : Nat) : zM S p ||| zM T p = zM (zOr S T) p := by
  rw [zM, zM, wb_or (zmsk_lt _ 64) (zmsk_lt _ 64), zM]
  congr 1
  apply znat_ext; intro i
  rw [Nat.testBit_or, zmsk_tb, zmsk_tb, zmsk_tb]
  unfold zOr
  cases decide (i < 64) <;> simp
theorem zM_andn (S T : Nat → Bool) (p : Nat) : zM S p &&& (zM T p ^^^ (-1)) = zM (fun a => S a && !T a) p := by
  have hT := zmsk_lt (fun i => T (64 * p + i)) 64
  have hx : zM T p ^^^ (-1) = lN ((2 ^ 64 - 1) ^^^ zmsk (fun i => T (64 * p + i)) 64) := by
    apply wb_inj
    rw [zM, Int64.toBitVec_xor, wb_tb, wb_tb]
    apply BitVec.eq_of_toNat_eq
    rw [BitVec.toNat_xor, BitVec.toNat_ofNat, BitVec.toNat_ofNat, Nat.mod_eq_of_lt hT, Nat.mod_eq_of_lt (Nat.xor_lt_two_pow (by decide) hT), Nat.xor_comm]
    rfl
  rw [hx, zM, wb_and (zmsk_lt _ 64) (Nat.xor_lt_two_pow (by decide) hT), zM]
  congr 1
  apply znat_ext; intro i
  rw [Nat.testBit_and, zmsk_tb, zmsk_tb, Nat.testBit_xor, Nat.testBit_two_pow_sub_one, zmsk_tb]
  cases decide (i < 64) <;> simp
/-- filling a row from its start -/
def zfl {α : Type} (g f : Nat → α) (i : Nat) : Nat → α := fun j => if j < i then g j else f j
theorem zfl_L (g f : Nat → Int64) (i : Nat) {x : Int64} (hx : x = g i) : vp_updL (zfl g f i) i x = zfl g f (i + 1) := by
  subst hx
  funext j
  unfold vp_updL zfl
  by_cases h : j = i
  · subst h; simp
  · rw [if_neg h]
    by_cases h2 : j < i
    · rw [if_pos h2, if_pos (by omega)]
    · rw [if_neg h2, if_neg (by omega)]
theorem zfl_I (g f : Nat → Int32) (i : Nat) {x : Int32} (hx : x = g i) : upd (zfl g f i) i x = zfl g f (i + 1) := by
  subst hx
  funext j
  unfold upd zfl
  by_cases h : j = i
  · subst h; simp
  · rw [if_neg h]
    by_cases h2 : j < i
    · rw [if_pos h2, if_pos (by omega)]
    · rw [if_neg h2, if_neg (by omega)]
theorem zfl_0 {α : Type} (g f : Nat → α) : zfl g f 0 = f := by funext j; simp [zfl]
theorem zfl_in {α : Type} (g f : Nat → α) {i j : Nat} (h : j < i) : zfl g f i j = g j := by simp [zfl, h]
theorem zfl_out {α : Type} (g f : Nat → α) {i j : Nat} (h : i ≤ j) : zfl g f i j = f j := by simp [zfl]; intro h2; omega
