/-! how many bits a number has: the JDK's sums in lanes of bytes -/
def zln (g : Nat → Nat) : Nat → Nat → Nat
  | 0, _ => 0
  | n + 1, x => g (x % 256) + 256 * zln g n (x / 256)
def zsb (g : Nat → Nat) : Nat → Nat → Nat
  | 0, _ => 0
  | n + 1, x => g (x % 256) + zsb g n (x / 256)
def zmm (v : Nat) : Nat → Nat
  | 0 => 0
  | n + 1 => v + 256 * zmm v n
theorem z_land {a c d e : Nat} (ha : a < 256) (hd : d < 256) : (a + 256 * c) &&& (d + 256 * e) = (a &&& d) + 256 * (c &&& e) := by
  have hl : a &&& d < 2 ^ 8 := Nat.lt_of_le_of_lt (Nat.and_le_left) ha
  apply znat_ext
  intro i
  rw [Nat.testBit_and, show a + 256 * c = 2 ^ 8 * c + a by omega, show d + 256 * e = 2 ^ 8 * e + d by omega, show (a &&& d) + 256 * (c &&& e) = 2 ^ 8 * (c &&& e) + (a &&& d) by omega,
    Nat.testBit_two_pow_mul_add _ ha, Nat.testBit_two_pow_mul_add _ hd, Nat.testBit_two_pow_mul_add _ hl]
  by_cases h : i < 8
  · simp [h]
  · simp [h]
theorem zln_lt {g : Nat → Nat} (hg : ∀ b, b < 256 → g b < 256) (n x : Nat) : zln g n x < 256 ^ n := by
  induction n generalizing x with
  | zero => simp [zln]
  | succ n ih =>
    have h1 := hg (x % 256) (by omega)
    have h2 := ih (x / 256)
    rw [zln, Nat.pow_succ]; omega
theorem zln_comp {f g : Nat → Nat} (hf : ∀ b, b < 256 → f b < 256) (n x : Nat) : zln g n (zln f n x) = zln (fun b => g (f b)) n x := by
  induction n generalizing x with
  | zero => rfl
  | succ n ih =>
    have h1 := hf (x % 256) (by omega)
    rw [zln, zln, zln, ← ih]
    rw [show (f (x % 256) + 256 * zln f n (x / 256)) % 256 = f (x % 256) by omega, show (f (x % 256) + 256 * zln f n (x / 256)) / 256 = zln f n (x / 256) by omega]
def zgA (b : Nat) : Nat := b - (b / 2 &&& 85)
def zgB (b : Nat) : Nat := (b &&& 51) + (b / 4 &&& 51)
theorem zA1 : ∀ b, b < 256 → ∀ t, t < 2 → ((b / 2 + 128 * t) &&& 85) = (b / 2 &&& 85) ∧ (b / 2 &&& 85) ≤ b := by decide +kernel
theorem zB1 : ∀ b, b < 256 → ∀ t, t < 4 → ((b / 4 + 64 * t) &&& 51) = (b / 4 &&& 51) ∧ (b &&& 51) + (b / 4 &&& 51) < 256 := by decide +kernel
theorem zlaneA (n x : Nat) (h : x < 256 ^ n) : (x / 2 &&& zmm 85 n) ≤ x ∧ x - (x / 2 &&& zmm 85 n) = zln zgA n x := by
  induction n generalizing x with
  | zero => simp [zmm, zln]; simp at h; omega
  | succ n ih =>
    obtain ⟨h1, h2⟩ := ih (x / 256) (by rw [Nat.pow_succ] at h; omega)
    obtain ⟨q1, q2⟩ := zA1 (x % 256) (by omega) (x / 256 % 2) (by omega)
    have e : x / 2 = (x % 256 / 2 + 128 * (x / 256 % 2)) + 256 * (x / 256 / 2) := by omega
    have e2 : (x / 2 &&& zmm 85 (n + 1)) = (x % 256 / 2 &&& 85) + 256 * (x / 256 / 2 &&& zmm 85 n) := by
      rw [zmm, e, z_land (by omega) (by omega), q1]
    rw [e2, zln, ← h2]
    unfold zgA
    constructor <;> omega
theorem zlaneB (n x : Nat) (h : x < 256 ^ n) : (x &&& zmm 51 n) + (x / 4 &&& zmm 51 n) = zln zgB n x := by
  induction n generalizing x with
  | zero => simp [zmm, zln]
  | succ n ih =>
    have h2 := ih (x / 256) (by rw [Nat.pow_succ] at h; omega)
    obtain ⟨q1, q2⟩ := zB1 (x % 256) (by omega) (x / 256 % 4) (by omega)
    have e : x / 4 = (x % 256 / 4 + 64 * (x / 256 % 4)) + 256 * (x / 256 / 4) := by omega
    have e2 : (x / 4 &&& zmm 51 (n + 1)) = (x % 256 / 4 &&& 51) + 256 * (x / 256 / 4 &&& zmm 51 n) := by
      rw [zmm, e, z_land (by omega) (by omega), q1]
    have e3 : (x &&& zmm 51 (n + 1)) = (x % 256 &&& 51) + 256 * (x / 256 &&& zmm 51 n) := by
      rw [zmm, show x &&& (51 + 256 * zmm 51 n) = (x % 256 + 256 * (x / 256)) &&& (51 + 256 * zmm 51 n) by rw [show x % 256 + 256 * (x / 256) = x by omega], z_land (by omega) (by omega)]
    rw [e2, e3, zln, ← h2]
    unfold zgB
    omega
theorem zlaneC {h : Nat → Nat} (hh : ∀ b, b < 256 → h b % 16 ≤ 4 ∧ h b / 16 ≤ 4) (n x : Nat) : ((zln h n x + zln h n x / 16) &&& zmm 15 n) = zln (fun b => (h b + h b / 16) % 16) n x := by
  induction n generalizing x with
  | zero => simp [zmm, zln]
  | succ n ih =>
    obtain ⟨q1, q2⟩ := hh (x % 256) (by omega)
    have q3 : zln h n (x / 256) % 16 ≤ 4 := by
      cases n with
      | zero => simp [zln]
      | succ n => rw [zln]; have := hh (x / 256 % 256) (by omega); omega
    have e : zln h (n + 1) x + zln h (n + 1) x / 16 = (h (x % 256) + h (x % 256) / 16 + 16 * (zln h n (x / 256) % 16)) + 256 * (zln h n (x / 256) + zln h n (x / 256) / 16) := by
      rw [zln]; omega
    rw [e, zmm, z_land (by omega) (by omega), ih, zln]
    rw [show (h (x % 256) + h (x % 256) / 16 + 16 * (zln h n (x / 256) % 16)) &&& 15 = (h (x % 256) + h (x % 256) / 16) % 16 by
      rw [show (15 : Nat) = 2 ^ 4 - 1 from rfl, Nat.and_two_pow_sub_one_eq_mod]; omega]
def zgC (b : Nat) : Nat := (zgB (zgA b) + zgB (zgA b) / 16) % 16
theorem zgC_ok : ∀ b, b < 256 → zgA b < 256 ∧ zgB (zgA b) < 256 ∧ zgB (zgA b) % 16 ≤ 4 ∧ zgB (zgA b) / 16 ≤ 4 ∧ zgC b = zcnt (fun i => b.testBit i) 8 ∧ zgC b ≤ 8 := by decide +kernel
theorem zsb_cnt (n x : Nat) : zsb zgC n x = zcnt (fun i => x.testBit i) (8 * n) := by
  induction n generalizing x with
  | zero => rfl
  | succ n ih =>
    rw [zsb, ih, show 8 * (n + 1) = 8 + 8 * n by omega, zcnt_split, (zgC_ok (x % 256) (by omega)).2.2.2.2.1]
    congr 1
    · apply zcnt_congr
      intro i hi
      rw [show (256 : Nat) = 2 ^ 8 from rfl, Nat.testBit_mod_two_pow]; simp [hi]
    · apply zcnt_congr
      intro i hi
      rw [show (256 : Nat) = 2 ^ 8 from rfl, Nat.testBit_div_two_pow, Nat.add_comm]
theorem zlanes (n x : Nat) (h : x < 256 ^ n) : (x / 2 &&& zmm 85 n) ≤ x ∧ ∃ y z, x - (x / 2 &&& zmm 85 n) = y ∧ y < 256 ^ n ∧ (y &&& zmm 51 n) + (y / 4 &&& zmm 51 n) = z ∧ z < 256 ^ n ∧ ((z + z / 16) &&& zmm 15 n) = zln zgC n x := by
  obtain ⟨h1, h2⟩ := zlaneA n x h
  have hA : ∀ b, b < 256 → zgA b < 256 := fun b hb => (zgC_ok b hb).1
  have hy := zln_lt hA n x
  have hz : zln zgB n (zln zgA n x) = zln (fun b => zgB (zgA b)) n x := zln_comp hA n x
  refine ⟨h1, zln zgA n x, zln (fun b => zgB (zgA b)) n x, h2, hy, ?_, zln_lt (fun b hb => (zgC_ok b hb).2.1) n x, ?_⟩
  · rw [zlaneB n _ hy, hz]
  · exact zlaneC (h := fun b => zgB (zgA b)) (fun b hb => ⟨(zgC_ok b hb).2.2.1, (zgC_ok b hb).2.2.2.1⟩) n x
theorem zsum8 (x : Nat) : ∀ w, zln zgC 8 x = w → w < 2 ^ 60 ∧ (w + w / 256 + (w + w / 256) / 65536 + (w + w / 256 + (w + w / 256) / 65536) / 4294967296) % 128 = zsb zgC 8 x := by
  intro w hw
  have h : ∀ b, zgC (b % 256) ≤ 8 := fun b => (zgC_ok (b % 256) (by omega)).2.2.2.2.2
  simp only [zln, zsb] at hw ⊢
  have h0 := h x; have h1 := h (x / 256); have h2 := h (x / 256 / 256); have h3 := h (x / 256 / 256 / 256)
  have h4 := h (x / 256 / 256 / 256 / 256); have h5 := h (x / 256 / 256 / 256 / 256 / 256); have h6 := h (x / 256 / 256 / 256 / 256 / 256 / 256); have h7 := h (x / 256 / 256 / 256 / 256 / 256 / 256 / 256)
  generalize zgC (x % 256) = c0 at *
  generalize zgC (x / 256 % 256) = c1 at *
  generalize zgC (x / 256 / 256 % 256) = c2 at *
  generalize zgC (x / 256 / 256 / 256 % 256) = c3 at *
  generalize zgC (x / 256 / 256 / 256 / 256 % 256) = c4 at *
  generalize zgC (x / 256 / 256 / 256 / 256 / 256 % 256) = c5 at *
  generalize zgC (x / 256 / 256 / 256 / 256 / 256 / 256 % 256) = c6 at *
  generalize zgC (x / 256 / 256 / 256 / 256 / 256 / 256 / 256 % 256) = c7 at *
  have e1 : w + w / 256 = (c0 + c1) + 256 * (c1 + c2) + 65536 * (c2 + c3) + 16777216 * (c3 + c4) + 4294967296 * (c4 + c5) + 1099511627776 * (c5 + c6) + 281474976710656 * (c6 + c7) + 72057594037927936 * c7 := by omega
  refine ⟨by omega, ?_⟩
  rw [e1]
  generalize hv : (c0 + c1) + 256 * (c1 + c2) + 65536 * (c2 + c3) + 16777216 * (c3 + c4) + 4294967296 * (c4 + c5) + 1099511627776 * (c5 + c6) + 281474976710656 * (c6 + c7) + 72057594037927936 * c7 = v
  have e2 : v + v / 65536 = (c0 + c1 + c2 + c3) + 256 * (c1 + c2 + c3 + c4) + 65536 * (c2 + c3 + c4 + c5) + 16777216 * (c3 + c4 + c5 + c6) + 4294967296 * (c4 + c5 + c6 + c7) + 1099511627776 * (c5 + c6 + c7) + 281474976710656 * (c6 + c7) + 72057594037927936 * c7 := by omega
  rw [e2]
  have e3 : ((c0 + c1 + c2 + c3) + 256 * (c1 + c2 + c3 + c4) + 65536 * (c2 + c3 + c4 + c5) + 16777216 * (c3 + c4 + c5 + c6) + 4294967296 * (c4 + c5 + c6 + c7) + 1099511627776 * (c5 + c6 + c7) + 281474976710656 * (c6 + c7) + 72057594037927936 * c7) / 4294967296 = (c4 + c5 + c6 + c7) + 256 * (c5 + c6 + c7) + 65536 * (c6 + c7) + 16777216 * c7 := by omega
  rw [e3]
  clear e1 e2 e3 hv hw
  generalize ha : c1 + c2 + c3 + c4 = a1
  generalize hb : c2 + c3 + c4 + c5 = a2
  generalize hc : c3 + c4 + c5 + c6 = a3
  omega
theorem zsum4 (x : Nat) : ∀ w, zln zgC 4 x = w → w < 2 ^ 28 ∧ (w + w / 256 + (w + w / 256) / 65536) % 64 = zsb zgC 4 x := by
  intro w hw
  have h : ∀ b, zgC (b % 256) ≤ 8 := fun b => (zgC_ok (b % 256) (by omega)).2.2.2.2.2
  simp only [zln, zsb] at hw ⊢
  have h0 := h x; have h1 := h (x / 256); have h2 := h (x / 256 / 256); have h3 := h (x / 256 / 256 / 256)
  generalize zgC (x % 256) = c0 at *
  generalize zgC (x / 256 % 256) = c1 at *
  generalize zgC (x / 256 / 256 % 256) = c2 at *
  generalize zgC (x / 256 / 256 / 256 % 256) = c3 at *
  have e1 : w + w / 256 = (c0 + c1) + 256 * (c1 + c2) + 65536 * (c2 + c3) + 16777216 * c3 := by omega
  refine ⟨by omega, ?_⟩
  rw [e1]
  have e3 : ((c0 + c1) + 256 * (c1 + c2) + 65536 * (c2 + c3) + 16777216 * c3) / 65536 = (c2 + c3) + 256 * c3 := by omega
  rw [e3]
  clear e1 e3 hw
  omega
