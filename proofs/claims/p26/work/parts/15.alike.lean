/-! terms made alike: for each of twelve terms the lowest that it was made the same as -/
def zpk (L : Nat → Nat) : Nat → Nat
  | 0 => 0
  | n + 1 => zpk L n + L n * 16 ^ n
def vl (L : Nat → Nat) : Prop := ∀ t, t < 12 → L t ≤ t ∧ L (L t) = L t
def mg (L : Nat → Nat) (lo hi : Nat) : Nat → Nat := fun t => if L t = hi then lo else L t
def mgi (L : Nat → Nat) (lo hi n : Nat) : Nat → Nat := fun t => if t < n ∧ L t = hi then lo else L t
def jn (L : Nat → Nat) (x y : Nat) : Option (Nat → Nat) := if L x = L y then some L else if max (L x) (L y) < 4 then none else some (mg L (min (L x) (L y)) (max (L x) (L y)))
def eL (x : Option (Nat → Nat)) : Int64 := match x with
  | none => -1
  | some L => lN (zpk L 12)
def own (t ap : Nat) : Nat := if t < 4 then t else t + ap
def al (L : Nat → Nat) (part w ap : Nat) : Option (Nat → Nat) := (jn L (part / 8 % 8) (own (w / 8 % 8) ap)).bind (fun L2 => jn L2 (part % 8) (own (w % 8) ap))
def rs (L : Nat → Nat) (h : Nat) : Nat := 64 * (h / 64) + 8 * (if L (h / 8 % 8) < 4 then L (h / 8 % 8) else 4) + (if L (h % 8) < 4 then L (h % 8) else if L (h / 8 % 8) < 4 ∨ L (h / 8 % 8) = L (h % 8) then 4 else 5)
theorem zpk_congr {L M : Nat → Nat} {n : Nat} (h : ∀ t, t < n → L t = M t) : zpk L n = zpk M n := by
  induction n with
  | zero => rfl
  | succ n ih => rw [zpk, zpk, ih (fun t ht => h t (by omega)), h n (by omega)]
theorem zpk_lt {L : Nat → Nat} {n : Nat} (h : ∀ t, t < n → L t < 16) : zpk L n < 16 ^ n := by
  induction n with
  | zero => exact Nat.one_pos
  | succ n ih =>
    have h1 := ih (fun t ht => h t (by omega))
    have h2 : L n * 16 ^ n ≤ 15 * 16 ^ n := Nat.mul_le_mul_right _ (by have := h n (by omega); omega)
    rw [zpk, Nat.pow_succ]; omega
theorem zpk_dig {L : Nat → Nat} {n k : Nat} (h : ∀ t, t < n → L t < 16) (hk : k < n) : zpk L n / 16 ^ k % 16 = L k := by
  induction n with
  | zero => exact absurd hk (Nat.not_lt_zero _)
  | succ n ih =>
    by_cases hkn : k = n
    · subst hkn
      have h1 := zpk_lt (n := k) (fun t ht => h t (by omega))
      rw [zpk, Nat.add_mul_div_right _ _ (Nat.pow_pos (by decide)), Nat.div_eq_of_lt h1, Nat.zero_add, Nat.mod_eq_of_lt (h k (by omega))]
    · have h1 := ih (fun t ht => h t (by omega)) (by omega)
      have e : L n * 16 ^ n = (L n * 16 ^ (n - k - 1) * 16) * 16 ^ k := by
        rw [Nat.mul_assoc, Nat.mul_assoc]
        congr 1
        rw [← Nat.pow_succ', ← Nat.pow_add]
        congr 1; omega
      rw [zpk, e, Nat.add_mul_div_right _ _ (Nat.pow_pos (by decide)), Nat.add_mul_mod_self_right, h1]
theorem zpk_upd {L M : Nat → Nat} {n k d : Nat} (hk : k < n) (h : ∀ t, t < n → t ≠ k → M t = L t) (hd : L k = M k + d) : zpk L n = zpk M n + d * 16 ^ k := by
  induction n with
  | zero => exact absurd hk (Nat.not_lt_zero _)
  | succ n ih =>
    by_cases hkn : k = n
    · subst hkn
      rw [zpk, zpk, zpk_congr (L := L) (M := M) (fun t ht => (h t (by omega) (by omega)).symm), hd, Nat.add_mul]; omega
    · rw [zpk, zpk, ih (by omega) (fun t ht => h t (by omega)), h n (by omega) (fun q => hkn q.symm)]; omega
theorem vl16 {L : Nat → Nat} (h : vl L) : ∀ t, t < 12 → L t < 16 := fun t ht => by have := (h t ht).1; omega
theorem zpk64 {L : Nat → Nat} (h : vl L) : zpk L 12 < 2 ^ 48 := Nat.lt_of_lt_of_le (zpk_lt (vl16 h)) (by decide)
theorem zpk_get {L : Nat → Nat} (h : vl L) {t : Nat} (ht : t < 12) : zpk L 12 / 2 ^ (4 * t) % 2 ^ 4 = L t := by
  have := zpk_dig (vl16 h) ht
  rw [show (16 : Nat) = 2 ^ 4 from rfl, ← Nat.pow_mul] at this
  exact this
theorem vl_mg {L : Nat → Nat} (h : vl L) {x y : Nat} (hx : x < 12) (hy : y < 12) (hne : L x ≠ L y) : vl (mg L (min (L x) (L y)) (max (L x) (L y))) := by
  intro t ht
  obtain ⟨h1, h2⟩ := h t ht
  have hxx := h x hx
  have hyy := h y hy
  unfold mg
  by_cases e : L t = max (L x) (L y)
  · rw [if_pos e]
    have hm : L (min (L x) (L y)) = min (L x) (L y) := by
      rcases Nat.le_total (L x) (L y) with q | q
      · rw [Nat.min_eq_left q]; exact hxx.2
      · rw [Nat.min_eq_right q]; exact hyy.2
    refine ⟨by omega, ?_⟩
    rw [hm, if_neg (by omega)]
  · rw [if_neg e, if_neg (by rw [h2]; exact e)]
    exact ⟨h1, h2⟩
theorem vl_jn {L M : Nat → Nat} (h : vl L) {x y : Nat} (hx : x < 12) (hy : y < 12) (e : jn L x y = some M) : vl M := by
  unfold jn at e
  split at e
  · cases e; exact h
  · split at e
    · cases e
    · cases e; exact vl_mg h hx hy (by assumption)
theorem vl_al {L M : Nat → Nat} (h : vl L) {part w ap : Nat} (h1 : own (w / 8 % 8) ap < 12) (h2 : own (w % 8) ap < 12) (e : al L part w ap = some M) : vl M := by
  unfold al at e
  obtain ⟨L2, e1, e2⟩ := Option.bind_eq_some_iff.mp e
  exact vl_jn (vl_jn h (by omega) h1 e1) (by omega) h2 e2
theorem own_lt {t ap : Nat} (ht : t ≤ 5) (ha : ap ≤ 6) : own t ap < 12 := by unfold own; split <;> omega
theorem eL_cmp (x : Option (Nat → Nat)) (h : ∀ L, x = some L → vl L) : lg_cmp (eL x) (-1) = bI x.isSome := by
  cases x with
  | none => decide +kernel
  | some L =>
    have hb := zpk64 (h L rfl)
    have : (-1 : Int64) < lN (zpk L 12) := by
      rw [Int64.lt_iff_toInt_lt, pk_lT (by omega)]
      have : (-1 : Int64).toInt = -1 := by decide +kernel
      omega
    show lg_cmp (lN (zpk L 12)) (-1) = 1
    unfold lg_cmp
    rw [if_pos this]
theorem mgi_0 {L : Nat → Nat} (h : vl L) {lo hi : Nat} (hh : hi ≤ 12) : zpk (mgi L lo hi hi) 12 = zpk L 12 := by
  apply zpk_congr
  intro t ht
  unfold mgi
  rw [if_neg]
  have := (h t ht).1
  omega
theorem mgi_n (L : Nat → Nat) (lo hi : Nat) : zpk (mgi L lo hi 12) 12 = zpk (mg L lo hi) 12 := by
  apply zpk_congr
  intro t ht
  unfold mgi mg
  simp [ht]
theorem mgi_t {L : Nat → Nat} {lo hi n : Nat} (hl : lo ≤ hi) (hn : n < 12) (e : L n = hi) : zpk (mgi L lo hi n) 12 - (hi - lo) * 2 ^ (4 * n) = zpk (mgi L lo hi (n + 1)) 12 ∧ (hi - lo) * 2 ^ (4 * n) ≤ zpk (mgi L lo hi n) 12 := by
  have := zpk_upd (L := mgi L lo hi n) (M := mgi L lo hi (n + 1)) (n := 12) (k := n) (d := hi - lo) hn (fun t ht hne => by
    unfold mgi
    by_cases q : t < n
    · simp [q, show t < n + 1 by omega]
    · simp [q, show ¬ t < n + 1 by omega]) (by unfold mgi; simp [e]; omega)
  rw [this, show (16 : Nat) = 2 ^ 4 from rfl, ← Nat.pow_mul]
  constructor <;> omega
theorem mgi_f {L : Nat → Nat} {lo hi n : Nat} (e : L n ≠ hi) : mgi L lo hi (n + 1) = mgi L lo hi n := by
  funext t
  unfold mgi
  by_cases q : t = n
  · subst q; simp [e]
  · by_cases q2 : t < n
    · simp [q2, show t < n + 1 by omega]
    · simp [q2, show ¬ t < n + 1 by omega]

def r_X0_ownTerm : Room := { frames := 0, cells := 0, slots := 0, locals := 0 }
set_option maxRecDepth 100000 in
set_option maxHeartbeats 4000000 in
theorem k_X0_ownTerm (l : Launch) (D : va_G) (ty : Nat → ClassId) (t : Nat) (ap : Nat) (ht : t < 8) (ha : ap < 8) : gM l D ty yX0_ownTerm cX0_ownTerm 2 (some (FieldType.int : FieldType)) r_X0_ownTerm 0 0 [.int (nI t), .int (nI ap)] [] (fun (zr : Option Value) (zW : va_W) => zr = some (.int (nI (own t ap))) ∧ zW = []) := by
  refine gM_of RX0 rfl (by decide +kernel) (Nat.le_of_ble_eq_true rfl) ?_
  intro pg en s0 mi ag bl mth cd AA HH QQ C E hnm
  show gW pg l en r_X0_ownTerm s0 mi ag bl mth cd 2 D AA HH QQ 0 [(0, .int (nI t)), (1, .int (nI ap))] [] [] 0 0
  refine g_iload_n C 0 rfl dX0_ownTerm_0 ?_
  refine g_iconst C (nI 4) ic_4 dX0_ownTerm_1 ?_
  refine g_icmp_geN C t 4 9 rfl rfl (by omega) (by omega) dX0_ownTerm_2 rfl (fun c2 => ?_) (fun c2 => ?_)
  · skip
    refine g_iload_n C 0 rfl dX0_ownTerm_9 ?_
    refine g_iload_n C 1 rfl dX0_ownTerm_10 ?_
    refine g_iadd C (nI (t + ap)) dX0_ownTerm_11 (nI_add _ _) ?_
    exact g_iret E dX0_ownTerm_12 (by decide) (by decide) ⟨(congrArg (fun z => some (Value.int (nI z))) (by unfold own; split <;> omega)), rfl⟩
  · skip
    refine g_iload_n C 0 rfl dX0_ownTerm_5 ?_
    refine g_goto C 12 dX0_ownTerm_6 rfl ?_
    exact g_iret E dX0_ownTerm_12 (by decide) (by decide) ⟨(congrArg (fun z => some (Value.int (nI z))) (by unfold own; split <;> omega)), rfl⟩
def r_X0_become : Room := { frames := 0, cells := 0, slots := 0, locals := 0 }
set_option maxRecDepth 100000 in
set_option maxHeartbeats 4000000 in
theorem k_X0_become (l : Launch) (D : va_G) (ty : Nat → ClassId) (L : Nat → Nat) (t : Nat) (hL : vl L) (ht : t < 12) : gM l D ty yX0_become cX0_become 3 (some (FieldType.int : FieldType)) r_X0_become 0 0 [.long (lN (zpk L 12)), .int (nI t)] [] (fun (zr : Option Value) (zW : va_W) => zr = some (.int (nI (L t))) ∧ zW = []) := by
  refine gM_of RX0 rfl (by decide +kernel) (Nat.le_of_ble_eq_true rfl) ?_
  intro pg en s0 mi ag bl mth cd AA HH QQ C E hnm
  show gW pg l en r_X0_become s0 mi ag bl mth cd 3 D AA HH QQ 0 [(0, .long (lN (zpk L 12))), (2, .int (nI t))] [] [] 0 0
  refine g_lload_n C 0 rfl dX0_become_0 ?_
  refine g_iconst C (nI 4) ic_4 dX0_become_1 ?_
  refine g_iload_n C 1 rfl dX0_become_2 ?_
  refine g_imul C (nI (4 * t)) dX0_become_3 (pk_mul _ _) ?_
  refine g_lushr C (lN (zpk L 12 / 2 ^ (4 * t))) (wb_shr (Nat.lt_trans (zpk64 hL) (by decide)) (by omega)) dX0_become_4 ?_
  refine g_l2i C (nI (zpk L 12 / 2 ^ (4 * t))) (lN_i _) dX0_become_5 ?_
  refine g_bipush C (nI 15) bp_15 dX0_become_6 ?_
  refine g_iand C (nI (L t)) dX0_become_8 ((pk_andNw 4 (by decide +kernel)).trans (congrArg nI (zpk_get hL ht))) ?_
  exact g_iret E dX0_become_9 (by decide) (by decide) ⟨rfl, rfl⟩
def r_X0_joined : Room := { frames := 1, cells := 0, slots := 0, locals := 22 }
set_option maxRecDepth 100000 in
set_option maxHeartbeats 4000000 in
theorem k_X0_joined (l : Launch) (D : va_G) (ty : Nat → ClassId) (L : Nat → Nat) (x : Nat) (y : Nat) (hL : vl L) (hx : x < 12) (hy : y < 12) : gM l D ty yX0_joined cX0_joined 11 (some (FieldType.long : FieldType)) r_X0_joined 0 0 [.long (lN (zpk L 12)), .int (nI x), .int (nI y)] [] (fun (zr : Option Value) (zW : va_W) => zr = some (.long (eL (jn L x y))) ∧ zW = []) := by
  have bx := (hL x hx).1
  have bv := (hL y hy).1
  have bk := zpk64 hL
  refine gM_of RX0 rfl (by decide +kernel) (Nat.le_of_ble_eq_true rfl) ?_
  intro pg en s0 mi ag bl mth cd AA HH QQ C E hnm
  show gW pg l en r_X0_joined s0 mi ag bl mth cd 11 D AA HH QQ 0 [(0, .long (lN (zpk L 12))), (2, .int (nI x)), (3, .int (nI y))] [] [] 0 0
  refine g_lload_n C 0 rfl dX0_joined_0 ?_
  refine g_iload_n C 1 rfl dX0_joined_1 ?_
  refine g_callS0 C (nA := 2) (k_X0_become l D ty L x hL (by omega)) wm_X0_30 ws_X0_become wi_X0 wc_X0_become rfl (by decide +kernel) ⟨(Nat.le_of_ble_eq_true rfl), (Nat.le_of_ble_eq_true rfl)⟩ ⟨rfl, rfl⟩ dX0_joined_2 (fun _ _ h => h.2) (Nat.le_of_ble_eq_true rfl) rfl ⟨Nat.zero_le _, Nat.zero_le _⟩ (fun r hp => ?_)
  obtain ⟨rfl, -⟩ := hp
  refine g_st [.int (nI (L x))] rfl ?_
  refine g_istore C [(4, .int (nI (L x))), (0, .long (lN (zpk L 12))), (2, .int (nI x)), (3, .int (nI y))] dX0_joined_5 (by decide) rfl ?_
  refine g_lload_n C 1 rfl dX0_joined_7 ?_
  refine g_iload_n C 3 rfl dX0_joined_8 ?_
  refine g_callS0 C (nA := 2) (k_X0_become l D ty L y hL (by omega)) wm_X0_30 ws_X0_become wi_X0 wc_X0_become rfl (by decide +kernel) ⟨(Nat.le_of_ble_eq_true rfl), (Nat.le_of_ble_eq_true rfl)⟩ ⟨rfl, rfl⟩ dX0_joined_9 (fun _ _ h => h.2) (Nat.le_of_ble_eq_true rfl) rfl ⟨Nat.zero_le _, Nat.zero_le _⟩ (fun r hp => ?_)
  obtain ⟨rfl, -⟩ := hp
  refine g_st [.int (nI (L y))] rfl ?_
  refine g_istore C [(5, .int (nI (L y))), (4, .int (nI (L x))), (0, .long (lN (zpk L 12))), (2, .int (nI x)), (3, .int (nI y))] dX0_joined_12 (by decide) rfl ?_
  refine g_iload C 1 rfl dX0_joined_14 ?_
  refine g_iload C 0 rfl dX0_joined_16 ?_
  refine g_icmp_neN C (L x) (L y) 23 rfl rfl (by omega) (by omega) dX0_joined_18 rfl (fun c18 => ?_) (fun c18 => ?_)
  · skip
    refine g_iload C 1 rfl dX0_joined_23 ?_
    refine g_iload C 0 rfl dX0_joined_25 ?_
    refine g_mmin C wm_X0_41 ws_Math_min wi_J9 wc_Math_min (Nat.le_of_ble_eq_true rfl) (Nat.le_of_ble_eq_true rfl) (nI (min (L x) (L y))) (nI_min _ _ (by omega) (by omega)) dX0_joined_27 ⟨Nat.zero_le _, Nat.zero_le _⟩ ?_
    refine g_istore C [(6, .int (nI (min (L x) (L y)))), (5, .int (nI (L y))), (4, .int (nI (L x))), (0, .long (lN (zpk L 12))), (2, .int (nI x)), (3, .int (nI y))] dX0_joined_30 (by decide) rfl ?_
    refine g_iload C 2 rfl dX0_joined_32 ?_
    refine g_iload C 1 rfl dX0_joined_34 ?_
    refine g_mmax C wm_X0_46 ws_Math_max wi_J9 wc_Math_max (Nat.le_of_ble_eq_true rfl) (Nat.le_of_ble_eq_true rfl) (nI (max (L x) (L y))) (nI_max _ _ (by omega) (by omega)) dX0_joined_36 ⟨Nat.zero_le _, Nat.zero_le _⟩ ?_
    refine g_istore C [(7, .int (nI (max (L x) (L y)))), (6, .int (nI (min (L x) (L y)))), (5, .int (nI (L y))), (4, .int (nI (L x))), (0, .long (lN (zpk L 12))), (2, .int (nI x)), (3, .int (nI y))] dX0_joined_39 (by decide) rfl ?_
    refine g_iload C 0 rfl dX0_joined_41 ?_
    refine g_iconst C (nI 4) ic_4 dX0_joined_43 ?_
    refine g_icmp_geN C (max (L x) (L y)) 4 51 rfl rfl (by omega) (by omega) dX0_joined_44 rfl (fun c44 => ?_) (fun c44 => ?_)
    · skip
      refine g_lload_n C 4 rfl dX0_joined_51 ?_
      refine g_lstore C [(8, .long (lN (zpk L 12))), (7, .int (nI (max (L x) (L y)))), (6, .int (nI (min (L x) (L y)))), (5, .int (nI (L y))), (4, .int (nI (L x))), (0, .long (lN (zpk L 12))), (2, .int (nI x)), (3, .int (nI y))] dX0_joined_52 (by decide) rfl ?_
      refine g_iload C 1 rfl dX0_joined_54 ?_
      refine g_istore C [(10, .int (nI (max (L x) (L y)))), (8, .long (lN (zpk L 12))), (7, .int (nI (max (L x) (L y)))), (6, .int (nI (min (L x) (L y)))), (5, .int (nI (L y))), (4, .int (nI (L x))), (0, .long (lN (zpk L 12))), (2, .int (nI x)), (3, .int (nI y))] dX0_joined_56 (by decide) rfl ?_
      refine g_lo [6, 3, 2, 1, 0] [(0, .long (lN (zpk L 12))), (6, .int (nI (min (L x) (L y)))), (7, .int (nI (max (L x) (L y)))), (8, .long (lN (zpk L 12))), (10, .int (nI (max (L x) (L y))))] rfl ?_
      refine g_lo2 [(0, .long (lN (zpk L 12))), (6, .int (nI (min (L x) (L y)))), (7, .int (nI (max (L x) (L y)))), (8, .long (lN (zpk (mgi L (min (L x) (L y)) (max (L x) (L y)) (max (L x) (L y))) 12))), (10, .int (nI (max (L x) (L y))))] (by rw [mgi_0 hL (by omega)]) ?_
      have L58 : ∀ (fu58 : Nat) (i : Nat) (hi : i ≤ 12) (hi2 : max (L x) (L y) ≤ i), (12 - i) < fu58 → gW pg l en r_X0_joined s0 mi ag bl mth cd 11 D AA HH QQ 58 [(0, .long (lN (zpk L 12))), (6, .int (nI (min (L x) (L y)))), (7, .int (nI (max (L x) (L y)))), (8, .long (lN (zpk (mgi L (min (L x) (L y)) (max (L x) (L y)) i) 12))), (10, .int (nI i))] [] [] 0 0 := by
        intro fu58
        induction fu58 with
        | zero => intro i hi hi2 hfu; exact absurd hfu (Nat.not_lt_zero _)
        | succ fu58 ih58 =>
          intro i hi hi2 hfu58
          refine g_iload C 4 rfl dX0_joined_58 ?_
          refine g_bipush C (nI 12) bp_12 dX0_joined_60 ?_
          refine g_icmp_geN C i 12 98 rfl rfl (by omega) (by omega) dX0_joined_62 rfl (fun c62 => ?_) (fun c62 => ?_)
          · skip
            refine g_lload C 3 rfl dX0_joined_98 ?_
            exact g_lret E dX0_joined_100 (by decide) (by decide) ⟨(congrArg (fun z => some (Value.long z)) (by unfold jn; rw [if_neg c18, if_neg (by omega), show i = 12 by omega, mgi_n]; rfl)), rfl⟩
          · skip
            refine g_lload_n C 0 rfl dX0_joined_65 ?_
            refine g_iload C 4 rfl dX0_joined_66 ?_
            refine g_callS0 C (nA := 2) (k_X0_become l D ty L i hL (by omega)) wm_X0_30 ws_X0_become wi_X0 wc_X0_become rfl (by decide +kernel) ⟨(Nat.le_of_ble_eq_true rfl), (Nat.le_of_ble_eq_true rfl)⟩ ⟨rfl, rfl⟩ dX0_joined_68 (fun _ _ h => h.2) (Nat.le_of_ble_eq_true rfl) rfl ⟨Nat.zero_le _, Nat.zero_le _⟩ (fun r hp => ?_)
            obtain ⟨rfl, -⟩ := hp
            refine g_st [.int (nI (L i))] rfl ?_
            refine g_iload C 2 rfl dX0_joined_71 ?_
            refine g_icmp_neN C (L i) (max (L x) (L y)) 92 rfl rfl (by have := (hL i (by omega)).1; omega) (by omega) dX0_joined_73 rfl (fun c73 => ?_) (fun c73 => ?_)
            · skip
              refine g_lo2 [(0, .long (lN (zpk L 12))), (6, .int (nI (min (L x) (L y)))), (7, .int (nI (max (L x) (L y)))), (8, .long (lN (zpk (mgi L (min (L x) (L y)) (max (L x) (L y)) (i + 1)) 12))), (10, .int (nI i))] (by rw [mgi_f c73]) ?_
              refine g_iinc C (nI (i + 1)) [(10, .int (nI (i + 1))), (0, .long (lN (zpk L 12))), (6, .int (nI (min (L x) (L y)))), (7, .int (nI (max (L x) (L y)))), (8, .long (lN (zpk (mgi L (min (L x) (L y)) (max (L x) (L y)) (i + 1)) 12)))] 4 dX0_joined_92 rfl (ii_1 _) (by decide) rfl ?_
              refine g_goto C 58 dX0_joined_95 rfl ?_
              refine g_lo [1, 2, 3, 4, 0] [(0, .long (lN (zpk L 12))), (6, .int (nI (min (L x) (L y)))), (7, .int (nI (max (L x) (L y)))), (8, .long (lN (zpk (mgi L (min (L x) (L y)) (max (L x) (L y)) (i + 1)) 12))), (10, .int (nI (i + 1)))] rfl ?_
              exact ih58 (i + 1) (by omega) (by omega) (by omega)
            · skip
              refine g_lload C 3 rfl dX0_joined_76 ?_
              refine g_iload C 2 rfl dX0_joined_78 ?_
              refine g_iload C 1 rfl dX0_joined_80 ?_
              refine g_isub C (nI ((max (L x) (L y)) - (min (L x) (L y)))) dX0_joined_82 (pk_sub (by omega)) ?_
              refine g_i2l C (lN ((max (L x) (L y)) - (min (L x) (L y)))) (nI_l (by omega)) dX0_joined_83 ?_
              refine g_iconst C (nI 4) ic_4 dX0_joined_84 ?_
              refine g_iload C 4 rfl dX0_joined_85 ?_
              refine g_imul C (nI (4 * i)) dX0_joined_87 (pk_mul _ _) ?_
              refine g_lshl C (lN ((max (L x) (L y) - min (L x) (L y)) * 2 ^ (4 * i))) (wb_shl _ (by omega)) dX0_joined_88 ?_
              refine g_lsub C (lN (zpk (mgi L (min (L x) (L y)) (max (L x) (L y)) (i + 1)) 12)) dX0_joined_89 ((lN_subw (mgi_t (by omega) (by omega) c73).2).trans (congrArg lN (mgi_t (by omega) (by omega) c73).1)) ?_
              refine g_lstore C [(8, .long (lN (zpk (mgi L (min (L x) (L y)) (max (L x) (L y)) (i + 1)) 12))), (0, .long (lN (zpk L 12))), (6, .int (nI (min (L x) (L y)))), (7, .int (nI (max (L x) (L y)))), (10, .int (nI i))] dX0_joined_90 (by decide) rfl ?_
              refine g_iinc C (nI (i + 1)) [(10, .int (nI (i + 1))), (8, .long (lN (zpk (mgi L (min (L x) (L y)) (max (L x) (L y)) (i + 1)) 12))), (0, .long (lN (zpk L 12))), (6, .int (nI (min (L x) (L y)))), (7, .int (nI (max (L x) (L y))))] 4 dX0_joined_92 rfl (ii_1 _) (by decide) rfl ?_
              refine g_goto C 58 dX0_joined_95 rfl ?_
              refine g_lo [2, 3, 4, 1, 0] [(0, .long (lN (zpk L 12))), (6, .int (nI (min (L x) (L y)))), (7, .int (nI (max (L x) (L y)))), (8, .long (lN (zpk (mgi L (min (L x) (L y)) (max (L x) (L y)) (i + 1)) 12))), (10, .int (nI (i + 1)))] rfl ?_
              exact ih58 (i + 1) (by omega) (by omega) (by omega)
      exact L58 (12 - (max (L x) (L y)) + 1) (max (L x) (L y)) (by omega) (by omega) (Nat.lt_succ_self _)
    · skip
      refine g_ldc2 C wd_X0_25 dX0_joined_47 ?_
      exact g_lret E dX0_joined_50 (by decide) (by decide) ⟨(congrArg (fun z => some (Value.long z)) (by unfold jn; rw [if_neg c18, if_pos c44]; rfl)), rfl⟩
  · skip
    refine g_lload_n C 2 rfl dX0_joined_21 ?_
    exact g_lret E dX0_joined_22 (by decide) (by decide) ⟨(congrArg (fun z => some (Value.long z)) (by unfold jn; rw [if_pos c18]; rfl)), rfl⟩
def r_X0_withFact : Room := { frames := 2, cells := 0, slots := 0, locals := 52 }
set_option maxRecDepth 100000 in
set_option maxHeartbeats 4000000 in
theorem k_X0_withFact (l : Launch) (D : va_G) (ty : Nat → ClassId) (L : Nat → Nat) (part : Nat) (w : Nat) (ap : Nat) (hL : vl L) (hp : part < 256) (hw : w < 64) (h1 : w / 8 % 8 ≤ 5) (h2 : w % 8 ≤ 5) (ha : ap ≤ 6) : gM l D ty yX0_withFact cX0_withFact 7 (some (FieldType.long : FieldType)) r_X0_withFact 0 0 [.long (lN (zpk L 12)), .int (nI part), .int (nI w), .int (nI ap)] [] (fun (zr : Option Value) (zW : va_W) => zr = some (.long (eL (al L part w ap))) ∧ zW = []) := by
  have o1 := own_lt h1 ha
  have o2 := own_lt h2 ha
  refine gM_of RX0 rfl (by decide +kernel) (Nat.le_of_ble_eq_true rfl) ?_
  intro pg en s0 mi ag bl mth cd AA HH QQ C E hnm
  show gW pg l en r_X0_withFact s0 mi ag bl mth cd 7 D AA HH QQ 0 [(0, .long (lN (zpk L 12))), (2, .int (nI part)), (3, .int (nI w)), (4, .int (nI ap))] [] [] 0 0
  refine g_lload_n C 0 rfl dX0_withFact_0 ?_
  refine g_iload_n C 1 rfl dX0_withFact_1 ?_
  refine g_callS0 C (nA := 1) (k_X1_first l D ty part (by omega)) wm_X0_9 ws_X1_first wi_X1 wc_X1_first rfl (by decide +kernel) ⟨(Nat.le_of_ble_eq_true rfl), (Nat.le_of_ble_eq_true rfl)⟩ ⟨rfl, rfl⟩ dX0_withFact_2 (fun _ _ h => h.2) (Nat.le_of_ble_eq_true rfl) rfl ⟨Nat.zero_le _, Nat.zero_le _⟩ (fun r hp => ?_)
  obtain ⟨rfl, -⟩ := hp
  refine g_st [.int (nI (part / 8 % 8)), .long (lN (zpk L 12))] rfl ?_
  refine g_iload_n C 2 rfl dX0_withFact_5 ?_
  refine g_callS0 C (nA := 1) (k_X1_first l D ty w (by omega)) wm_X0_9 ws_X1_first wi_X1 wc_X1_first rfl (by decide +kernel) ⟨(Nat.le_of_ble_eq_true rfl), (Nat.le_of_ble_eq_true rfl)⟩ ⟨rfl, rfl⟩ dX0_withFact_6 (fun _ _ h => h.2) (Nat.le_of_ble_eq_true rfl) rfl ⟨Nat.zero_le _, Nat.zero_le _⟩ (fun r hp => ?_)
  obtain ⟨rfl, -⟩ := hp
  refine g_st [.int (nI (w / 8 % 8)), .int (nI (part / 8 % 8)), .long (lN (zpk L 12))] rfl ?_
  refine g_iload C 3 rfl dX0_withFact_9 ?_
  refine g_callS0 C (nA := 2) (k_X0_ownTerm l D ty (w / 8 % 8) ap (by omega) (by omega)) wm_X0_15 ws_X0_ownTerm wi_X0 wc_X0_ownTerm rfl (by decide +kernel) ⟨(Nat.le_of_ble_eq_true rfl), (Nat.le_of_ble_eq_true rfl)⟩ ⟨rfl, rfl⟩ dX0_withFact_11 (fun _ _ h => h.2) (Nat.le_of_ble_eq_true rfl) rfl ⟨Nat.zero_le _, Nat.zero_le _⟩ (fun r hp => ?_)
  obtain ⟨rfl, -⟩ := hp
  refine g_st [.int (nI (own (w / 8 % 8) ap)), .int (nI (part / 8 % 8)), .long (lN (zpk L 12))] rfl ?_
  refine g_callS0 C (nA := 3) (k_X0_joined l D ty L (part / 8 % 8) (own (w / 8 % 8) ap) hL (by omega) (by omega)) wm_X0_21 ws_X0_joined wi_X0 wc_X0_joined rfl (by decide +kernel) ⟨(Nat.le_of_ble_eq_true rfl), (Nat.le_of_ble_eq_true rfl)⟩ ⟨rfl, rfl⟩ dX0_withFact_14 (fun _ _ h => h.2) (Nat.le_of_ble_eq_true rfl) rfl ⟨Nat.zero_le _, Nat.zero_le _⟩ (fun r hp => ?_)
  obtain ⟨rfl, -⟩ := hp
  refine g_st [.long (eL (jn L (part / 8 % 8) (own (w / 8 % 8) ap)))] rfl ?_
  refine g_lstore C [(5, .long (eL (jn L (part / 8 % 8) (own (w / 8 % 8) ap)))), (0, .long (lN (zpk L 12))), (2, .int (nI part)), (3, .int (nI w)), (4, .int (nI ap))] dX0_withFact_17 (by decide) rfl ?_
  refine g_lload C 0 rfl dX0_withFact_19 ?_
  refine g_ldc2 C wd_X0_25 dX0_withFact_21 ?_
  refine g_lcmp C (bI ((jn L (part / 8 % 8) (own (w / 8 % 8) ap)).isSome)) (eL_cmp _ (fun M e => vl_jn hL (by omega) o1 e)) dX0_withFact_24 ?_
  refine g_if_neB C ((jn L (part / 8 % 8) (own (w / 8 % 8) ap)).isSome) 32 rfl dX0_withFact_25 rfl (fun c25 => ?_) (fun c25 => ?_)
  · skip
    obtain ⟨L2, hL2⟩ := Option.isSome_iff_exists.mp c25
    refine g_lo2 [(5, .long (lN (zpk L2 12))), (0, .long (lN (zpk L 12))), (2, .int (nI part)), (3, .int (nI w)), (4, .int (nI ap))] (by rw [hL2]; rfl) ?_
    refine g_lload C 0 rfl dX0_withFact_32 ?_
    refine g_iload_n C 2 rfl dX0_withFact_34 ?_
    refine g_callS0 C (nA := 1) (k_X1_second l D ty part (by omega)) wm_X0_27 ws_X1_second wi_X1 wc_X1_second rfl (by decide +kernel) ⟨(Nat.le_of_ble_eq_true rfl), (Nat.le_of_ble_eq_true rfl)⟩ ⟨rfl, rfl⟩ dX0_withFact_35 (fun _ _ h => h.2) (Nat.le_of_ble_eq_true rfl) rfl ⟨Nat.zero_le _, Nat.zero_le _⟩ (fun r hp => ?_)
    obtain ⟨rfl, -⟩ := hp
    refine g_st [.int (nI (part % 8)), .long (lN (zpk L2 12))] rfl ?_
    refine g_iload_n C 3 rfl dX0_withFact_38 ?_
    refine g_callS0 C (nA := 1) (k_X1_second l D ty w (by omega)) wm_X0_27 ws_X1_second wi_X1 wc_X1_second rfl (by decide +kernel) ⟨(Nat.le_of_ble_eq_true rfl), (Nat.le_of_ble_eq_true rfl)⟩ ⟨rfl, rfl⟩ dX0_withFact_39 (fun _ _ h => h.2) (Nat.le_of_ble_eq_true rfl) rfl ⟨Nat.zero_le _, Nat.zero_le _⟩ (fun r hp => ?_)
    obtain ⟨rfl, -⟩ := hp
    refine g_st [.int (nI (w % 8)), .int (nI (part % 8)), .long (lN (zpk L2 12))] rfl ?_
    refine g_iload C 4 rfl dX0_withFact_42 ?_
    refine g_callS0 C (nA := 2) (k_X0_ownTerm l D ty (w % 8) ap (by omega) (by omega)) wm_X0_15 ws_X0_ownTerm wi_X0 wc_X0_ownTerm rfl (by decide +kernel) ⟨(Nat.le_of_ble_eq_true rfl), (Nat.le_of_ble_eq_true rfl)⟩ ⟨rfl, rfl⟩ dX0_withFact_44 (fun _ _ h => h.2) (Nat.le_of_ble_eq_true rfl) rfl ⟨Nat.zero_le _, Nat.zero_le _⟩ (fun r hp => ?_)
    obtain ⟨rfl, -⟩ := hp
    refine g_st [.int (nI (own (w % 8) ap)), .int (nI (part % 8)), .long (lN (zpk L2 12))] rfl ?_
    refine g_callS0 C (nA := 3) (k_X0_joined l D ty L2 (part % 8) (own (w % 8) ap) (vl_jn hL (by omega) o1 hL2) (by omega) (by omega)) wm_X0_21 ws_X0_joined wi_X0 wc_X0_joined rfl (by decide +kernel) ⟨(Nat.le_of_ble_eq_true rfl), (Nat.le_of_ble_eq_true rfl)⟩ ⟨rfl, rfl⟩ dX0_withFact_47 (fun _ _ h => h.2) (Nat.le_of_ble_eq_true rfl) rfl ⟨Nat.zero_le _, Nat.zero_le _⟩ (fun r hp => ?_)
    obtain ⟨rfl, -⟩ := hp
    refine g_st [.long (eL (jn L2 (part % 8) (own (w % 8) ap)))] rfl ?_
    exact g_lret E dX0_withFact_50 (by decide) (by decide) ⟨(congrArg (fun z => some (Value.long z)) (by unfold al; rw [hL2]; rfl)), rfl⟩
  · skip
    refine g_ldc2 C wd_X0_25 dX0_withFact_28 ?_
    exact g_lret E dX0_withFact_31 (by decide) (by decide) ⟨(congrArg (fun z => some (Value.long z)) (by unfold al; rw [show jn L (part / 8 % 8) (own (w / 8 % 8) ap) = none from Option.not_isSome_iff_eq_none.mp (by rw [c25]; decide)]; rfl)), rfl⟩
def r_X0_result : Room := { frames := 1, cells := 0, slots := 0, locals := 22 }
set_option maxRecDepth 100000 in
set_option maxHeartbeats 4000000 in
theorem k_X0_result (l : Launch) (D : va_G) (ty : Nat → ClassId) (L : Nat → Nat) (h : Nat) (hL : vl L) (hh : h < 256) : gM l D ty yX0_result cX0_result 7 (some (FieldType.int : FieldType)) r_X0_result 0 0 [.long (lN (zpk L 12)), .int (nI h)] [] (fun (zr : Option Value) (zW : va_W) => zr = some (.int (nI (rs L h))) ∧ zW = []) := by
  have b1 := (hL (h / 8 % 8) (by omega)).1
  have b2 := (hL (h % 8) (by omega)).1
  refine gM_of RX0 rfl (by decide +kernel) (Nat.le_of_ble_eq_true rfl) ?_
  intro pg en s0 mi ag bl mth cd AA HH QQ C E hnm
  show gW pg l en r_X0_result s0 mi ag bl mth cd 7 D AA HH QQ 0 [(0, .long (lN (zpk L 12))), (2, .int (nI h))] [] [] 0 0
  refine g_lload_n C 0 rfl dX0_result_0 ?_
  refine g_iload_n C 1 rfl dX0_result_1 ?_
  refine g_callS0 C (nA := 1) (k_X1_first l D ty h (by omega)) wm_X0_9 ws_X1_first wi_X1 wc_X1_first rfl (by decide +kernel) ⟨(Nat.le_of_ble_eq_true rfl), (Nat.le_of_ble_eq_true rfl)⟩ ⟨rfl, rfl⟩ dX0_result_2 (fun _ _ h => h.2) (Nat.le_of_ble_eq_true rfl) rfl ⟨Nat.zero_le _, Nat.zero_le _⟩ (fun r hp => ?_)
  obtain ⟨rfl, -⟩ := hp
  refine g_st [.int (nI (h / 8 % 8)), .long (lN (zpk L 12))] rfl ?_
  refine g_callS0 C (nA := 2) (k_X0_become l D ty L (h / 8 % 8) hL (by omega)) wm_X0_30 ws_X0_become wi_X0 wc_X0_become rfl (by decide +kernel) ⟨(Nat.le_of_ble_eq_true rfl), (Nat.le_of_ble_eq_true rfl)⟩ ⟨rfl, rfl⟩ dX0_result_5 (fun _ _ h => h.2) (Nat.le_of_ble_eq_true rfl) rfl ⟨Nat.zero_le _, Nat.zero_le _⟩ (fun r hp => ?_)
  obtain ⟨rfl, -⟩ := hp
  refine g_st [.int (nI (L (h / 8 % 8)))] rfl ?_
  refine g_istore_n C [(3, .int (nI (L (h / 8 % 8)))), (0, .long (lN (zpk L 12))), (2, .int (nI h))] dX0_result_8 rfl (by decide) rfl ?_
  refine g_lload_n C 1 rfl dX0_result_9 ?_
  refine g_iload_n C 2 rfl dX0_result_10 ?_
  refine g_callS0 C (nA := 1) (k_X1_second l D ty h (by omega)) wm_X0_27 ws_X1_second wi_X1 wc_X1_second rfl (by decide +kernel) ⟨(Nat.le_of_ble_eq_true rfl), (Nat.le_of_ble_eq_true rfl)⟩ ⟨rfl, rfl⟩ dX0_result_11 (fun _ _ h => h.2) (Nat.le_of_ble_eq_true rfl) rfl ⟨Nat.zero_le _, Nat.zero_le _⟩ (fun r hp => ?_)
  obtain ⟨rfl, -⟩ := hp
  refine g_st [.int (nI (h % 8)), .long (lN (zpk L 12))] rfl ?_
  refine g_callS0 C (nA := 2) (k_X0_become l D ty L (h % 8) hL (by omega)) wm_X0_30 ws_X0_become wi_X0 wc_X0_become rfl (by decide +kernel) ⟨(Nat.le_of_ble_eq_true rfl), (Nat.le_of_ble_eq_true rfl)⟩ ⟨rfl, rfl⟩ dX0_result_14 (fun _ _ h => h.2) (Nat.le_of_ble_eq_true rfl) rfl ⟨Nat.zero_le _, Nat.zero_le _⟩ (fun r hp => ?_)
  obtain ⟨rfl, -⟩ := hp
  refine g_st [.int (nI (L (h % 8)))] rfl ?_
  refine g_istore C [(4, .int (nI (L (h % 8)))), (3, .int (nI (L (h / 8 % 8)))), (0, .long (lN (zpk L 12))), (2, .int (nI h))] dX0_result_17 (by decide) rfl ?_
  refine g_iload_n C 1 rfl dX0_result_19 ?_
  refine g_iconst C (nI 4) ic_4 dX0_result_20 ?_
  refine g_icmp_geN C (L (h / 8 % 8)) 4 28 rfl rfl (by omega) (by omega) dX0_result_21 rfl (fun c21 => ?_) (fun c21 => ?_)
  · skip
    refine g_iconst C (nI 4) ic_4 dX0_result_28 ?_
    refine g_istore C [(5, .int (nI 4)), (4, .int (nI (L (h % 8)))), (3, .int (nI (L (h / 8 % 8)))), (0, .long (lN (zpk L 12))), (2, .int (nI h))] dX0_result_29 (by decide) rfl ?_
    refine g_iload C 1 rfl dX0_result_31 ?_
    refine g_istore C [(6, .int (nI (L (h % 8)))), (5, .int (nI 4)), (4, .int (nI (L (h % 8)))), (3, .int (nI (L (h / 8 % 8)))), (0, .long (lN (zpk L 12))), (2, .int (nI h))] dX0_result_33 (by decide) rfl ?_
    refine g_iload C 2 rfl dX0_result_35 ?_
    refine g_iconst C (nI 4) ic_4 dX0_result_37 ?_
    refine g_icmp_ltN C (L (h % 8)) 4 59 rfl rfl (by omega) (by omega) dX0_result_38 rfl (fun c38 => ?_) (fun c38 => ?_)
    · skip
      refine g_iload_n C 5 rfl dX0_result_59 ?_
      refine g_callS0 C (nA := 1) (k_X1_predicate l D ty h (by omega)) wm_X0_34 ws_X1_predicate wi_X1 wc_X1_predicate rfl (by decide +kernel) ⟨(Nat.le_of_ble_eq_true rfl), (Nat.le_of_ble_eq_true rfl)⟩ ⟨rfl, rfl⟩ dX0_result_60 (fun _ _ h => h.2) (Nat.le_of_ble_eq_true rfl) rfl ⟨Nat.zero_le _, Nat.zero_le _⟩ (fun r hp => ?_)
      obtain ⟨rfl, -⟩ := hp
      refine g_st [.int (nI (h / 64))] rfl ?_
      refine g_iload C 1 rfl dX0_result_63 ?_
      refine g_iload C 0 rfl dX0_result_65 ?_
      refine g_callS0 C (nA := 3) (k_X1_of l D ty (h / 64) 4 (L (h % 8)) ) wm_X0_37 ws_X1_of wi_X1 wc_X1_of rfl (by decide +kernel) ⟨(Nat.le_of_ble_eq_true rfl), (Nat.le_of_ble_eq_true rfl)⟩ ⟨rfl, rfl⟩ dX0_result_67 (fun _ _ h => h.2) (Nat.le_of_ble_eq_true rfl) rfl ⟨Nat.zero_le _, Nat.zero_le _⟩ (fun r hp => ?_)
      obtain ⟨rfl, -⟩ := hp
      refine g_st [.int (nI (64 * (h / 64) + 8 * 4 + (L (h % 8))))] rfl ?_
      exact g_iret E dX0_result_70 (by decide) (by decide) ⟨(congrArg (fun z => some (Value.int (nI z))) (by clear C E; unfold rs; grind)), rfl⟩
    · skip
      refine g_iload_n C 3 rfl dX0_result_41 ?_
      refine g_iconst C (nI 4) ic_4 dX0_result_42 ?_
      refine g_icmp_ltN C (L (h / 8 % 8)) 4 52 rfl rfl (by omega) (by omega) dX0_result_43 rfl (fun c43 => ?_) (fun c43 => ?_)
      · skip
        refine g_iconst C (nI 4) ic_4 dX0_result_52 ?_
        refine g_goto C 57 dX0_result_53 rfl ?_
        refine g_istore C [(6, .int (nI 4)), (5, .int (nI 4)), (4, .int (nI (L (h % 8)))), (3, .int (nI (L (h / 8 % 8)))), (0, .long (lN (zpk L 12))), (2, .int (nI h))] dX0_result_57 (by decide) rfl ?_
        refine g_iload_n C 5 rfl dX0_result_59 ?_
        refine g_callS0 C (nA := 1) (k_X1_predicate l D ty h (by omega)) wm_X0_34 ws_X1_predicate wi_X1 wc_X1_predicate rfl (by decide +kernel) ⟨(Nat.le_of_ble_eq_true rfl), (Nat.le_of_ble_eq_true rfl)⟩ ⟨rfl, rfl⟩ dX0_result_60 (fun _ _ h => h.2) (Nat.le_of_ble_eq_true rfl) rfl ⟨Nat.zero_le _, Nat.zero_le _⟩ (fun r hp => ?_)
        obtain ⟨rfl, -⟩ := hp
        refine g_st [.int (nI (h / 64))] rfl ?_
        refine g_iload C 1 rfl dX0_result_63 ?_
        refine g_iload C 0 rfl dX0_result_65 ?_
        refine g_callS0 C (nA := 3) (k_X1_of l D ty (h / 64) 4 4 ) wm_X0_37 ws_X1_of wi_X1 wc_X1_of rfl (by decide +kernel) ⟨(Nat.le_of_ble_eq_true rfl), (Nat.le_of_ble_eq_true rfl)⟩ ⟨rfl, rfl⟩ dX0_result_67 (fun _ _ h => h.2) (Nat.le_of_ble_eq_true rfl) rfl ⟨Nat.zero_le _, Nat.zero_le _⟩ (fun r hp => ?_)
        obtain ⟨rfl, -⟩ := hp
        refine g_st [.int (nI (64 * (h / 64) + 8 * 4 + 4))] rfl ?_
        exact g_iret E dX0_result_70 (by decide) (by decide) ⟨(congrArg (fun z => some (Value.int (nI z))) (by clear C E; unfold rs; grind)), rfl⟩
      · skip
        refine g_iload_n C 3 rfl dX0_result_46 ?_
        refine g_iload C 2 rfl dX0_result_47 ?_
        refine g_icmp_neN C (L (h / 8 % 8)) (L (h % 8)) 56 rfl rfl (by omega) (by omega) dX0_result_49 rfl (fun c49 => ?_) (fun c49 => ?_)
        · skip
          refine g_iconst C (nI 5) ic_5 dX0_result_56 ?_
          refine g_istore C [(6, .int (nI 5)), (5, .int (nI 4)), (4, .int (nI (L (h % 8)))), (3, .int (nI (L (h / 8 % 8)))), (0, .long (lN (zpk L 12))), (2, .int (nI h))] dX0_result_57 (by decide) rfl ?_
          refine g_iload_n C 5 rfl dX0_result_59 ?_
          refine g_callS0 C (nA := 1) (k_X1_predicate l D ty h (by omega)) wm_X0_34 ws_X1_predicate wi_X1 wc_X1_predicate rfl (by decide +kernel) ⟨(Nat.le_of_ble_eq_true rfl), (Nat.le_of_ble_eq_true rfl)⟩ ⟨rfl, rfl⟩ dX0_result_60 (fun _ _ h => h.2) (Nat.le_of_ble_eq_true rfl) rfl ⟨Nat.zero_le _, Nat.zero_le _⟩ (fun r hp => ?_)
          obtain ⟨rfl, -⟩ := hp
          refine g_st [.int (nI (h / 64))] rfl ?_
          refine g_iload C 1 rfl dX0_result_63 ?_
          refine g_iload C 0 rfl dX0_result_65 ?_
          refine g_callS0 C (nA := 3) (k_X1_of l D ty (h / 64) 4 5 ) wm_X0_37 ws_X1_of wi_X1 wc_X1_of rfl (by decide +kernel) ⟨(Nat.le_of_ble_eq_true rfl), (Nat.le_of_ble_eq_true rfl)⟩ ⟨rfl, rfl⟩ dX0_result_67 (fun _ _ h => h.2) (Nat.le_of_ble_eq_true rfl) rfl ⟨Nat.zero_le _, Nat.zero_le _⟩ (fun r hp => ?_)
          obtain ⟨rfl, -⟩ := hp
          refine g_st [.int (nI (64 * (h / 64) + 8 * 4 + 5))] rfl ?_
          exact g_iret E dX0_result_70 (by decide) (by decide) ⟨(congrArg (fun z => some (Value.int (nI z))) (by clear C E; unfold rs; grind)), rfl⟩
        · skip
          refine g_iconst C (nI 4) ic_4 dX0_result_52 ?_
          refine g_goto C 57 dX0_result_53 rfl ?_
          refine g_istore C [(6, .int (nI 4)), (5, .int (nI 4)), (4, .int (nI (L (h % 8)))), (3, .int (nI (L (h / 8 % 8)))), (0, .long (lN (zpk L 12))), (2, .int (nI h))] dX0_result_57 (by decide) rfl ?_
          refine g_iload_n C 5 rfl dX0_result_59 ?_
          refine g_callS0 C (nA := 1) (k_X1_predicate l D ty h (by omega)) wm_X0_34 ws_X1_predicate wi_X1 wc_X1_predicate rfl (by decide +kernel) ⟨(Nat.le_of_ble_eq_true rfl), (Nat.le_of_ble_eq_true rfl)⟩ ⟨rfl, rfl⟩ dX0_result_60 (fun _ _ h => h.2) (Nat.le_of_ble_eq_true rfl) rfl ⟨Nat.zero_le _, Nat.zero_le _⟩ (fun r hp => ?_)
          obtain ⟨rfl, -⟩ := hp
          refine g_st [.int (nI (h / 64))] rfl ?_
          refine g_iload C 1 rfl dX0_result_63 ?_
          refine g_iload C 0 rfl dX0_result_65 ?_
          refine g_callS0 C (nA := 3) (k_X1_of l D ty (h / 64) 4 4 ) wm_X0_37 ws_X1_of wi_X1 wc_X1_of rfl (by decide +kernel) ⟨(Nat.le_of_ble_eq_true rfl), (Nat.le_of_ble_eq_true rfl)⟩ ⟨rfl, rfl⟩ dX0_result_67 (fun _ _ h => h.2) (Nat.le_of_ble_eq_true rfl) rfl ⟨Nat.zero_le _, Nat.zero_le _⟩ (fun r hp => ?_)
          obtain ⟨rfl, -⟩ := hp
          refine g_st [.int (nI (64 * (h / 64) + 8 * 4 + 4))] rfl ?_
          exact g_iret E dX0_result_70 (by decide) (by decide) ⟨(congrArg (fun z => some (Value.int (nI z))) (by clear C E; unfold rs; grind)), rfl⟩
  · skip
    refine g_iload_n C 1 rfl dX0_result_24 ?_
    refine g_goto C 29 dX0_result_25 rfl ?_
    refine g_istore C [(5, .int (nI (L (h / 8 % 8)))), (4, .int (nI (L (h % 8)))), (3, .int (nI (L (h / 8 % 8)))), (0, .long (lN (zpk L 12))), (2, .int (nI h))] dX0_result_29 (by decide) rfl ?_
    refine g_iload C 1 rfl dX0_result_31 ?_
    refine g_istore C [(6, .int (nI (L (h % 8)))), (5, .int (nI (L (h / 8 % 8)))), (4, .int (nI (L (h % 8)))), (3, .int (nI (L (h / 8 % 8)))), (0, .long (lN (zpk L 12))), (2, .int (nI h))] dX0_result_33 (by decide) rfl ?_
    refine g_iload C 2 rfl dX0_result_35 ?_
    refine g_iconst C (nI 4) ic_4 dX0_result_37 ?_
    refine g_icmp_ltN C (L (h % 8)) 4 59 rfl rfl (by omega) (by omega) dX0_result_38 rfl (fun c38 => ?_) (fun c38 => ?_)
    · skip
      refine g_iload_n C 5 rfl dX0_result_59 ?_
      refine g_callS0 C (nA := 1) (k_X1_predicate l D ty h (by omega)) wm_X0_34 ws_X1_predicate wi_X1 wc_X1_predicate rfl (by decide +kernel) ⟨(Nat.le_of_ble_eq_true rfl), (Nat.le_of_ble_eq_true rfl)⟩ ⟨rfl, rfl⟩ dX0_result_60 (fun _ _ h => h.2) (Nat.le_of_ble_eq_true rfl) rfl ⟨Nat.zero_le _, Nat.zero_le _⟩ (fun r hp => ?_)
      obtain ⟨rfl, -⟩ := hp
      refine g_st [.int (nI (h / 64))] rfl ?_
      refine g_iload C 1 rfl dX0_result_63 ?_
      refine g_iload C 0 rfl dX0_result_65 ?_
      refine g_callS0 C (nA := 3) (k_X1_of l D ty (h / 64) (L (h / 8 % 8)) (L (h % 8)) ) wm_X0_37 ws_X1_of wi_X1 wc_X1_of rfl (by decide +kernel) ⟨(Nat.le_of_ble_eq_true rfl), (Nat.le_of_ble_eq_true rfl)⟩ ⟨rfl, rfl⟩ dX0_result_67 (fun _ _ h => h.2) (Nat.le_of_ble_eq_true rfl) rfl ⟨Nat.zero_le _, Nat.zero_le _⟩ (fun r hp => ?_)
      obtain ⟨rfl, -⟩ := hp
      refine g_st [.int (nI (64 * (h / 64) + 8 * (L (h / 8 % 8)) + (L (h % 8))))] rfl ?_
      exact g_iret E dX0_result_70 (by decide) (by decide) ⟨(congrArg (fun z => some (Value.int (nI z))) (by clear C E; unfold rs; grind)), rfl⟩
    · skip
      refine g_iload_n C 3 rfl dX0_result_41 ?_
      refine g_iconst C (nI 4) ic_4 dX0_result_42 ?_
      refine g_icmp_ltN C (L (h / 8 % 8)) 4 52 rfl rfl (by omega) (by omega) dX0_result_43 rfl (fun c43 => ?_) (fun c43 => ?_)
      · skip
        refine g_iconst C (nI 4) ic_4 dX0_result_52 ?_
        refine g_goto C 57 dX0_result_53 rfl ?_
        refine g_istore C [(6, .int (nI 4)), (5, .int (nI (L (h / 8 % 8)))), (4, .int (nI (L (h % 8)))), (3, .int (nI (L (h / 8 % 8)))), (0, .long (lN (zpk L 12))), (2, .int (nI h))] dX0_result_57 (by decide) rfl ?_
        refine g_iload_n C 5 rfl dX0_result_59 ?_
        refine g_callS0 C (nA := 1) (k_X1_predicate l D ty h (by omega)) wm_X0_34 ws_X1_predicate wi_X1 wc_X1_predicate rfl (by decide +kernel) ⟨(Nat.le_of_ble_eq_true rfl), (Nat.le_of_ble_eq_true rfl)⟩ ⟨rfl, rfl⟩ dX0_result_60 (fun _ _ h => h.2) (Nat.le_of_ble_eq_true rfl) rfl ⟨Nat.zero_le _, Nat.zero_le _⟩ (fun r hp => ?_)
        obtain ⟨rfl, -⟩ := hp
        refine g_st [.int (nI (h / 64))] rfl ?_
        refine g_iload C 1 rfl dX0_result_63 ?_
        refine g_iload C 0 rfl dX0_result_65 ?_
        refine g_callS0 C (nA := 3) (k_X1_of l D ty (h / 64) (L (h / 8 % 8)) 4 ) wm_X0_37 ws_X1_of wi_X1 wc_X1_of rfl (by decide +kernel) ⟨(Nat.le_of_ble_eq_true rfl), (Nat.le_of_ble_eq_true rfl)⟩ ⟨rfl, rfl⟩ dX0_result_67 (fun _ _ h => h.2) (Nat.le_of_ble_eq_true rfl) rfl ⟨Nat.zero_le _, Nat.zero_le _⟩ (fun r hp => ?_)
        obtain ⟨rfl, -⟩ := hp
        refine g_st [.int (nI (64 * (h / 64) + 8 * (L (h / 8 % 8)) + 4))] rfl ?_
        exact g_iret E dX0_result_70 (by decide) (by decide) ⟨(congrArg (fun z => some (Value.int (nI z))) (by clear C E; unfold rs; grind)), rfl⟩
      · skip
        refine g_iload_n C 3 rfl dX0_result_46 ?_
        refine g_iload C 2 rfl dX0_result_47 ?_
        refine g_icmp_neN C (L (h / 8 % 8)) (L (h % 8)) 56 rfl rfl (by omega) (by omega) dX0_result_49 rfl (fun c49 => ?_) (fun c49 => ?_)
        · skip
          refine g_iconst C (nI 5) ic_5 dX0_result_56 ?_
          refine g_istore C [(6, .int (nI 5)), (5, .int (nI (L (h / 8 % 8)))), (4, .int (nI (L (h % 8)))), (3, .int (nI (L (h / 8 % 8)))), (0, .long (lN (zpk L 12))), (2, .int (nI h))] dX0_result_57 (by decide) rfl ?_
          refine g_iload_n C 5 rfl dX0_result_59 ?_
          refine g_callS0 C (nA := 1) (k_X1_predicate l D ty h (by omega)) wm_X0_34 ws_X1_predicate wi_X1 wc_X1_predicate rfl (by decide +kernel) ⟨(Nat.le_of_ble_eq_true rfl), (Nat.le_of_ble_eq_true rfl)⟩ ⟨rfl, rfl⟩ dX0_result_60 (fun _ _ h => h.2) (Nat.le_of_ble_eq_true rfl) rfl ⟨Nat.zero_le _, Nat.zero_le _⟩ (fun r hp => ?_)
          obtain ⟨rfl, -⟩ := hp
          refine g_st [.int (nI (h / 64))] rfl ?_
          refine g_iload C 1 rfl dX0_result_63 ?_
          refine g_iload C 0 rfl dX0_result_65 ?_
          refine g_callS0 C (nA := 3) (k_X1_of l D ty (h / 64) (L (h / 8 % 8)) 5 ) wm_X0_37 ws_X1_of wi_X1 wc_X1_of rfl (by decide +kernel) ⟨(Nat.le_of_ble_eq_true rfl), (Nat.le_of_ble_eq_true rfl)⟩ ⟨rfl, rfl⟩ dX0_result_67 (fun _ _ h => h.2) (Nat.le_of_ble_eq_true rfl) rfl ⟨Nat.zero_le _, Nat.zero_le _⟩ (fun r hp => ?_)
          obtain ⟨rfl, -⟩ := hp
          refine g_st [.int (nI (64 * (h / 64) + 8 * (L (h / 8 % 8)) + 5))] rfl ?_
          exact g_iret E dX0_result_70 (by decide) (by decide) ⟨(congrArg (fun z => some (Value.int (nI z))) (by clear C E; unfold rs; grind)), rfl⟩
        · skip
          refine g_iconst C (nI 4) ic_4 dX0_result_52 ?_
          refine g_goto C 57 dX0_result_53 rfl ?_
          refine g_istore C [(6, .int (nI 4)), (5, .int (nI (L (h / 8 % 8)))), (4, .int (nI (L (h % 8)))), (3, .int (nI (L (h / 8 % 8)))), (0, .long (lN (zpk L 12))), (2, .int (nI h))] dX0_result_57 (by decide) rfl ?_
          refine g_iload_n C 5 rfl dX0_result_59 ?_
          refine g_callS0 C (nA := 1) (k_X1_predicate l D ty h (by omega)) wm_X0_34 ws_X1_predicate wi_X1 wc_X1_predicate rfl (by decide +kernel) ⟨(Nat.le_of_ble_eq_true rfl), (Nat.le_of_ble_eq_true rfl)⟩ ⟨rfl, rfl⟩ dX0_result_60 (fun _ _ h => h.2) (Nat.le_of_ble_eq_true rfl) rfl ⟨Nat.zero_le _, Nat.zero_le _⟩ (fun r hp => ?_)
          obtain ⟨rfl, -⟩ := hp
          refine g_st [.int (nI (h / 64))] rfl ?_
          refine g_iload C 1 rfl dX0_result_63 ?_
          refine g_iload C 0 rfl dX0_result_65 ?_
          refine g_callS0 C (nA := 3) (k_X1_of l D ty (h / 64) (L (h / 8 % 8)) 4 ) wm_X0_37 ws_X1_of wi_X1 wc_X1_of rfl (by decide +kernel) ⟨(Nat.le_of_ble_eq_true rfl), (Nat.le_of_ble_eq_true rfl)⟩ ⟨rfl, rfl⟩ dX0_result_67 (fun _ _ h => h.2) (Nat.le_of_ble_eq_true rfl) rfl ⟨Nat.zero_le _, Nat.zero_le _⟩ (fun r hp => ?_)
          obtain ⟨rfl, -⟩ := hp
          refine g_st [.int (nI (64 * (h / 64) + 8 * (L (h / 8 % 8)) + 4))] rfl ?_
          exact g_iret E dX0_result_70 (by decide) (by decide) ⟨(congrArg (fun z => some (Value.int (nI z))) (by clear C E; unfold rs; grind)), rfl⟩
