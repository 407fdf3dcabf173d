/-! the reference's links against the class's: what is alike there is alike here -/
def mT (t : Nat) : Nat := if t < 4 then t else t + 4
def alr (L r : Nat → Nat) : Prop := ∀ t, t < 12 → (L t < 4 → r t = L t) ∧ (4 ≤ L t → 8 ≤ r t) ∧ ∀ u, u < 12 → (r t = r u ↔ L t = L u)
def rM (rt c : Nat → Nat) : Nat → Nat := fun t => rsv rt c (mT t)
theorem mT_lt {t : Nat} (h : t < 12) : mT t < 16 := by unfold mT; split <;> omega
theorem mT_tm {t : Nat} (h : t < 8) : tmM t 0 = mT t := by unfold tmM mT; split <;> omega
theorem mT_own {t f : Nat} (h : t < 8) : tmM t f = mT (own t f) := by
  unfold tmM mT own
  by_cases z : t < 4
  · rw [if_pos z, if_pos z, if_pos z]
  · rw [if_neg z, if_neg z, if_neg (by omega)]; omega
theorem alr_mg {L r : Nat → Nat} (h : alr L r) {x y : Nat} (hx : x < 12) (hy : y < 12) (hne : L x ≠ L y) (hrx : 8 ≤ r x) :
    alr (mg L (min (L x) (L y)) (max (L x) (L y))) (fun t => if r t = r x then r y else r t) := by
  obtain ⟨x1, x2, x3⟩ := h x hx
  obtain ⟨y1, y2, y3⟩ := h y hy
  have xy := x3 y hy
  intro t ht
  obtain ⟨t1, t2, t3⟩ := h t ht
  have tx := t3 x hx
  have ty := t3 y hy
  refine ⟨?_, ?_, ?_⟩
  · simp only [mg]
    split <;> split <;> omega
  · simp only [mg]
    split <;> split <;> omega
  · intro u hu
    obtain ⟨u1, u2, u3⟩ := h u hu
    have ux := u3 x hx
    have uy := u3 y hy
    have tu := t3 u hu
    simp only [mg]
    split <;> split <;> split <;> split <;> omega
theorem rsv_rt {g rt d c : Nat → Nat} (hg : okG g rt d) (hc : okC c) {t : Nat} (ht : t < 16) (h : 8 ≤ rsv rt c t) : ∃ x, x < 8 ∧ rsv rt c t = 8 + x ∧ rt x = x ∧ c x = 256 := by
  by_cases h8 : t < 8
  · rw [rsv_1 h8] at h; omega
  · have hr := (hg (t - 8) (by omega)).1
    by_cases h2 : c (rt (t - 8)) = 256
    · exact ⟨rt (t - 8), hr, rsv_2 h8 h2, (okG_id hg (by omega)).2, h2⟩
    · rw [rsv_3 h8 h2] at h
      have := hc _ hr
      omega
theorem rsv_c {g rt d c : Nat → Nat} (hg : okG g rt d) (hc : okC c) {x v : Nat} (hx : x < 8) (hcx : c x = 256) (hv : v < 4) {t : Nat} (ht : t < 16) : rsv rt (upN c x v) t = if rsv rt c t = 8 + x then v else rsv rt c t := by
  by_cases h8 : t < 8
  · rw [rsv_1 h8, rsv_1 h8, if_neg (by omega)]
  · have hr := hc _ (hg (t - 8) (by omega)).1
    by_cases e : rt (t - 8) = x
    · rw [rsv_2 (c := c) h8 (by rw [e]; exact hcx), e, if_pos rfl]
      have : upN c x v (rt (t - 8)) = v := by unfold upN; rw [if_pos e]
      rw [rsv_3 h8 (by rw [this]; omega), this]
    · have : upN c x v (rt (t - 8)) = c (rt (t - 8)) := by unfold upN; rw [if_neg e]
      by_cases z : c (rt (t - 8)) = 256
      · rw [rsv_2 h8 (this.trans z), rsv_2 h8 z, if_neg (by omega)]
      · rw [rsv_3 h8 (by rw [this]; exact z), rsv_3 h8 z, this, if_neg (by omega)]
theorem rsv_g {g rt d c : Nat → Nat} (hg : okG g rt d) (hc : okC c) {x y : Nat} (hx : x < 8) (hcx : c x = 256) (hcy : c y = 256) {t : Nat} (ht : t < 16) : rsv (fun u => if rt u = x then y else rt u) c t = if rsv rt c t = 8 + x then 8 + y else rsv rt c t := by
  by_cases h8 : t < 8
  · rw [rsv_1 h8, rsv_1 h8, if_neg (by omega)]
  · have hr := hc _ (hg (t - 8) (by omega)).1
    by_cases e : rt (t - 8) = x
    · rw [rsv_2 (rt := rt) h8 (by rw [e]; exact hcx), e, if_pos rfl, rsv_2 h8 (by simp only [e, if_true]; exact hcy)]
      simp only [e, if_true]
    · by_cases z : c (rt (t - 8)) = 256
      · rw [rsv_2 (rt := rt) h8 z, if_neg (by omega), rsv_2 h8 (by simp only [e, if_false]; exact z)]
        simp only [e, if_false]
      · rw [rsv_3 (rt := rt) h8 z, if_neg (by omega), rsv_3 h8 (by simp only [e, if_false]; exact z)]
        simp only [e, if_false]
theorem alr_congr {L r r2 : Nat → Nat} (h : alr L r) (e : ∀ t, t < 12 → r2 t = r t) : alr L r2 := by
  intro t ht
  obtain ⟨h1, h2, h3⟩ := h t ht
  rw [e t ht]
  exact ⟨h1, h2, fun u hu => by rw [e u hu]; exact h3 u hu⟩
theorem alr_jn {g rt d c L : Nat → Nat} (hg : okG g rt d) (hc : okC c) (h : alr L (rM rt c)) {x y : Nat} (hx : x < 12) (hy : y < 12) {A B : Nat} (hA : A = rsv rt c (mT x)) (hB : B = rsv rt c (mT y)) :
    mkB A B = (jn L x y).isSome ∧ ∀ M, jn L x y = some M → ∃ rt2 d2, okG (mkG A B g) rt2 d2 ∧ okC (mkC A B c) ∧ alr M (rM rt2 (mkC A B c)) := by
  obtain ⟨x1, x2, x3⟩ := h x hx
  obtain ⟨y1, y2, y3⟩ := h y hy
  have xy := x3 y hy
  have eA_ : rM rt c x = A := hA.symm
  have eB_ : rM rt c y = B := hB.symm
  rw [eA_] at x1 x2 xy
  rw [eB_] at y1 y2 xy
  by_cases a8 : A < 8
  · have lx : L x < 4 := by omega
    by_cases b8 : B < 8
    · have ly : L y < 4 := by omega
      have e1 : mkB A B = decide (A = B) := by unfold mkB; rw [if_pos a8, if_pos b8]
      have e2 : mkG A B g = g := by unfold mkG; rw [if_pos a8]
      have e3 : mkC A B c = c := by unfold mkC; rw [if_pos a8, if_pos b8]
      rw [e1, e2, e3]
      by_cases e : L x = L y
      · have ej : jn L x y = some L := by unfold jn; rw [if_pos e]
        rw [ej, decide_eq_true (by omega)]
        refine ⟨rfl, fun M hM => ?_⟩
        cases hM
        exact ⟨rt, d, hg, hc, h⟩
      · have ej : jn L x y = none := by unfold jn; rw [if_neg e, if_pos (by omega)]
        rw [ej, decide_eq_false (by omega)]
        exact ⟨rfl, fun M hM => by cases hM⟩
    · have ly : 4 ≤ L y := by omega
      obtain ⟨w, hw, ew, _, hcw⟩ := rsv_rt hg hc (mT_lt hy) (by rw [← hB]; omega)
      rw [← hB] at ew
      have ej : jn L x y = some (mg L (min (L x) (L y)) (max (L x) (L y))) := by unfold jn; rw [if_neg (by omega), if_neg (by omega)]
      have e1 : mkB A B = true := by unfold mkB; rw [if_pos a8, if_neg b8]
      have e2 : mkG A B g = g := by unfold mkG; rw [if_pos a8]
      have e3 : mkC A B c = upN c w A := by unfold mkC; rw [if_pos a8, if_neg b8, show B - 8 = w by omega]
      rw [ej, e1, e2, e3]
      refine ⟨rfl, fun M hM => ?_⟩
      cases hM
      refine ⟨rt, d, hg, okC_up hc w (by omega), ?_⟩
      rw [Nat.min_comm, Nat.max_comm]
      refine alr_congr (alr_mg h hy hx (by omega) (by rw [eB_]; omega)) (fun t ht => ?_)
      show rsv rt (upN c w A) (mT t) = if rsv rt c (mT t) = rM rt c y then rM rt c x else rsv rt c (mT t)
      rw [rsv_c hg hc hw hcw (by omega) (mT_lt ht), eA_, eB_, ew]
  · obtain ⟨v, hv, ev, hrv, hcv⟩ := rsv_rt hg hc (mT_lt hx) (by rw [← hA]; omega)
    rw [← hA] at ev
    have lx : 4 ≤ L x := by omega
    have e1 : mkB A B = true := by unfold mkB; rw [if_neg a8]
    by_cases b8 : B < 8
    · have ly : L y < 4 := by omega
      have ej : jn L x y = some (mg L (min (L x) (L y)) (max (L x) (L y))) := by unfold jn; rw [if_neg (by omega), if_neg (by omega)]
      have e2 : mkG A B g = g := by unfold mkG; rw [if_neg a8, if_pos b8]
      have e3 : mkC A B c = upN c v B := by unfold mkC; rw [if_neg a8, if_pos b8, show A - 8 = v by omega]
      rw [ej, e1, e2, e3]
      refine ⟨rfl, fun M hM => ?_⟩
      cases hM
      refine ⟨rt, d, hg, okC_up hc v (by omega), ?_⟩
      refine alr_congr (alr_mg h hx hy (by omega) (by rw [eA_]; omega)) (fun t ht => ?_)
      show rsv rt (upN c v B) (mT t) = if rsv rt c (mT t) = rM rt c x then rM rt c y else rsv rt c (mT t)
      rw [rsv_c hg hc hv hcv (by omega) (mT_lt ht), eA_, eB_, ev]
    · obtain ⟨w, hw, ew, hrw, hcw⟩ := rsv_rt hg hc (mT_lt hy) (by rw [← hB]; omega)
      rw [← hB] at ew
      have ly : 4 ≤ L y := by omega
      have e2 : mkG A B g = upN g v w := by unfold mkG; rw [if_neg a8, if_neg b8, show A - 8 = v by omega, show B - 8 = w by omega]
      have e3 : mkC A B c = c := by unfold mkC; rw [if_neg a8, if_neg b8]
      have hr2 : ∀ t, t < 12 → rM (fun u => if rt u = v then w else rt u) c t = if rM rt c t = rM rt c x then rM rt c y else rM rt c t := fun t ht => by
        show rsv (fun u => if rt u = v then w else rt u) c (mT t) = if rsv rt c (mT t) = rM rt c x then rM rt c y else rsv rt c (mT t)
        rw [rsv_g hg hc hv hcv hcw (mT_lt ht), eA_, eB_, ev, ew]
      rw [e1, e2, e3]
      by_cases e : L x = L y
      · have ej : jn L x y = some L := by unfold jn; rw [if_pos e]
        rw [ej]
        refine ⟨rfl, fun M hM => ?_⟩
        cases hM
        refine ⟨_, _, okG_join hg hv hw hrv hrw, hc, alr_congr h (fun t ht => (hr2 t ht).trans ?_)⟩
        rw [eA_, eB_]
        split <;> omega
      · have ej : jn L x y = some (mg L (min (L x) (L y)) (max (L x) (L y))) := by unfold jn; rw [if_neg e, if_neg (by omega)]
        rw [ej]
        refine ⟨rfl, fun M hM => ?_⟩
        cases hM
        exact ⟨_, _, okG_join hg hv hw hrv hrw, hc, alr_congr (alr_mg h hx hy e (by rw [eA_]; omega)) hr2⟩
theorem rs_of {rt c L : Nat → Nat} (h : alr L (rM rt c)) {a : Nat} (ha : a < 256) : rsN (rsv rt c (tmM (a / 8 % 8) 0)) (rsv rt c (tmM (a % 8) 0)) a = rs L a := by
  rw [mT_tm (show a / 8 % 8 < 8 by omega), mT_tm (show a % 8 < 8 by omega)]
  have k1 := h (a / 8 % 8) (by omega)
  have k2 := h (a % 8) (by omega)
  have k3 := k1.2.2 (a % 8) (by omega)
  show rsN (rM rt c (a / 8 % 8)) (rM rt c (a % 8)) a = rs L a
  unfold rsN rs
  (repeat' split) <;> omega
theorem alr_0 : alr idL (rM (fun j => j) (fun _ => 256)) := by
  have e : ∀ t, rM (fun j => j) (fun _ => 256) t = mT t := by
    intro t
    unfold rM
    by_cases h : mT t < 8
    · exact rsv_1 h
    · rw [rsv_2 h rfl]; omega
  intro t ht
  rw [e]
  refine ⟨?_, ?_, fun u hu => ?_⟩
  · unfold idL mT; split <;> omega
  · unfold idL mT; split <;> omega
  · rw [e]; unfold idL mT; split <;> split <;> omega
theorem okG_0 : okG (fun j => j) (fun j => j) (fun _ => 0) := fun u hu => ⟨hu, fun _ => rfl, fun z => absurd rfl z⟩
theorem okC_0 : okC (fun _ => 256) := fun u hu => Or.inr rfl
theorem al_m (L : Nat → Nat) (a ap : Nat) {p n : Nat} (hn : n < 64) : al L a (64 * p + n) ap = al L a n ap := by
  unfold al
  rw [show (64 * p + n) / 8 % 8 = n / 8 % 8 by omega, show (64 * p + n) % 8 = n % 8 by omega]

def r_X8_isAlike : Room := { frames := 3, cells := 0, slots := 0, locals := 68 }
set_option maxRecDepth 100000 in
set_option maxHeartbeats 4000000 in
theorem k_X8_isAlike (l : Launch) (D : va_G) (ty : Nat → ClassId) (x0 : Nat) (th : Nat) (i1 : Nat) (i2 : Nat) (sd : Nat) (i3 : Nat) (ln : Nat) (j1 : Nat) (j2 : Nat) (j3 : Nat) (j4 : Nat) (j5 : Nat) (j6 : Nat) (fm : Nat) (rd : Nat) (mt : Nat) (dr : Nat) (j7 : Nat) (j8 : Nat) (tt : Nat) (wl : Bool) (j9 : Nat) (lm : Nat) (hs : Int64) (g : Nat → Nat) (rt : Nat → Nat) (d : Nat → Nat) (c : Nat → Nat) (L : Nat → Nat) (a : Nat) (f : Nat) (fi : Nat) (hg : okG g rt d) (hc : okC c) (hL : vl L) (hr : alr L (rM rt c)) (ha : a < 256) (hf : f < 256) (hf5 : f / 8 % 8 ≤ 5 ∧ f % 8 ≤ 5) (hfi : fi ≤ 6) : gM l D ty yX8_isAlike cX8_isAlike 4 (some (FieldType.boolean : FieldType)) r_X8_isAlike 0 0 [.ref x0, .int (nI a), .int (nI f), .int (nI fi)] [(x0, .inr (6, [.int (nI th), .ref i1, .ref i2, .int (nI sd), .ref i3, .int (nI ln), .ref j1, .ref j2, .ref j3, .ref j4, .ref j5, .ref j6, .int (nI fm), .int (nI rd), .int (nI mt), .int (nI dr), .ref j7, .ref j8, .int (nI tt), .int (bI (wl)), .ref j9, .int (nI lm), .long (hs)])), (j7, .inl (ty 0, 8, .inl (tI g))), (j8, .inl (ty 0, 8, .inl (eR c)))] (fun (zr : Option Value) (zW : va_W) => ∃ (g9 : Nat → Nat) (c9 : Nat → Nat), (∀ M, al L a f fi = some M → ∃ rt2 d2, okG g9 rt2 d2 ∧ okC c9 ∧ alr M (rM rt2 c9)) ∧ zr = some (.int (bI ((al L a f fi).isSome))) ∧ zW = [(x0, .inr (6, [.int (nI th), .ref i1, .ref i2, .int (nI sd), .ref i3, .int (nI ln), .ref j1, .ref j2, .ref j3, .ref j4, .ref j5, .ref j6, .int (nI fm), .int (nI rd), .int (nI mt), .int (nI dr), .ref j7, .ref j8, .int (nI tt), .int (bI (wl)), .ref j9, .int (nI lm), .long (hs)])), (j7, .inl (ty 0, 8, .inl (tI g9))), (j8, .inl (ty 0, 8, .inl (eR c9)))]) := by
  have o1 := own_lt hf5.1 hfi
  have o2 := own_lt hf5.2 hfi
  have t1 := mT_tm (t := a / 8 % 8) (by omega)
  have t2 := mT_tm (t := a % 8) (by omega)
  have t3 := mT_own (t := f / 8 % 8) (f := fi) (by omega)
  have t4 := mT_own (t := f % 8) (f := fi) (by omega)
  have m1 := mT_lt (t := a / 8 % 8) (by omega)
  have m2 := mT_lt (t := a % 8) (by omega)
  have m3 := mT_lt o1
  have m4 := mT_lt o2
  have hj := alr_jn hg hc hr (x := a / 8 % 8) (by omega) o1 (congrArg (rsv rt c) t1) (congrArg (rsv rt c) t3)
  refine gM_of RX8 rfl (by decide +kernel) (Nat.le_of_ble_eq_true rfl) ?_
  intro pg en s0 mi ag bl mth cd AA HH QQ C E hnm
  show gW pg l en r_X8_isAlike s0 mi ag bl mth cd 4 D AA HH QQ 0 [(0, .ref x0), (1, .int (nI a)), (2, .int (nI f)), (3, .int (nI fi))] [] [(x0, .inr (6, [.int (nI th), .ref i1, .ref i2, .int (nI sd), .ref i3, .int (nI ln), .ref j1, .ref j2, .ref j3, .ref j4, .ref j5, .ref j6, .int (nI fm), .int (nI rd), .int (nI mt), .int (nI dr), .ref j7, .ref j8, .int (nI tt), .int (bI (wl)), .ref j9, .int (nI lm), .long (hs)])), (j7, .inl (ty 0, 8, .inl (tI g))), (j8, .inl (ty 0, 8, .inl (eR c)))] 0 0
  refine g_aload_n C 0 rfl dX8_isAlike_0 ?_
  refine g_iload_n C 1 rfl dX8_isAlike_1 ?_
  refine g_bipush C (nI 8) bp_8 dX8_isAlike_2 ?_
  refine g_idiv C (nI (a / 8)) (by decide +kernel) dX8_isAlike_4 (pk_div (by omega) (by omega) (by omega)) ?_
  refine g_bipush C (nI 8) bp_8 dX8_isAlike_5 ?_
  refine g_irem C (nI ((a / 8) % 8)) (by decide +kernel) dX8_isAlike_7 (pk_rem (by omega) (by omega) (by omega)) ?_
  refine g_iconst C (nI 0) ic_0 dX8_isAlike_8 ?_
  refine g_callS0 C (nA := 2) (k_X8_term l D ty ((a / 8) % 8) 0 (by omega) (by omega)) wm_X8_69 ws_X8_term wi_X8 wc_X8_term rfl (by decide +kernel) ⟨(Nat.le_of_ble_eq_true rfl), (Nat.le_of_ble_eq_true rfl)⟩ ⟨rfl, rfl⟩ dX8_isAlike_9 (fun _ _ h => h.2) (Nat.le_of_ble_eq_true rfl) rfl ⟨Nat.zero_le _, Nat.zero_le _⟩ (fun r hp => ?_)
  obtain ⟨rfl, -⟩ := hp
  refine g_st [.int (nI (tmM ((a / 8) % 8) 0)), .ref x0] rfl ?_
  refine g_iload_n C 2 rfl dX8_isAlike_12 ?_
  refine g_bipush C (nI 8) bp_8 dX8_isAlike_13 ?_
  refine g_idiv C (nI (f / 8)) (by decide +kernel) dX8_isAlike_15 (pk_div (by omega) (by omega) (by omega)) ?_
  refine g_bipush C (nI 8) bp_8 dX8_isAlike_16 ?_
  refine g_irem C (nI ((f / 8) % 8)) (by decide +kernel) dX8_isAlike_18 (pk_rem (by omega) (by omega) (by omega)) ?_
  refine g_iload_n C 3 rfl dX8_isAlike_19 ?_
  refine g_callS0 C (nA := 2) (k_X8_term l D ty ((f / 8) % 8) fi (by omega) (by omega)) wm_X8_69 ws_X8_term wi_X8 wc_X8_term rfl (by decide +kernel) ⟨(Nat.le_of_ble_eq_true rfl), (Nat.le_of_ble_eq_true rfl)⟩ ⟨rfl, rfl⟩ dX8_isAlike_20 (fun _ _ h => h.2) (Nat.le_of_ble_eq_true rfl) rfl ⟨Nat.zero_le _, Nat.zero_le _⟩ (fun r hp => ?_)
  obtain ⟨rfl, -⟩ := hp
  refine g_st [.int (nI (tmM ((f / 8) % 8) fi)), .int (nI (tmM ((a / 8) % 8) 0)), .ref x0] rfl ?_
  refine g_callV C (nA := 2) (ci := 6) (q0 := 0) (As := [.int (nI (tmM ((a / 8) % 8) 0)), .int (nI (tmM ((f / 8) % 8) fi))]) (wr := []) (k_X8_makesAlike l D ty x0 th i1 i2 sd i3 ln j1 j2 j3 j4 j5 j6 fm rd mt dr j7 j8 tt wl j9 lm hs g rt d c (tmM ((a / 8) % 8) 0) (tmM ((f / 8) % 8) fi) hg hc (by rw [t1]; exact m1) (by rw [t3]; exact m3)) wm_X8_73 wn_X8_makesAlike wv_X8_makesAlike wi_X8 wc_X8_makesAlike rfl (by decide +kernel) ⟨(Nat.le_of_ble_eq_true rfl), (Nat.le_of_ble_eq_true rfl)⟩ ⟨rfl, rfl⟩ dX8_isAlike_23 ⟨Nat.zero_le _, Nat.zero_le _⟩ rfl rfl rfl [0, 1, 2] [] rfl rfl rfl rfl (by decide) (Nat.le_of_ble_eq_true rfl) rfl (fun r W1 hp => ?_)
  obtain ⟨rfl, rfl⟩ := hp
  refine g_fix [.int (bI (mkB (rsv rt c (tmM ((a / 8) % 8) 0)) (rsv rt c (tmM ((f / 8) % 8) fi))))] [(x0, .inr (6, [.int (nI th), .ref i1, .ref i2, .int (nI sd), .ref i3, .int (nI ln), .ref j1, .ref j2, .ref j3, .ref j4, .ref j5, .ref j6, .int (nI fm), .int (nI rd), .int (nI mt), .int (nI dr), .ref j7, .ref j8, .int (nI tt), .int (bI (wl)), .ref j9, .int (nI lm), .long (hs)])), (j7, .inl (ty 0, 8, .inl (tI (mkG (rsv rt c (tmM ((a / 8) % 8) 0)) (rsv rt c (tmM ((f / 8) % 8) fi)) g)))), (j8, .inl (ty 0, 8, .inl (eR (mkC (rsv rt c (tmM ((a / 8) % 8) 0)) (rsv rt c (tmM ((f / 8) % 8) fi)) c))))] [0, 1, 2] rfl rfl rfl ?_
  refine g_if_eqB C (mkB (rsv rt c (tmM ((a / 8) % 8) 0)) (rsv rt c (tmM ((f / 8) % 8) fi))) 56 rfl dX8_isAlike_26 rfl (fun c26 => ?_) (fun c26 => ?_)
  · skip
    have hn : jn L (a / 8 % 8) (own (f / 8 % 8) fi) = none := Option.not_isSome_iff_eq_none.mp (by rw [← hj.1, c26]; decide)
    have hal : al L a f fi = none := by unfold al; rw [hn]; rfl
    refine g_iconst C (nI 0) ic_0 dX8_isAlike_56 ?_
    exact g_zret E false rfl dX8_isAlike_57 (by decide) (by decide) ⟨mkG (rsv rt c (tmM ((a / 8) % 8) 0)) (rsv rt c (tmM ((f / 8) % 8) fi)) g, mkC (rsv rt c (tmM ((a / 8) % 8) 0)) (rsv rt c (tmM ((f / 8) % 8) fi)) c, (fun M3 z => by rw [hal] at z; cases z), (congrArg (fun z => some (Value.int (bI z))) (by rw [hal]; rfl)), rfl⟩
  · skip
    obtain ⟨L2, hL2⟩ := Option.isSome_iff_exists.mp (hj.1.symm.trans c26)
    obtain ⟨rt2, d2, hg2, hc2, hr2⟩ := hj.2 L2 hL2
    have hj2 := alr_jn hg2 hc2 hr2 (x := a % 8) (by omega) o2 (congrArg (rsv rt2 _) t2) (congrArg (rsv rt2 _) t4)
    refine g_aload_n C 0 rfl dX8_isAlike_29 ?_
    refine g_iload_n C 1 rfl dX8_isAlike_30 ?_
    refine g_bipush C (nI 8) bp_8 dX8_isAlike_31 ?_
    refine g_irem C (nI (a % 8)) (by decide +kernel) dX8_isAlike_33 (pk_rem (by omega) (by omega) (by omega)) ?_
    refine g_iconst C (nI 0) ic_0 dX8_isAlike_34 ?_
    refine g_callS0 C (nA := 2) (k_X8_term l D ty (a % 8) 0 (by omega) (by omega)) wm_X8_69 ws_X8_term wi_X8 wc_X8_term rfl (by decide +kernel) ⟨(Nat.le_of_ble_eq_true rfl), (Nat.le_of_ble_eq_true rfl)⟩ ⟨rfl, rfl⟩ dX8_isAlike_35 (fun _ _ h => h.2) (Nat.le_of_ble_eq_true rfl) rfl ⟨Nat.zero_le _, Nat.zero_le _⟩ (fun r hp => ?_)
    obtain ⟨rfl, -⟩ := hp
    refine g_st [.int (nI (tmM (a % 8) 0)), .ref x0] rfl ?_
    refine g_iload_n C 2 rfl dX8_isAlike_38 ?_
    refine g_bipush C (nI 8) bp_8 dX8_isAlike_39 ?_
    refine g_irem C (nI (f % 8)) (by decide +kernel) dX8_isAlike_41 (pk_rem (by omega) (by omega) (by omega)) ?_
    refine g_iload_n C 3 rfl dX8_isAlike_42 ?_
    refine g_callS0 C (nA := 2) (k_X8_term l D ty (f % 8) fi (by omega) (by omega)) wm_X8_69 ws_X8_term wi_X8 wc_X8_term rfl (by decide +kernel) ⟨(Nat.le_of_ble_eq_true rfl), (Nat.le_of_ble_eq_true rfl)⟩ ⟨rfl, rfl⟩ dX8_isAlike_43 (fun _ _ h => h.2) (Nat.le_of_ble_eq_true rfl) rfl ⟨Nat.zero_le _, Nat.zero_le _⟩ (fun r hp => ?_)
    obtain ⟨rfl, -⟩ := hp
    refine g_st [.int (nI (tmM (f % 8) fi)), .int (nI (tmM (a % 8) 0)), .ref x0] rfl ?_
    refine g_callV C (nA := 2) (ci := 6) (q0 := 0) (As := [.int (nI (tmM (a % 8) 0)), .int (nI (tmM (f % 8) fi))]) (wr := []) (k_X8_makesAlike l D ty x0 th i1 i2 sd i3 ln j1 j2 j3 j4 j5 j6 fm rd mt dr j7 j8 tt wl j9 lm hs (mkG (rsv rt c (tmM ((a / 8) % 8) 0)) (rsv rt c (tmM ((f / 8) % 8) fi)) g) rt2 d2 (mkC (rsv rt c (tmM ((a / 8) % 8) 0)) (rsv rt c (tmM ((f / 8) % 8) fi)) c) (tmM (a % 8) 0) (tmM (f % 8) fi) hg2 hc2 (by rw [t2]; exact m2) (by rw [t4]; exact m4)) wm_X8_73 wn_X8_makesAlike wv_X8_makesAlike wi_X8 wc_X8_makesAlike rfl (by decide +kernel) ⟨(Nat.le_of_ble_eq_true rfl), (Nat.le_of_ble_eq_true rfl)⟩ ⟨rfl, rfl⟩ dX8_isAlike_46 ⟨Nat.zero_le _, Nat.zero_le _⟩ rfl rfl rfl [0, 1, 2] [] rfl rfl rfl rfl (by decide) (Nat.le_of_ble_eq_true rfl) rfl (fun r W1 hp => ?_)
    obtain ⟨rfl, rfl⟩ := hp
    refine g_fix [.int (bI (mkB (rsv rt2 (mkC (rsv rt c (tmM ((a / 8) % 8) 0)) (rsv rt c (tmM ((f / 8) % 8) fi)) c) (tmM (a % 8) 0)) (rsv rt2 (mkC (rsv rt c (tmM ((a / 8) % 8) 0)) (rsv rt c (tmM ((f / 8) % 8) fi)) c) (tmM (f % 8) fi))))] [(x0, .inr (6, [.int (nI th), .ref i1, .ref i2, .int (nI sd), .ref i3, .int (nI ln), .ref j1, .ref j2, .ref j3, .ref j4, .ref j5, .ref j6, .int (nI fm), .int (nI rd), .int (nI mt), .int (nI dr), .ref j7, .ref j8, .int (nI tt), .int (bI (wl)), .ref j9, .int (nI lm), .long (hs)])), (j7, .inl (ty 0, 8, .inl (tI (mkG (rsv rt2 (mkC (rsv rt c (tmM ((a / 8) % 8) 0)) (rsv rt c (tmM ((f / 8) % 8) fi)) c) (tmM (a % 8) 0)) (rsv rt2 (mkC (rsv rt c (tmM ((a / 8) % 8) 0)) (rsv rt c (tmM ((f / 8) % 8) fi)) c) (tmM (f % 8) fi)) (mkG (rsv rt c (tmM ((a / 8) % 8) 0)) (rsv rt c (tmM ((f / 8) % 8) fi)) g))))), (j8, .inl (ty 0, 8, .inl (eR (mkC (rsv rt2 (mkC (rsv rt c (tmM ((a / 8) % 8) 0)) (rsv rt c (tmM ((f / 8) % 8) fi)) c) (tmM (a % 8) 0)) (rsv rt2 (mkC (rsv rt c (tmM ((a / 8) % 8) 0)) (rsv rt c (tmM ((f / 8) % 8) fi)) c) (tmM (f % 8) fi)) (mkC (rsv rt c (tmM ((a / 8) % 8) 0)) (rsv rt c (tmM ((f / 8) % 8) fi)) c)))))] [0, 1, 2] rfl rfl rfl ?_
    refine g_if_eqB C (mkB (rsv rt2 (mkC (rsv rt c (tmM ((a / 8) % 8) 0)) (rsv rt c (tmM ((f / 8) % 8) fi)) c) (tmM (a % 8) 0)) (rsv rt2 (mkC (rsv rt c (tmM ((a / 8) % 8) 0)) (rsv rt c (tmM ((f / 8) % 8) fi)) c) (tmM (f % 8) fi))) 56 rfl dX8_isAlike_49 rfl (fun c49 => ?_) (fun c49 => ?_)
    · skip
      have hn : jn L2 (a % 8) (own (f % 8) fi) = none := Option.not_isSome_iff_eq_none.mp (by rw [← hj2.1, c49]; decide)
      have hal : al L a f fi = none := by unfold al; rw [hL2]; exact hn
      refine g_iconst C (nI 0) ic_0 dX8_isAlike_56 ?_
      exact g_zret E false rfl dX8_isAlike_57 (by decide) (by decide) ⟨mkG (rsv rt2 (mkC (rsv rt c (tmM ((a / 8) % 8) 0)) (rsv rt c (tmM ((f / 8) % 8) fi)) c) (tmM (a % 8) 0)) (rsv rt2 (mkC (rsv rt c (tmM ((a / 8) % 8) 0)) (rsv rt c (tmM ((f / 8) % 8) fi)) c) (tmM (f % 8) fi)) (mkG (rsv rt c (tmM ((a / 8) % 8) 0)) (rsv rt c (tmM ((f / 8) % 8) fi)) g), mkC (rsv rt2 (mkC (rsv rt c (tmM ((a / 8) % 8) 0)) (rsv rt c (tmM ((f / 8) % 8) fi)) c) (tmM (a % 8) 0)) (rsv rt2 (mkC (rsv rt c (tmM ((a / 8) % 8) 0)) (rsv rt c (tmM ((f / 8) % 8) fi)) c) (tmM (f % 8) fi)) (mkC (rsv rt c (tmM ((a / 8) % 8) 0)) (rsv rt c (tmM ((f / 8) % 8) fi)) c), (fun M3 z => by rw [hal] at z; cases z), (congrArg (fun z => some (Value.int (bI z))) (by rw [hal]; rfl)), rfl⟩
    · skip
      obtain ⟨L3, hL3⟩ := Option.isSome_iff_exists.mp (hj2.1.symm.trans c49)
      obtain ⟨rt3, d3, hg3, hc3, hr3⟩ := hj2.2 L3 hL3
      have hal : al L a f fi = some L3 := by unfold al; rw [hL2]; exact hL3
      refine g_iconst C (nI 1) ic_1 dX8_isAlike_52 ?_
      refine g_goto C 57 dX8_isAlike_53 rfl ?_
      exact g_zret E true rfl dX8_isAlike_57 (by decide) (by decide) ⟨mkG (rsv rt2 (mkC (rsv rt c (tmM ((a / 8) % 8) 0)) (rsv rt c (tmM ((f / 8) % 8) fi)) c) (tmM (a % 8) 0)) (rsv rt2 (mkC (rsv rt c (tmM ((a / 8) % 8) 0)) (rsv rt c (tmM ((f / 8) % 8) fi)) c) (tmM (f % 8) fi)) (mkG (rsv rt c (tmM ((a / 8) % 8) 0)) (rsv rt c (tmM ((f / 8) % 8) fi)) g), mkC (rsv rt2 (mkC (rsv rt c (tmM ((a / 8) % 8) 0)) (rsv rt c (tmM ((f / 8) % 8) fi)) c) (tmM (a % 8) 0)) (rsv rt2 (mkC (rsv rt c (tmM ((a / 8) % 8) 0)) (rsv rt c (tmM ((f / 8) % 8) fi)) c) (tmM (f % 8) fi)) (mkC (rsv rt c (tmM ((a / 8) % 8) 0)) (rsv rt c (tmM ((f / 8) % 8) fi)) c), (fun M3 z => by rw [hal] at z; cases z; exact ⟨rt3, d3, hg3, hc3, hr3⟩), (congrArg (fun z => some (Value.int (bI z))) (by rw [hal]; rfl)), rfl⟩
