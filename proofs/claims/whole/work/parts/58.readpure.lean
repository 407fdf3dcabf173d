/-! the reference's reader against the class's -/
def okA (as : Nat → Nat) : Prop := ∀ j, j < 3 → as j < 256
def GD (b as : Nat → Nat) (len u : Nat) : Prop := fe b as u = none ∧ u ≤ len
def BD (b as : Nat → Nat) (len u : Nat) : Prop := GD b as len u ∧ ((u < len ∧ (tk (b u) (ry b as u)).1 = false) ∨ (u = len ∧ stb (ry b as len) = false))
def p1W (b : Nat → Nat) (len u : Nat) (w : Bool) : Bool := wpW b len u w
def p1U (b : Nat → Nat) (len u : Nat) (w : Bool) : Nat := if p1W b len u w = true then u + 1 else u
def p2W (b : Nat → Nat) (len u : Nat) (w : Bool) : Bool := wtW b len (p1U b len u w) (p1W b len u w)
def p2U (b : Nat → Nat) (len u : Nat) (w : Bool) : Nat := if p2W b len u w = true then p1U b len u w + 1 else p1U b len u w
def p3W (b : Nat → Nat) (len u : Nat) (w : Bool) : Bool := wtW b len (p2U b len u w) (p2W b len u w)
def p3U (b : Nat → Nat) (len u : Nat) (w : Bool) : Nat := if p3W b len u w = true then p2U b len u w + 1 else p2U b len u w
def p3V (b : Nat → Nat) (len u : Nat) (w : Bool) : Int32 := nI 64 * (nI (sgM b len u) - nI 97) + nI 8 * eA (tmc (sgM b len (p1U b len u w))) + eA (tmc (sgM b len (p2U b len u w)))
def PTR (b : Nat → Nat) (len u : Nat) (w w9 : Bool) (u9 : Nat) (v9 : Int32) : Prop := w9 = p3W b len u w ∧ u9 = p3U b len u w ∧ v9 = p3V b len u w
def pH (b : Nat → Nat) (len u : Nat) : Nat := 64 * (sgM b len u - 97) + 8 * tmc (sgM b len (u + 1)) + tmc (sgM b len (u + 2))
theorem wpW_t {b : Nat → Nat} {len u : Nat} {w : Bool} : wpW b len u w = true ↔ w = true ∧ 97 ≤ sgM b len u ∧ sgM b len u ≤ 100 := by
  unfold wpW
  rw [Bool.and_eq_true, decide_eq_true_eq]
theorem wtW_t {b : Nat → Nat} {len u : Nat} {w : Bool} : wtW b len u w = true ↔ w = true ∧ tmc (sgM b len u) ≠ 256 := by
  unfold wtW
  rw [Bool.and_eq_true, decide_eq_true_eq]
theorem tkM_t {b : Nat → Nat} {len u c : Nat} {w : Bool} : tkM b len u w c = true ↔ w = true ∧ sgM b len u = c := by
  unfold tkM
  rw [Bool.and_eq_true, decide_eq_true_eq]
theorem p_t {b : Nat → Nat} {len u : Nat} {w : Bool} (h : p3W b len u w = true) : w = true ∧ p1W b len u w = true ∧ p2W b len u w = true ∧ p1U b len u w = u + 1 ∧ p2U b len u w = u + 2 ∧ p3U b len u w = u + 3 := by
  have h2 : p2W b len u w = true := (wtW_t.mp h).1
  have h1 : p1W b len u w = true := (wtW_t.mp h2).1
  have e1 : p1U b len u w = u + 1 := by unfold p1U; rw [if_pos h1]
  have e2 : p2U b len u w = u + 2 := by unfold p2U; rw [if_pos h2, e1]
  have e3 : p3U b len u w = u + 3 := by unfold p3U; rw [if_pos h, e2]
  exact ⟨(wpW_t.mp h1).1, h1, h2, e1, e2, e3⟩
theorem ptr_v {b : Nat → Nat} {len u : Nat} {w : Bool} {u9 : Nat} {v9 : Int32} (h : PTR b len u w true u9 v9) : w = true ∧ u9 = u + 3 ∧ v9 = nI (pH b len u) ∧ pH b len u < 256 := by
  obtain ⟨h1, h2, h3⟩ := h
  obtain ⟨k1, k2, k3, k4, k5, k6⟩ := p_t h1.symm
  have q0 := (wpW_t.mp k2).2
  have q1 := (wtW_t.mp k3).2
  have q2 := (wtW_t.mp h1.symm).2
  rw [k4] at q1
  rw [k5] at q2
  have r1 := tmc_le q1
  have r2 := tmc_le q2
  refine ⟨k1, h2.trans k6, ?_, by unfold pH; omega⟩
  rw [h3]
  unfold p3V pH
  rw [k4, k5, eA_n (by omega), eA_n (by omega), pk_sub (by omega), pk_mul, pk_mul, nI_add, nI_add]
section RD
variable {b as : Nat → Nat} {len u : Nat}
theorem sgM_in (h : sgM b len u ≠ 0) : u < len ∧ sgM b len u = b u := by
  unfold sgM at h ⊢
  by_cases z : u < len
  · exact ⟨z, if_pos z⟩
  · rw [if_neg z] at h; exact absurd rfl h
theorem sgM_lt2 (h : u < len) : sgM b len u = b u := if_pos h
theorem gd_s (h : GD b as len u) (hu : u < len) (ht : (tk (b u) (ry b as u)).1 = true) : GD b as len (u + 1) := ⟨by rw [fe_s h.1, if_pos ht], hu⟩
theorem bd_of (h : GD b as len u) (h1 : u < len → (tk (b u) (ry b as u)).1 = false) (h2 : stb (ry b as u) = false ∨ u < len) : BD b as len u := by
  refine ⟨h, ?_⟩
  by_cases z : u < len
  · exact Or.inl ⟨z, h1 z⟩
  · have e : u = len := by have := h.2; omega
    refine Or.inr ⟨e, ?_⟩
    rw [← e]
    exact h2.resolve_right z
theorem stb_3 {Y : YT} (h : Y.2.1 ≠ 3) : stb Y = false := by unfold stb; rw [if_neg h]
theorem pst_no {P : PT} (hu : u < len) (h : b u ≠ 59) : pst b as len P (u + 1) = pst b as len P u := by
  rw [pst]
  cases pst b as len P u with
  | none => rfl
  | some P2 =>
    show (if u = len ∨ b u = 59 then plw (ry b as u) P2 else some P2) = some P2
    rw [if_neg (by omega)]
theorem ltc_t {c : Nat} (h : 97 ≤ c ∧ c ≤ 100) : ltc c = c - 97 := by unfold ltc; rw [if_pos h]
theorem ltc_f {c : Nat} (h : ¬ (97 ≤ c ∧ c ≤ 100)) : ltc c = 256 := by unfold ltc; rw [if_neg h]
theorem tmc_0 : tmc 0 = 256 := by decide
theorem tmc_59 : tmc 59 = 256 := by decide
/-- a part is read -/
theorem pt_ok (hG : GD b as len u) (h0 : (ry b as u).2.1 = 0) : (p3W b len u true = false → BD b as len (p3U b len u true)) ∧ (p3W b len u true = true → u + 3 ≤ len ∧ GD b as len (u + 3) ∧ (∃ a2, ry b as (u + 3) = ((ry b as u).1, 3, a2) ∧ a2 (ry b as u).1 = pH b len u ∧ ∀ j, j ≠ (ry b as u).1 → a2 j = (ry b as u).2.2 j) ∧ ∀ P, pst b as len P (u + 3) = pst b as len P u) := by
  by_cases c0 : 97 ≤ sgM b len u ∧ sgM b len u ≤ 100
  · obtain ⟨hu, eu⟩ := sgM_in (b := b) (len := len) (u := u) (by omega)
    have w1 : p1W b len u true = true := wpW_t.mpr ⟨rfl, c0⟩
    have e1 : p1U b len u true = u + 1 := by unfold p1U; rw [if_pos w1]
    have l0 : ltc (b u) = b u - 97 := ltc_t (by omega)
    have t0 := tk_a1 (c := b u) h0 (by omega)
    have G1 : GD b as len (u + 1) := gd_s hG hu (by rw [t0])
    have Y1 : ry b as (u + 1) = ((ry b as u).1, (ry b as u).2.1 + 1, upN (ry b as u).2.2 (ry b as u).1 (64 * ltc (b u) + 8 * 0 + 0)) := by
      show (tk (b u) (ry b as u)).2 = _
      rw [t0]
    have n1 : (ry b as (u + 1)).2.1 = 1 := by rw [Y1]; show (ry b as u).2.1 + 1 = 1; omega
    by_cases c1 : tmc (sgM b len (u + 1)) = 256
    · have w2 : p2W b len u true = false := Bool.eq_false_iff.mpr (fun q => (wtW_t.mp q).2 (by rw [e1]; exact c1))
      have e2 : p2U b len u true = u + 1 := by unfold p2U; rw [if_neg (by rw [w2]; decide), e1]
      have w3 : p3W b len u true = false := Bool.eq_false_iff.mpr (fun q => by have := (wtW_t.mp q).1; rw [w2] at this; cases this)
      have e3 : p3U b len u true = u + 1 := by unfold p3U; rw [if_neg (by rw [w3]; decide), e2]
      rw [w3, e3]
      refine ⟨fun _ => bd_of G1 (fun z => ?_) (Or.inl (stb_3 (by rw [n1]; decide))), fun q => by cases q⟩
      rw [sgM_lt2 z] at c1
      rw [tk_a0 (by rw [n1]; decide) (by rw [if_neg (by rw [n1]; decide)]; exact c1)]
    · obtain ⟨hu1, eu1⟩ := sgM_in (b := b) (len := len) (u := u + 1) (fun z => c1 (by rw [z]; exact tmc_0))
      have w2 : p2W b len u true = true := wtW_t.mpr ⟨w1, by rw [e1]; exact c1⟩
      have e2 : p2U b len u true = u + 2 := by unfold p2U; rw [if_pos w2, e1]
      have r1 := tmc_le c1
      rw [eu1] at c1 r1
      have t1 := tk_a2 (c := b (u + 1)) n1 c1
      have G2 : GD b as len (u + 2) := gd_s G1 hu1 (by rw [t1])
      have Y2 : ry b as (u + 2) = ((ry b as (u + 1)).1, (ry b as (u + 1)).2.1 + 1, upN (ry b as (u + 1)).2.2 (ry b as (u + 1)).1 ((ry b as (u + 1)).2.2 (ry b as (u + 1)).1 + (64 * 0 + 8 * tmc (b (u + 1)) + 0))) := by
        show (tk (b (u + 1)) (ry b as (u + 1))).2 = _
        rw [t1]
      have n2 : (ry b as (u + 2)).2.1 = 2 := by rw [Y2]; show (ry b as (u + 1)).2.1 + 1 = 2; omega
      by_cases c2 : tmc (sgM b len (u + 2)) = 256
      · have w3 : p3W b len u true = false := Bool.eq_false_iff.mpr (fun q => (wtW_t.mp q).2 (by rw [e2]; exact c2))
        have e3 : p3U b len u true = u + 2 := by unfold p3U; rw [if_neg (by rw [w3]; decide), e2]
        rw [w3, e3]
        refine ⟨fun _ => bd_of G2 (fun z => ?_) (Or.inl (stb_3 (by rw [n2]; decide))), fun q => by cases q⟩
        rw [sgM_lt2 z] at c2
        rw [tk_a0 (by rw [n2]; decide) (by rw [if_neg (by rw [n2]; decide)]; exact c2)]
      · obtain ⟨hu2, eu2⟩ := sgM_in (b := b) (len := len) (u := u + 2) (fun z => c2 (by rw [z]; exact tmc_0))
        have w3 : p3W b len u true = true := wtW_t.mpr ⟨w2, by rw [e2]; exact c2⟩
        have c2' := c2
        rw [eu2] at c2
        have t2 := tk_a3 (c := b (u + 2)) n2 c2
        have G3 : GD b as len (u + 3) := gd_s G2 hu2 (by rw [t2])
        have Y3 : ry b as (u + 3) = ((ry b as (u + 2)).1, (ry b as (u + 2)).2.1 + 1, upN (ry b as (u + 2)).2.2 (ry b as (u + 2)).1 ((ry b as (u + 2)).2.2 (ry b as (u + 2)).1 + tmc (b (u + 2)))) := by
          show (tk (b (u + 2)) (ry b as (u + 2))).2 = _
          rw [t2]
        rw [w3]
        refine ⟨fun q => Bool.noConfusion q, fun _ => ⟨hu2, G3, ?_, fun P => ?_⟩⟩
        · have a2 : (ry b as (u + 2)).1 = (ry b as u).1 := by rw [Y2, Y1]
          have a1 : (ry b as (u + 1)).1 = (ry b as u).1 := by rw [Y1]
          refine ⟨_, by rw [Y3, a2, n2], ?_, fun j hj => ?_⟩
          · unfold upN
            rw [if_pos rfl]
            rw [Y2]
            show upN (ry b as (u + 1)).2.2 (ry b as (u + 1)).1 ((ry b as (u + 1)).2.2 (ry b as (u + 1)).1 + (64 * 0 + 8 * tmc (b (u + 1)) + 0)) (ry b as u).1 + tmc (b (u + 2)) = pH b len u
            unfold upN
            rw [a1, if_pos rfl, Y1]
            show upN (ry b as u).2.2 (ry b as u).1 (64 * ltc (b u) + 8 * 0 + 0) (ry b as u).1 + (64 * 0 + 8 * tmc (b (u + 1)) + 0) + tmc (b (u + 2)) = pH b len u
            unfold upN pH
            rw [if_pos rfl, eu, eu1, eu2, l0]
            omega
          · unfold upN
            rw [if_neg hj]
            rw [Y2]
            show upN (ry b as (u + 1)).2.2 (ry b as (u + 1)).1 _ j = (ry b as u).2.2 j
            unfold upN
            rw [a1, if_neg hj, Y1]
            show upN (ry b as u).2.2 (ry b as u).1 _ j = (ry b as u).2.2 j
            unfold upN
            rw [if_neg hj]
        · rw [pst_no (u := u + 2) hu2 (fun z => c2 (by rw [z]; exact tmc_59)), pst_no (u := u + 1) hu1 (fun z => c1 (by rw [z]; exact tmc_59)), pst_no hu (by omega)]
  · have w1 : p1W b len u true = false := Bool.eq_false_iff.mpr (fun q => c0 (wpW_t.mp q).2)
    have e1 : p1U b len u true = u := by unfold p1U; rw [if_neg (by rw [w1]; decide)]
    have w2 : p2W b len u true = false := Bool.eq_false_iff.mpr (fun q => by have := (wtW_t.mp q).1; rw [w1] at this; cases this)
    have e2 : p2U b len u true = u := by unfold p2U; rw [if_neg (by rw [w2]; decide), e1]
    have w3 : p3W b len u true = false := Bool.eq_false_iff.mpr (fun q => by have := (wtW_t.mp q).1; rw [w2] at this; cases this)
    have e3 : p3U b len u true = u := by unfold p3U; rw [if_neg (by rw [w3]; decide), e2]
    rw [w3, e3]
    refine ⟨fun _ => bd_of hG (fun z => ?_) (Or.inl (stb_3 (by rw [h0]; decide))), fun q => by cases q⟩
    rw [sgM_lt2 z] at c0
    rw [tk_a0 (by rw [h0]; decide) (by rw [if_pos h0]; exact ltc_f c0)]
end RD
/-! laws, one behind the other -/
def okL (Lw : Nat → Nat) (n : Nat) : Prop := ∀ k, k < n → Lw (3 * k) < 256 ∧ Lw (3 * k + 1) ≤ 256 ∧ Lw (3 * k + 2) ≤ 256 ∧ (Lw (3 * k + 1) = 256 → isF (Lw (3 * k)) = true)
def apl (Lw : Nat → Nat) (P : PT) : Nat → Option PT
  | 0 => some P
  | n + 1 => (apl Lw P n).bind (fun R => if Lw (3 * n + 1) = 256 then some (R.1 + 1, zPut R.2.1 (Lw (3 * n)), R.2.2.1, R.2.2.2) else if R.2.2.2 < 6 then some (R.1 + 1, R.2.1, aR R.2.2.1 R.2.2.2 (Lw (3 * n)) (Lw (3 * n + 1)) (Lw (3 * n + 2)), R.2.2.2 + 1) else none)
theorem apl_congr {Lw Mw : Nat → Nat} {P : PT} (n : Nat) (h : ∀ j, j < 3 * n → Lw j = Mw j) : apl Lw P n = apl Mw P n := by
  induction n with
  | zero => rfl
  | succ n ih => rw [apl, apl, ih (fun j hj => h j (by omega)), h (3 * n) (by omega), h (3 * n + 1) (by omega), h (3 * n + 2) (by omega)]
theorem aR_0 (q : Nat → Nat) (n h a c : Nat) : aR q n h a c (3 * n) = h := by unfold aR; rw [if_pos rfl]
theorem aR_1 (q : Nat → Nat) (n h a c : Nat) : aR q n h a c (3 * n + 1) = a := by unfold aR; rw [if_neg (by omega), if_pos rfl]
theorem aR_2 (q : Nat → Nat) (n h a c : Nat) : aR q n h a c (3 * n + 2) = c := by unfold aR; rw [if_neg (by omega), if_neg (by omega), if_pos rfl]
theorem aR_lt (q : Nat → Nat) (n h a c : Nat) {j : Nat} (hj : j < 3 * n) : aR q n h a c j = q j := by unfold aR; rw [if_neg (by omega), if_neg (by omega), if_neg (by omega)]
theorem aR_eqA (q : Nat → Nat) (n : Nat) {h : Nat} (a c : Nat) (hh : h ≠ 256) : upd (upd (upd (eR q) (3 * n) (nI h)) (3 * n + 1) (eA a)) (3 * n + 2) (eA c) = eR (aR q n h a c) := by
  funext j
  unfold upd eR aR
  by_cases h1 : j = 3 * n
  · subst h1; simp [eA_n hh]
  · by_cases h2 : j = 3 * n + 1
    · subst h2; simp
    · by_cases h3 : j = 3 * n + 2
      · subst h3; simp
      · simp [h1, h2, h3]
theorem okL_aR {Lw : Nat → Nat} {n h a c : Nat} (hL : okL Lw n) (hh : h < 256) (ha : a ≤ 256) (hc : c ≤ 256) (hf : a = 256 → isF h = true) : okL (aR Lw n h a c) (n + 1) := by
  intro k hk
  by_cases e : k = n
  · subst e
    rw [aR_0, aR_1, aR_2]
    exact ⟨hh, ha, hc, hf⟩
  · rw [aR_lt _ _ _ _ _ (show 3 * k < 3 * n by omega), aR_lt _ _ _ _ _ (show 3 * k + 1 < 3 * n by omega), aR_lt _ _ _ _ _ (show 3 * k + 2 < 3 * n by omega)]
    exact hL k (by omega)
theorem apl_aR (Lw : Nat → Nat) (P : PT) (n h a c : Nat) : apl (aR Lw n h a c) P (n + 1) = (apl Lw P n).bind (fun R => if a = 256 then some (R.1 + 1, zPut R.2.1 h, R.2.2.1, R.2.2.2) else if R.2.2.2 < 6 then some (R.1 + 1, R.2.1, aR R.2.2.1 R.2.2.2 h a c, R.2.2.2 + 1) else none) := by
  rw [apl, aR_0, aR_1, aR_2, apl_congr n (fun j hj => aR_lt _ _ _ _ _ hj)]
theorem n41 {n u k : Nat} (h : 4 * n ≤ u) (hk : 3 ≤ k) : 4 * (n + 1) ≤ u + k + 1 := by omega
def LB (b as : Nat → Nat) (len u n : Nat) (Lw : Nat → Nat) : Prop := GD b as len u ∧ (ry b as u).1 = 0 ∧ (ry b as u).2.1 = 0 ∧ (∀ P, pst b as len P u = apl Lw P n) ∧ okL Lw n ∧ 4 * n ≤ u
def LE (b as : Nat → Nat) (len u n : Nat) (Lw : Nat → Nat) : Prop := GD b as len u ∧ (ry b as u).2.1 = 3 ∧ stb (ry b as u) = true ∧ ((ry b as u).1 = 0 → sgM b len u ≠ 60) ∧ ((ry b as u).1 = 1 → sgM b len u ≠ 38) ∧ (∀ P, (pst b as len P u).bind (plw (ry b as u)) = apl Lw P n) ∧ okL Lw n ∧ 4 * n ≤ u + 1
def LAP (b as : Nat → Nat) (len u n : Nat) (Lw : Nat → Nat) (w : Bool) : Prop := (w = true → LE b as len u n Lw) ∧ (w = false → BD b as len u)
section RL
variable {b as : Nat → Nat} {len u n : Nat} {Lw : Nat → Nat}
/-- a mark that is not taken -/
theorem mk_no (hG : GD b as len u) (h3 : (ry b as u).2.1 = 3) (h59 : sgM b len u = 59 → stb (ry b as u) = false) (h60 : (ry b as u).1 = 0 → sgM b len u ≠ 60) (h38 : (ry b as u).1 = 1 → sgM b len u ≠ 38) (hs : stb (ry b as u) = false ∨ u < len) : BD b as len u := by
  refine bd_of hG (fun z => ?_) hs
  rw [sgM_lt2 z] at h59 h60 h38
  rw [tk_m3 h3 (fun q => by rw [h59 q.1] at q; cases q.2) (fun q => by
    rcases q with ⟨q1, q2⟩ | ⟨q1, q2⟩
    · exact h60 q2 q1
    · exact h38 q2 q1)]
/-- a mark that joins a part -/
theorem mk_go (hG : GD b as len u) (h3 : (ry b as u).2.1 = 3) (h : (sgM b len u = 60 ∧ (ry b as u).1 = 0) ∨ (sgM b len u = 38 ∧ (ry b as u).1 = 1)) : u < len ∧ GD b as len (u + 1) ∧ ry b as (u + 1) = ((ry b as u).1 + 1, 0, (ry b as u).2.2) ∧ ∀ P, pst b as len P (u + 1) = pst b as len P u := by
  obtain ⟨hu, eu⟩ := sgM_in (b := b) (len := len) (u := u) (by omega)
  rw [eu] at h
  have t := tk_m2 (c := b u) h3 (by omega) h
  exact ⟨hu, gd_s hG hu (by rw [t]), by show (tk (b u) (ry b as u)).2 = _; rw [t], fun P => pst_no hu (by omega)⟩
theorem stb_r {Y : YT} (h3 : Y.2.1 = 3) (h : 0 < Y.1) : stb Y = true := by unfold stb; rw [if_pos h3, if_pos h]
theorem stb_f {Y : YT} (h3 : Y.2.1 = 3) (h : Y.1 = 0) : stb Y = isF (Y.2.2 0) := by unfold stb; rw [if_pos h3, if_neg (by omega)]
/-- the head is read -/
theorem rl_h (hB : LB b as len u n Lw) (hw : p3W b len u true = true) : u + 3 ≤ len ∧ GD b as len (u + 3) ∧ (ry b as (u + 3)).1 = 0 ∧ (ry b as (u + 3)).2.1 = 3 ∧ (ry b as (u + 3)).2.2 0 = pH b len u ∧ ∀ P, pst b as len P (u + 3) = apl Lw P n := by
  obtain ⟨hG, h1, h0, hP, _, _⟩ := hB
  obtain ⟨k1, k2, ⟨a2, k3, k4, k5⟩, k6⟩ := (pt_ok hG h0).2 hw
  rw [h1] at k3 k4
  exact ⟨k1, k2, by rw [k3], by rw [k3], by rw [k3]; exact k4, fun P => (k6 P).trans (hP P)⟩
theorem rl_fact (hB : LB b as len u n Lw) (hw : p3W b len u true = true) (h60 : sgM b len (u + 3) ≠ 60) (hh : pH b len u < 256) :
    (isF (pH b len u) = false → BD b as len (u + 3)) ∧ (isF (pH b len u) = true → LE b as len (u + 3) (n + 1) (aR Lw n (pH b len u) 256 256)) := by
  obtain ⟨k1, k2, k3, k4, k5, k6⟩ := rl_h hB hw
  have es : stb (ry b as (u + 3)) = isF (pH b len u) := by rw [stb_f k4 k3, k5]
  refine ⟨fun q => ?_, fun q => ?_⟩
  · exact mk_no k2 k4 (fun _ => by rw [es]; exact q) (fun _ => h60) (fun z => by omega) (Or.inl (by rw [es]; exact q))
  · refine ⟨k2, k4, by rw [es]; exact q, fun _ => h60, fun z => by omega, fun P => ?_, okL_aR hB.2.2.2.2.1 hh (Nat.le_refl _) (Nat.le_refl _) (fun _ => q), by have := hB.2.2.2.2.2; omega⟩
    rw [k6, apl_aR]
    congr 1
    funext R
    rw [plw_0 k3, k5, if_pos rfl]
theorem rl_one (hB : LB b as len u n Lw) (hw : p3W b len u true = true) (h60 : sgM b len (u + 3) = 60) :
    (p3W b len (u + 4) true = false → BD b as len (p3U b len (u + 4) true)) ∧ (p3W b len (u + 4) true = true → u + 7 ≤ len ∧ GD b as len (u + 7) ∧ (ry b as (u + 7)).1 = 1 ∧ (ry b as (u + 7)).2.1 = 3 ∧ (ry b as (u + 7)).2.2 0 = pH b len u ∧ (ry b as (u + 7)).2.2 1 = pH b len (u + 4) ∧ ∀ P, pst b as len P (u + 7) = apl Lw P n) := by
  obtain ⟨k1, k2, k3, k4, k5, k6⟩ := rl_h hB hw
  obtain ⟨m1, m2, m3, m4⟩ := mk_go k2 k4 (Or.inl ⟨h60, k3⟩)
  have e1 : (ry b as (u + 4)).1 = 1 := by rw [m3, k3]
  have pk := pt_ok (u := u + 4) m2 (by rw [m3])
  refine ⟨pk.1, fun q => ?_⟩
  obtain ⟨r1, r2, ⟨a2, r3, r4, r5⟩, r6⟩ := pk.2 q
  rw [e1] at r3 r4 r5
  refine ⟨r1, r2, by rw [r3], by rw [r3], ?_, by rw [r3]; exact r4, fun P => (r6 P).trans ((m4 P).trans (k6 P))⟩
  rw [r3]
  show a2 0 = _
  rw [r5 0 (by decide), m3]
  exact k5
theorem rl_rule1 (hB : LB b as len u n Lw) (hw : p3W b len u true = true) (h60 : sgM b len (u + 3) = 60) (hw2 : p3W b len (u + 4) true = true) (h38 : sgM b len (u + 7) ≠ 38) (hh : pH b len u < 256) (hh2 : pH b len (u + 4) < 256) : LE b as len (u + 7) (n + 1) (aR Lw n (pH b len u) (pH b len (u + 4)) 256) := by
  obtain ⟨k1, k2, k3, k4, k5, k6, k7⟩ := (rl_one hB hw h60).2 hw2
  have n0 : ¬ (ry b as (u + 7)).1 = 0 := fun z => absurd (k3.symm.trans z) (by decide)
  have n2 : ¬ (ry b as (u + 7)).1 = 2 := fun z => absurd (k3.symm.trans z) (by decide)
  have nh : ¬ pH b len (u + 4) = 256 := fun z => absurd hh2 (by rw [z]; decide)
  refine ⟨k2, k4, stb_r k4 (Nat.pos_of_ne_zero n0), fun z => absurd z n0, fun _ => h38, fun P => ?_, okL_aR hB.2.2.2.2.1 hh (Nat.le_of_lt hh2) (Nat.le_refl _) (fun z => absurd z nh), n41 hB.2.2.2.2.2 (by decide)⟩
  rw [k7, apl_aR]
  refine congrArg ((apl Lw P n).bind) (funext (fun R => ?_))
  unfold plw
  rw [if_neg n0, k5, k6, if_neg n2, if_neg nh]
theorem rl_two (hB : LB b as len u n Lw) (hw : p3W b len u true = true) (h60 : sgM b len (u + 3) = 60) (hw2 : p3W b len (u + 4) true = true) (h38 : sgM b len (u + 7) = 38) (hh : pH b len u < 256) (hh2 : pH b len (u + 4) < 256) (hh3 : p3W b len (u + 8) true = true → pH b len (u + 8) < 256) :
    (p3W b len (u + 8) true = false → BD b as len (p3U b len (u + 8) true)) ∧ (p3W b len (u + 8) true = true → LE b as len (u + 11) (n + 1) (aR Lw n (pH b len u) (pH b len (u + 4)) (pH b len (u + 8)))) := by
  obtain ⟨k1, k2, k3, k4, k5, k6, k7⟩ := (rl_one hB hw h60).2 hw2
  obtain ⟨m1, m2, m3, m4⟩ := mk_go k2 k4 (Or.inr ⟨h38, k3⟩)
  have e1 : (ry b as (u + 8)).1 = 2 := by rw [m3, k3]
  have pk := pt_ok (u := u + 8) m2 (by rw [m3])
  refine ⟨pk.1, fun q => ?_⟩
  obtain ⟨r1, r2, ⟨a2, r3, r4, r5⟩, r6⟩ := pk.2 q
  rw [e1] at r3 r4 r5
  have hh3 := hh3 q
  have z1 : (ry b as (u + 11)).1 = 2 := by rw [r3]
  have z2 : (ry b as (u + 11)).2.1 = 3 := by rw [r3]
  have z3 : (ry b as (u + 11)).2.2 0 = pH b len u := by
    rw [r3]
    show a2 0 = _
    rw [r5 0 (by decide), m3]
    exact k5
  have z4 : (ry b as (u + 11)).2.2 1 = pH b len (u + 4) := by
    rw [r3]
    show a2 1 = _
    rw [r5 1 (by decide), m3]
    exact k6
  have z5 : (ry b as (u + 11)).2.2 2 = pH b len (u + 8) := by rw [r3]; exact r4
  have n0 : ¬ (ry b as (u + 11)).1 = 0 := fun z => absurd (z1.symm.trans z) (by decide)
  have n1 : ¬ (ry b as (u + 11)).1 = 1 := fun z => absurd (z1.symm.trans z) (by decide)
  have nh : ¬ pH b len (u + 4) = 256 := fun z => absurd hh2 (by rw [z]; decide)
  refine ⟨r2, z2, stb_r z2 (Nat.pos_of_ne_zero n0), fun z => absurd z n0, fun z => absurd z n1, fun P => ?_, okL_aR hB.2.2.2.2.1 hh (Nat.le_of_lt hh2) (Nat.le_of_lt hh3) (fun z => absurd z nh), n41 hB.2.2.2.2.2 (by decide)⟩
  rw [r6 P, m4 P, k7 P, apl_aR]
  refine congrArg ((apl Lw P n).bind) (funext (fun R => ?_))
  unfold plw
  rw [if_neg n0, z3, z4, z5, if_pos z1, if_neg nh]
/-- behind a law -/
theorem le_semi (h : LE b as len u n Lw) (h59 : sgM b len u = 59) : LB b as len (u + 1) n Lw := by
  obtain ⟨hG, h3, hs, _, _, hP, hL, h4⟩ := h
  obtain ⟨hu, eu⟩ := sgM_in (b := b) (len := len) (u := u) (by omega)
  rw [eu] at h59
  have t := tk_m1 (c := b u) h3 h59 hs
  have e : ry b as (u + 1) = (0, 0, (ry b as u).2.2) := by show (tk (b u) (ry b as u)).2 = _; rw [t]
  refine ⟨gd_s hG hu (by rw [t]), by rw [e], by rw [e], fun P => ?_, hL, by omega⟩
  rw [← hP P, pst]
  congr 1
  funext R
  rw [if_pos (Or.inr h59)]
theorem le_bad (h : LE b as len u n Lw) (h59 : sgM b len u ≠ 59) (hu : u < len) : BD b as len u := mk_no h.1 h.2.1 (fun z => absurd z h59) h.2.2.2.1 h.2.2.2.2.1 (Or.inr hu)
theorem le_end (h : LE b as len u n Lw) (hu : ¬ u < len) : u = len ∧ fe b as len = none ∧ stb (ry b as len) = true ∧ ∀ P, pst b as len P (len + 1) = apl Lw P n := by
  obtain ⟨hG, h3, hs, _, _, hP, hL, h4⟩ := h
  have e : u = len := by have := hG.2; omega
  subst e
  refine ⟨rfl, hG.1, hs, fun P => ?_⟩
  rw [← hP P, pst]
  congr 1
  funext R
  rw [if_pos (Or.inl rfl)]
theorem lb_0 (b as : Nat → Nat) (len : Nat) (Lw : Nat → Nat) : LB b as len 0 0 Lw := ⟨⟨rfl, Nat.zero_le _⟩, rfl, rfl, fun _ => rfl, fun k hk => absurd hk (Nat.not_lt_zero _), Nat.le_refl _⟩
theorem bd_fe (h : BD b as len u) : (fe b as len).getD len = u ∧ (fe b as len ≠ none ∨ stb (ry b as len) = false) := by
  obtain ⟨hG, h⟩ := h
  rcases h with ⟨hu, ht⟩ | ⟨hu, hs⟩
  · have e : fe b as len = some u := by
      rw [show len = (u + 1) + (len - (u + 1)) by omega]
      exact fe_le (by rw [fe_s hG.1, ht]; rfl) _
    rw [e]
    exact ⟨rfl, Or.inl (fun z => by cases z)⟩
  · subst hu
    rw [hG.1]
    exact ⟨rfl, Or.inr hs⟩
end RL
