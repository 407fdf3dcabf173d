/-! links stay links -/
theorem okG_root {g rt d : Nat → Nat} (hg : okG g rt d) (n : Nat) : ∀ u, u < 8 → d u ≤ n → g (rt u) = rt u ∧ rt (rt u) = rt u := by
  induction n with
  | zero =>
    intro u hu hn
    by_cases z : g u = u
    · have := (hg u hu).2.1 z
      rw [this]
      exact ⟨z, this⟩
    · have := ((hg u hu).2.2 z).2.1
      omega
  | succ n ih =>
    intro u hu hn
    by_cases z : g u = u
    · have := (hg u hu).2.1 z
      rw [this]
      exact ⟨z, this⟩
    · obtain ⟨h1, h2, h3⟩ := (hg u hu).2.2 z
      rw [← h3]
      exact ih (g u) h1 (by omega)
theorem okG_id {g rt d : Nat → Nat} (hg : okG g rt d) {u : Nat} (hu : u < 8) : g (rt u) = rt u ∧ rt (rt u) = rt u := okG_root hg (d u) u hu (Nat.le_refl _)
theorem okG_join {g rt d : Nat → Nat} (hg : okG g rt d) {x y : Nat} (hx : x < 8) (hy : y < 8) (hrx : rt x = x) (hry : rt y = y) :
    okG (upN g x y) (fun u => if rt u = x then y else rt u) (fun u => if x = y then d u else if rt u = x then d u + d y + 1 else d u) := by
  have gx := (okG_id hg hx).1
  rw [hrx] at gx
  intro u hu
  obtain ⟨h1, h2, h3⟩ := hg u hu
  by_cases xy : x = y
  · subst xy
    have e : upN g x x = g := by
      funext j
      unfold upN
      by_cases z : j = x
      · rw [if_pos z, z, gx]
      · rw [if_neg z]
    rw [e]
    have e2 : (fun u => if rt u = x then x else rt u) = rt := by
      funext j
      by_cases z : rt j = x
      · simp only [z, if_true]
      · simp only [z, if_false]
    rw [e2]
    simp only [if_true]
    exact hg u hu
  · simp only [xy, if_false]
    refine ⟨by split <;> omega, ?_, ?_⟩
    · intro z
      by_cases ux : u = x
      · subst ux
        unfold upN at z
        rw [if_pos rfl] at z
        exact absurd z.symm xy
      · unfold upN at z
        rw [if_neg ux] at z
        have := h2 z
        rw [this, if_neg ux]
    · intro z
      by_cases ux : u = x
      · subst ux
        unfold upN
        rw [if_pos rfl, hrx, if_pos rfl, if_neg (show ¬ rt y = u by rw [hry]; exact fun q => xy q.symm), hry, if_pos rfl]
        exact ⟨hy, by omega, by first | rfl | rw [if_neg (fun q => xy q.symm)]⟩
      · unfold upN at z ⊢
        rw [if_neg ux] at z ⊢
        obtain ⟨k1, k2, k3⟩ := h3 z
        rw [k3]
        refine ⟨k1, ?_, rfl⟩
        split <;> omega
theorem okC_up {c : Nat → Nat} (h : okC c) (x : Nat) {v : Nat} (hv : v < 4) : okC (upN c x v) := by
  intro u hu
  unfold upN
  split
  · exact Or.inl hv
  · exact h u hu
