/-! an array's contents count within its length alone -/
section GEXT
variable {p : Program} {l : Launch} {e : Env} {R : Room} {s : State} {m : MethodId} {args : Array Value} {below : List Frame} {meth : Method} {c : Code} {cc : ByteArray} {nL : Nat} {own : String} {D : va_G} {ty : Nat → ClassId} {A : Nat → Prop} {H0 : Heap} {Q : State → Prop} {pc : Nat} {lo : List (Nat × Value)} {st : List Value} {ws : va_W} {k n : Nat}
theorem zarrV (cA : ClassId) (N : Nat) {f g : Nat → Value} (h : ∀ j, j < N → f j = g j) : arrV cA N f = arrV cA N g := by
  unfold arrV
  congr 1
  first
    | (apply Array.ext <;> simp <;> intro i hi <;> exact h i (by simpa using hi))
    | (congr 1; apply List.map_congr_left; intro j hj; exact h j (List.mem_range.mp hj))
    | (apply Array.toList_inj.mp; simp; intro i hi; exact h i (by simpa using hi))
theorem g_ext (q0 : Nat) {a : Nat} {e1 e2 : va_E} (ha : ws[q0]? = some (a, e1)) (he : ∀ H : Heap, va_at D vwCl (a, e1) H → va_at D vwCl (a, e2) H) (ws2 : va_W) (hw2 : ws.set q0 (a, e2) = ws2) (kk : gW p l e R s m args below meth c nL D A H0 Q pc lo st ws2 k n) : gW p l e R s m args below meth c nL D A H0 Q pc lo st ws k n := by
  subst hw2
  intro ls H locs hl hP hD hS
  exact kk ls H locs hl (hP.set hD ha (he H (hP q0 _ ha)) (fun q _ => rfl)) (hD.set ha) hS
theorem g_extI (q0 : Nat) {a N : Nat} {cA : ClassId} {f : Nat → Int32} (ha : ws[q0]? = some (a, .inl (cA, N, .inl f))) (f2 : Nat → Int32) (hf : ∀ j, j < N → f j = f2 j) (ws2 : va_W) (hw2 : ws.set q0 (a, .inl (cA, N, .inl f2)) = ws2) (kk : gW p l e R s m args below meth c nL D A H0 Q pc lo st ws2 k n) : gW p l e R s m args below meth c nL D A H0 Q pc lo st ws k n := by
  refine g_ext q0 ha (fun H h => ?_) ws2 hw2 kk
  show H[a]? = some (arrV cA N (fun j => .int (f2 j)))
  rw [← zarrV cA N (f := fun j => .int (f j)) (fun j hj => by rw [hf j hj])]
  exact h
theorem g_extJ (q0 : Nat) {a N : Nat} {cA : ClassId} {f : Nat → Int64} (ha : ws[q0]? = some (a, .inl (cA, N, .inr (.inl f)))) (f2 : Nat → Int64) (hf : ∀ j, j < N → f j = f2 j) (ws2 : va_W) (hw2 : ws.set q0 (a, .inl (cA, N, .inr (.inl f2))) = ws2) (kk : gW p l e R s m args below meth c nL D A H0 Q pc lo st ws2 k n) : gW p l e R s m args below meth c nL D A H0 Q pc lo st ws k n := by
  refine g_ext q0 ha (fun H h => ?_) ws2 hw2 kk
  show H[a]? = some (arrV cA N (fun j => .long (f2 j)))
  rw [← zarrV cA N (f := fun j => .long (f j)) (fun j hj => by rw [hf j hj])]
  exact h
theorem g_extQ (q0 : Nat) {a N : Nat} {cA : ClassId} {f : Nat → Option Nat} (ha : ws[q0]? = some (a, .inl (cA, N, .inr (.inr (.inr (.inr f)))))) (f2 : Nat → Option Nat) (hf : ∀ j, j < N → f j = f2 j) (ws2 : va_W) (hw2 : ws.set q0 (a, .inl (cA, N, .inr (.inr (.inr (.inr f2))))) = ws2) (kk : gW p l e R s m args below meth c nL D A H0 Q pc lo st ws2 k n) : gW p l e R s m args below meth c nL D A H0 Q pc lo st ws k n := by
  refine g_ext q0 ha (fun H h => ?_) ws2 hw2 kk
  show H[a]? = some (arrV cA N (fun j => va_rf (f2 j)))
  rw [← zarrV cA N (f := fun j => va_rf (f j)) (fun j hj => by rw [hf j hj])]
  exact h
end GEXT
