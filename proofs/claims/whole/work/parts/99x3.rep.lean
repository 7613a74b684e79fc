theorem arrV_eq {cA : ClassId} {n : Nat} {f g : Nat → Value} (h : ∀ j, j < n → f j = g j) : arrV cA n f = arrV cA n g := by
  unfold arrV
  congr 1
  apply Array.ext
  · simp
  · intro i h1 h2
    simp at h1 ⊢
    exact h i h1
theorem at_refs {D : va_G} {q n : Nat} {cA : ClassId} {f g : Nat → Option Nat} {H : Heap} (h : va_at D classes (q, .inl (cA, n, rfs f)) H) (e : ∀ j, j < n → f j = g j) : va_at D classes (q, .inl (cA, n, rfs g)) H := by
  have h : H[q]? = some (arrV cA n (fun j => va_rf (f j))) := h
  show H[q]? = some (arrV cA n (fun j => va_rf (g j)))
  rw [h, arrV_eq (fun j hj => by rw [e j hj])]
theorem cnA_lt {k i : Nat} (h : i < cnA k) : k ≤ 50 ∧ ¬ k = 12 := by
  unfold cnA at h
  split at h
  · omega
  · omega
theorem rA_all {G : zG} {a : Nat} {H : Heap} (hP : va_P G.2.2.1 classes (bw a (LX11 G a)) H) : yRep cnA (gA G a) cM0 H := sorry
