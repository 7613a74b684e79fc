theorem arrV_eq {cA : ClassId} {n : Nat} {f g : Nat → Value} (h : ∀ j, j < n → f j = g j) : arrV cA n f = arrV cA n g := by
  unfold arrV
  congr 1
  apply Array.ext
  · simp
  · intro i h1 h2
    simp at h1 ⊢
    exact h i h1
theorem at_refs {D : va_G} {q n : Nat} {cA : ClassId} {f g : Nat → Option Nat} {H : Heap} (h : va_at D classes (q, .inl (cA, n, rfs f)) H) (e : ∀ j, j < n → f j = g j) : va_at D classes (q, .inl (cA, n, rfs g)) H := by
  have h : H[q]? = some (arrV cA n (fun j => va_rf (f j))) := h
  show H[q]? = some (arrV cA n (fun j => va_rf (g j)))
  rw [h, arrV_eq (fun j hj => by rw [e j hj])]
theorem at_to {D : va_G} {q q' : Nat} {e e' : va_E} {H : Heap} (h : va_at D classes (q, e) H) (h1 : q = q') (h2 : e = e') : va_at D classes (q', e') H := by
  subst h1
  subst h2
  exact h
theorem bw_cut {D : va_G} {a n : Nat} {A B : List va_E} {H : Heap} (h : va_P D classes (bw a (A ++ B)) H) (hn : A.length = n) : va_P D classes (bw a A) H ∧ va_P D classes (bw (a + n) B) H := by
  subst hn
  rw [bw_app] at h
  exact ⟨fun k q hk => h k q (by rw [List.getElem?_append_left (List.getElem?_eq_some_iff.mp hk).1]; exact hk), fun k q hk => h ((bw a A).length + k) q (by rw [List.getElem?_append_right (by omega), Nat.add_sub_cancel_left]; exact hk)⟩
theorem blk_at {D : va_G} {L : Nat → List va_E} {b s : Nat} {H : Heap} (hL : ∀ x, (L x).length = s) : ∀ n, va_P D classes (bw b (blk L b s n)) H → ∀ r, r < n → va_P D classes (bw (b + s * r) (L (b + s * r))) H := by
  intro n
  induction n with
  | zero => intro _ r hr; exact absurd hr (Nat.not_lt_zero r)
  | succ n ih =>
    intro h r hr
    obtain ⟨h1, h2⟩ := bw_cut (A := blk L b s n) (B := L (b + s * n)) h (blk_len hL n)
    by_cases e : r = n
    · subst e; exact h2
    · exact ih h1 r (by omega)
theorem cnA_lt {k i : Nat} (h : i < cnA k) : k ≤ 50 ∧ ¬ k = 12 := by
  unfold cnA at h
  split at h
  · omega
  · omega
section RA
variable {G : zG} {a c x : Nat} {H : Heap}
abbrev zAt9 (G : zG) (a k i : Nat) (H : Heap) : Prop := va_at (gA G a).2.2.1 classes ((gA G a).2.2.2.2 k i, zcell (gA G a) cM0 k i) H
theorem rX0 {i : Nat} (h : va_P G.2.2.1 classes (bw x (LX0 G x)) H) (e0 : x = a + offG 0 i) (e1 : x + 1 = a + offG 13 i) : zAt9 G a 0 i H ∧ zAt9 G a 13 i H := by
  have eo : zcell (gA G a) cM0 0 i = .inr (0, [.ref (a + offG 13 (1 * i + 0)), .int (0), .int (0), .int (0), .int (0), .int (0)]) := rfl
  rw [show a + offG 13 (1 * i + 0) = x + 1 by rw [Nat.one_mul, Nat.add_zero]; exact e1.symm] at eo
  exact ⟨at_to (h 0 _ rfl) e0 eo.symm, at_to (h 1 _ rfl) e1 rfl⟩
theorem rX1 {i : Nat} (h : va_P G.2.2.1 classes (bw x (LX1 G x)) H) (e0 : x = a + offG 1 i) (e1 : x + 1 = a + offG 14 i) (e2 : x + 2 = a + offG 15 i) : zAt9 G a 1 i H ∧ zAt9 G a 14 i H ∧ zAt9 G a 15 i H := by
  have eo : zcell (gA G a) cM0 1 i = .inr (1, [.ref (a + offG 14 (1 * i + 0)), .ref (a + offG 15 (1 * i + 0)), .int (0), .int (0), .int (0)]) := rfl
  rw [show a + offG 14 (1 * i + 0) = x + 1 by rw [Nat.one_mul, Nat.add_zero]; exact e1.symm, show a + offG 15 (1 * i + 0) = x + 2 by rw [Nat.one_mul, Nat.add_zero]; exact e2.symm] at eo
  exact ⟨at_to (h 0 _ rfl) e0 eo.symm, at_to (h 1 _ rfl) e1 rfl, at_to (h 2 _ rfl) e2 rfl⟩
theorem rX2 {i : Nat} (h : va_P G.2.2.1 classes (bw x (LX2 G x)) H) (e0 : x = a + offG 2 i) (e1 : x + 1 = a + offG 16 i) (e2 : x + 2 = a + offG 17 i) : zAt9 G a 2 i H ∧ zAt9 G a 16 i H ∧ zAt9 G a 17 i H := by
  have eo : zcell (gA G a) cM0 2 i = .inr (2, [.ref (a + offG 16 (1 * i + 0)), .ref (a + offG 17 (1 * i + 0)), .int (0)]) := rfl
  rw [show a + offG 16 (1 * i + 0) = x + 1 by rw [Nat.one_mul, Nat.add_zero]; exact e1.symm, show a + offG 17 (1 * i + 0) = x + 2 by rw [Nat.one_mul, Nat.add_zero]; exact e2.symm] at eo
  exact ⟨at_to (h 0 _ rfl) e0 eo.symm, at_to (h 1 _ rfl) e1 rfl, at_to (h 2 _ rfl) e2 rfl⟩
theorem rX3 {i : Nat} (h : va_P G.2.2.1 classes (bw x (LX3 G x)) H) (e0 : x = a + offG 3 i) (e1 : x + 1 = a + offG 18 i) (e2 : x + 2 = a + offG 19 i) (e3 : x + 3 = a + offG 20 i) (e4 : x + 4 = a + offG 21 i) (e5 : x + 5 = a + offG 22 i) : zAt9 G a 3 i H ∧ zAt9 G a 18 i H ∧ zAt9 G a 19 i H ∧ zAt9 G a 20 i H ∧ zAt9 G a 21 i H ∧ zAt9 G a 22 i H := by
  have eo : zcell (gA G a) cM0 3 i = .inr (3, [.ref (a + offG 18 (1 * i + 0)), .ref (a + offG 19 (1 * i + 0)), .ref (a + offG 20 (1 * i + 0)), .ref (a + offG 21 (1 * i + 0)), .ref (a + offG 22 (1 * i + 0)), .int (0), .int (-1)]) := rfl
  rw [show a + offG 18 (1 * i + 0) = x + 1 by rw [Nat.one_mul, Nat.add_zero]; exact e1.symm, show a + offG 19 (1 * i + 0) = x + 2 by rw [Nat.one_mul, Nat.add_zero]; exact e2.symm, show a + offG 20 (1 * i + 0) = x + 3 by rw [Nat.one_mul, Nat.add_zero]; exact e3.symm, show a + offG 21 (1 * i + 0) = x + 4 by rw [Nat.one_mul, Nat.add_zero]; exact e4.symm, show a + offG 22 (1 * i + 0) = x + 5 by rw [Nat.one_mul, Nat.add_zero]; exact e5.symm] at eo
  exact ⟨at_to (h 0 _ rfl) e0 eo.symm, at_to (h 1 _ rfl) e1 rfl, at_to (h 2 _ rfl) e2 rfl, at_to (h 3 _ rfl) e3 rfl, at_to (h 4 _ rfl) e4 rfl, at_to (h 5 _ rfl) e5 rfl⟩
theorem rX4 {i : Nat} (h : va_P G.2.2.1 classes (bw x (LX4 G x)) H) (e0 : x = a + offG 4 i)  : zAt9 G a 4 i H := by
  have eo : zcell (gA G a) cM0 4 i = .inr (4, [.int (0), .int (0), .int (0)]) := rfl
  exact at_to (h 0 _ rfl) e0 eo.symm
theorem rX6 {i : Nat} (h : va_P G.2.2.1 classes (bw x (LX6 G x)) H) (e0 : x = a + offG 6 i) (e1 : x + 1 = a + offG 25 i) (e2 : x + 2 = a + offG 26 i) : zAt9 G a 6 i H ∧ zAt9 G a 25 i H ∧ zAt9 G a 26 i H := by
  have eo : zcell (gA G a) cM0 6 i = .inr (6, [.ref (a + offG 25 (1 * i + 0)), .ref (a + offG 26 (1 * i + 0)), .null, .int (0), .int (0)]) := rfl
  rw [show a + offG 25 (1 * i + 0) = x + 1 by rw [Nat.one_mul, Nat.add_zero]; exact e1.symm, show a + offG 26 (1 * i + 0) = x + 2 by rw [Nat.one_mul, Nat.add_zero]; exact e2.symm] at eo
  exact ⟨at_to (h 0 _ rfl) e0 eo.symm, at_to (h 1 _ rfl) e1 rfl, at_to (h 2 _ rfl) e2 rfl⟩
theorem rX8 {i : Nat} (h : va_P G.2.2.1 classes (bw x (LX8 G x)) H) (e0 : x = a + offG 8 i) (e1 : x + 1 = a + offG 31 i) (e2 : x + 2 = a + offG 32 i) (e3 : x + 3 = a + offG 33 i) (e4 : x + 4 = a + offG 34 i) (e5 : x + 5 = a + offG 35 i) (e6 : x + 6 = a + offG 36 i) (e7 : x + 7 = a + offG 37 i) (e8 : x + 8 = a + offG 38 i) (e9 : x + 9 = a + offG 39 i) (e10 : x + 10 = a + offG 40 i) (e11 : x + 11 = a + offG 41 i) (e12 : x + 12 = a + offG 42 i) : zAt9 G a 8 i H ∧ zAt9 G a 31 i H ∧ zAt9 G a 32 i H ∧ zAt9 G a 33 i H ∧ zAt9 G a 34 i H ∧ zAt9 G a 35 i H ∧ zAt9 G a 36 i H ∧ zAt9 G a 37 i H ∧ zAt9 G a 38 i H ∧ zAt9 G a 39 i H ∧ zAt9 G a 40 i H ∧ zAt9 G a 41 i H ∧ zAt9 G a 42 i H := by
  have eo : zcell (gA G a) cM0 8 i = .inr (8, [.null, .ref (a + offG 31 (1 * i + 0)), .ref (a + offG 32 (1 * i + 0)), .ref (a + offG 33 (1 * i + 0)), .ref (a + offG 34 (1 * i + 0)), .ref (a + offG 35 (1 * i + 0)), .ref (a + offG 36 (1 * i + 0)), .ref (a + offG 37 (1 * i + 0)), .ref (a + offG 38 (1 * i + 0)), .ref (a + offG 39 (1 * i + 0)), .ref (a + offG 40 (1 * i + 0)), .ref (a + offG 41 (1 * i + 0)), .ref (a + offG 42 (1 * i + 0)), .int (0), .int (0), .int (0), .int (0), .int (0)]) := rfl
  rw [show a + offG 31 (1 * i + 0) = x + 1 by rw [Nat.one_mul, Nat.add_zero]; exact e1.symm, show a + offG 32 (1 * i + 0) = x + 2 by rw [Nat.one_mul, Nat.add_zero]; exact e2.symm, show a + offG 33 (1 * i + 0) = x + 3 by rw [Nat.one_mul, Nat.add_zero]; exact e3.symm, show a + offG 34 (1 * i + 0) = x + 4 by rw [Nat.one_mul, Nat.add_zero]; exact e4.symm, show a + offG 35 (1 * i + 0) = x + 5 by rw [Nat.one_mul, Nat.add_zero]; exact e5.symm, show a + offG 36 (1 * i + 0) = x + 6 by rw [Nat.one_mul, Nat.add_zero]; exact e6.symm, show a + offG 37 (1 * i + 0) = x + 7 by rw [Nat.one_mul, Nat.add_zero]; exact e7.symm, show a + offG 38 (1 * i + 0) = x + 8 by rw [Nat.one_mul, Nat.add_zero]; exact e8.symm, show a + offG 39 (1 * i + 0) = x + 9 by rw [Nat.one_mul, Nat.add_zero]; exact e9.symm, show a + offG 40 (1 * i + 0) = x + 10 by rw [Nat.one_mul, Nat.add_zero]; exact e10.symm, show a + offG 41 (1 * i + 0) = x + 11 by rw [Nat.one_mul, Nat.add_zero]; exact e11.symm, show a + offG 42 (1 * i + 0) = x + 12 by rw [Nat.one_mul, Nat.add_zero]; exact e12.symm] at eo
  exact ⟨at_to (h 0 _ rfl) e0 eo.symm, at_to (h 1 _ rfl) e1 rfl, at_to (h 2 _ rfl) e2 rfl, at_to (h 3 _ rfl) e3 rfl, at_to (h 4 _ rfl) e4 rfl, at_to (h 5 _ rfl) e5 rfl, at_to (h 6 _ rfl) e6 rfl, at_to (h 7 _ rfl) e7 rfl, at_to (h 8 _ rfl) e8 rfl, at_to (h 9 _ rfl) e9 rfl, at_to (h 10 _ rfl) e10 rfl, at_to (h 11 _ rfl) e11 rfl, at_to (h 12 _ rfl) e12 rfl⟩
theorem rX10 {i : Nat} (h : va_P G.2.2.1 classes (bw x (LX10 G x)) H) (e0 : x = a + offG 10 i)  : zAt9 G a 10 i H := by
  have eo : zcell (gA G a) cM0 10 i = .inr (10, [.int (0), .int (0), .int (0), .int (0)]) := rfl
  exact at_to (h 0 _ rfl) e0 eo.symm
theorem L1_len (G : zG) : ∀ x, (LX1 G x).length = 3 := fun _ => rfl
theorem L10_len (G : zG) : ∀ x, (LX10 G x).length = 1 := fun _ => rfl
theorem L4_len (G : zG) : ∀ x, (LX4 G x).length = 1 := fun _ => rfl
theorem L2_len (G : zG) : ∀ x, (LX2 G x).length = 3 := fun _ => rfl
theorem LX9_len (G : zG) (a : Nat) : (LX9 G a).length = 46 := by
  show (((((blk (LX1 G) (a + 5) 3 6) ++ blk (LX10 G) (a + 23) 1 4) ++ blk (LX4 G) (a + 27) 1 10) ++ blk (LX2 G) (a + 37) 3 3).length + 1 + 1 + 1 + 1) + 1 = 46
  rw [List.length_append, List.length_append, List.length_append, blk_len (L1_len G), blk_len (L10_len G), blk_len (L4_len G), blk_len (L2_len G)]
theorem rX9 (h : va_P G.2.2.1 classes (bw c (LX9 G c)) H) : (∀ r, r < 6 → va_P G.2.2.1 classes (bw (c + 5 + 3 * r) (LX1 G (c + 5 + 3 * r))) H) ∧ (∀ r, r < 4 → va_P G.2.2.1 classes (bw (c + 23 + 1 * r) (LX10 G (c + 23 + 1 * r))) H) ∧ (∀ r, r < 10 → va_P G.2.2.1 classes (bw (c + 27 + 1 * r) (LX4 G (c + 27 + 1 * r))) H) ∧ ∀ r, r < 3 → va_P G.2.2.1 classes (bw (c + 37 + 3 * r) (LX2 G (c + 37 + 3 * r))) H := by
  obtain ⟨-, h1⟩ := bw_cut (n := 5) (A := [_, _, _, _, _]) (B := (((blk (LX1 G) (c + 5) 3 6) ++ blk (LX10 G) (c + 23) 1 4) ++ blk (LX4 G) (c + 27) 1 10) ++ blk (LX2 G) (c + 37) 3 3) h rfl
  obtain ⟨h2, hl⟩ := bw_cut (n := 32) h1 (by rw [List.length_append, List.length_append, blk_len (L1_len G), blk_len (L10_len G), blk_len (L4_len G)])
  obtain ⟨h3, hr⟩ := bw_cut (n := 22) h2 (by rw [List.length_append, blk_len (L1_len G), blk_len (L10_len G)])
  obtain ⟨hh, hw⟩ := bw_cut (n := 18) h3 (by rw [blk_len (L1_len G)])
  exact ⟨blk_at (L1_len G) 6 hh, blk_at (L10_len G) 4 hw, blk_at (L4_len G) 10 hr, blk_at (L2_len G) 3 hl⟩
theorem rX9o {t : Nat} (ht : t < 2) (h : va_P G.2.2.1 classes (bw (a + 63 + 46 * t) (LX9 G (a + 63 + 46 * t))) H) : zAt9 G a 9 t H ∧ zAt9 G a 43 t H ∧ zAt9 G a 44 t H ∧ zAt9 G a 45 t H ∧ zAt9 G a 46 t H := by
  have q0 : a + 63 + 46 * t = a + offG 9 t := by show _ = a + (63 + 46 * t); omega
  have q1 : a + 63 + 46 * t + 1 = a + offG 43 t := by show _ = a + (64 + 46 * t); omega
  have q2 : a + 63 + 46 * t + 2 = a + offG 44 t := by show _ = a + (65 + 46 * t); omega
  have q3 : a + 63 + 46 * t + 3 = a + offG 45 t := by show _ = a + (66 + 46 * t); omega
  have q4 : a + 63 + 46 * t + 4 = a + offG 46 t := by show _ = a + (67 + 46 * t); omega
  have eo : zcell (gA G a) cM0 9 t = .inr (9, [.ref (a + offG 43 (1 * t + 0)), .ref (a + offG 44 (1 * t + 0)), .ref (a + offG 45 (1 * t + 0)), .ref (a + offG 46 (1 * t + 0)), .int 0, .int 0, .int 0, .int 3, .int 0, .int 0, .int 0, .int 0, .int 0, .int (-1), .int (-1)]) := rfl
  rw [show 1 * t + 0 = t by omega, ← q1, ← q2, ← q3, ← q4] at eo
  refine ⟨at_to (h 0 _ rfl) q0 eo.symm, at_to (at_refs (g := fun j => some (a + offG 1 (6 * t + 1 * j + 0))) (h 1 _ rfl) (fun j hj => ?_)) q1 rfl, at_to (at_refs (g := fun j => some (a + offG 10 (4 * t + 1 * j + 0))) (h 2 _ rfl) (fun j hj => ?_)) q2 rfl, at_to (at_refs (g := fun j => some (a + offG 4 (10 * t + 1 * j + 0))) (h 3 _ rfl) (fun j hj => ?_)) q3 rfl, at_to (at_refs (g := fun j => some (a + offG 2 (3 * t + 1 * j + 0))) (h 4 _ rfl) (fun j hj => ?_)) q4 rfl⟩
  · unfold fF; rw [if_pos hj]; show some _ = some (a + (68 + 46 * ((6 * t + 1 * j + 0) / 6) + 3 * ((6 * t + 1 * j + 0) % 6))); congr 1; omega
  · unfold fF; rw [if_pos hj]; show some _ = some (a + (86 + 46 * ((4 * t + 1 * j + 0) / 4) + (4 * t + 1 * j + 0) % 4)); congr 1; omega
  · unfold fF; rw [if_pos hj]; show some _ = some (a + (90 + 46 * ((10 * t + 1 * j + 0) / 10) + (10 * t + 1 * j + 0) % 10)); congr 1; omega
  · unfold fF; rw [if_pos hj]; show some _ = some (a + (100 + 46 * ((3 * t + 1 * j + 0) / 3) + 3 * ((3 * t + 1 * j + 0) % 3))); congr 1; omega
theorem rX5 (h : va_P G.2.2.1 classes (bw (a + 2) (LX5 G (a + 2))) H) : zAt9 G a 5 0 H ∧ zAt9 G a 7 0 H ∧ zAt9 G a 27 0 H ∧ zAt9 G a 28 0 H ∧ zAt9 G a 29 0 H ∧ zAt9 G a 30 0 H ∧ zAt9 G a 23 0 H ∧ zAt9 G a 24 0 H :=
  ⟨at_to (h 0 _ rfl) rfl rfl, at_to (h 1 _ rfl) rfl rfl, at_to (h 2 _ rfl) rfl rfl, at_to (h 3 _ rfl) rfl rfl, at_to (h 4 _ rfl) rfl rfl, at_to (h 5 _ rfl) rfl rfl, at_to (h 6 _ rfl) rfl rfl, at_to (h 7 _ rfl) rfl rfl⟩
end RA
