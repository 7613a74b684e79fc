section RA
variable {G : zG} {a c x : Nat} {H : Heap}
set_option maxHeartbeats 2000000 in
theorem rA_all (h : va_P G.2.2.1 classes (bw a (LX11 G a)) H) : yRep cnA (gA G a) cM0 H := by
  obtain ⟨h, hT1⟩ := bw_cut (n := 109) (A := .inr (11, [.ref (a + 1), .ref (a + 2), .ref (a + 10), .ref (a + 23), .ref (a + 36), .ref (a + 49), .ref (a + 51), .ref (a + 57), .ref (a + 60), .ref (a + 61), .ref (a + 62), .ref (a + 63), .ref (a + 109), .int 0, .int 0]) :: ((((((((((([.inl (G.2.2.2.1 1, 700, .inl (fun _ => 0))] ++ LX5 G (a + 2)) ++ LX8 G (a + 10)) ++ LX8 G (a + 23)) ++ LX8 G (a + 36)) ++ LX0 G (a + 49)) ++ LX3 G (a + 51)) ++ LX6 G (a + 57)) ++ [.inl (G.2.2.2.1 0, 6, .inl (fun _ => 0))]) ++ [.inl (G.2.2.2.1 0, 128, .inl (fun _ => 0))]) ++ [.inl (G.2.2.2.1 2, 31, .inl (fun _ => 0))]) ++ LX9 G (a + 63))) (B := LX9 G (a + 109)) h (by simp only [List.length_cons, List.length_append, List.length_nil, blk_len (L1_len G), blk_len (L10_len G), blk_len (L4_len G), blk_len (L2_len G)])
  obtain ⟨h, hT0⟩ := bw_cut (n := 63) (A := .inr (11, [.ref (a + 1), .ref (a + 2), .ref (a + 10), .ref (a + 23), .ref (a + 36), .ref (a + 49), .ref (a + 51), .ref (a + 57), .ref (a + 60), .ref (a + 61), .ref (a + 62), .ref (a + 63), .ref (a + 109), .int 0, .int 0]) :: (((((((((([.inl (G.2.2.2.1 1, 700, .inl (fun _ => 0))] ++ LX5 G (a + 2)) ++ LX8 G (a + 10)) ++ LX8 G (a + 23)) ++ LX8 G (a + 36)) ++ LX0 G (a + 49)) ++ LX3 G (a + 51)) ++ LX6 G (a + 57)) ++ [.inl (G.2.2.2.1 0, 6, .inl (fun _ => 0))]) ++ [.inl (G.2.2.2.1 0, 128, .inl (fun _ => 0))]) ++ [.inl (G.2.2.2.1 2, 31, .inl (fun _ => 0))])) (B := LX9 G (a + 63)) h (by simp only [List.length_cons, List.length_append, List.length_nil, blk_len (L1_len G), blk_len (L10_len G), blk_len (L4_len G), blk_len (L2_len G)])
  obtain ⟨h, haw⟩ := bw_cut (n := 62) (A := .inr (11, [.ref (a + 1), .ref (a + 2), .ref (a + 10), .ref (a + 23), .ref (a + 36), .ref (a + 49), .ref (a + 51), .ref (a + 57), .ref (a + 60), .ref (a + 61), .ref (a + 62), .ref (a + 63), .ref (a + 109), .int 0, .int 0]) :: ((((((((([.inl (G.2.2.2.1 1, 700, .inl (fun _ => 0))] ++ LX5 G (a + 2)) ++ LX8 G (a + 10)) ++ LX8 G (a + 23)) ++ LX8 G (a + 36)) ++ LX0 G (a + 49)) ++ LX3 G (a + 51)) ++ LX6 G (a + 57)) ++ [.inl (G.2.2.2.1 0, 6, .inl (fun _ => 0))]) ++ [.inl (G.2.2.2.1 0, 128, .inl (fun _ => 0))])) (B := [.inl (G.2.2.2.1 2, 31, .inl (fun _ => 0))]) h (by simp only [List.length_cons, List.length_append, List.length_nil, blk_len (L1_len G), blk_len (L10_len G), blk_len (L4_len G), blk_len (L2_len G)])
  obtain ⟨h, hac⟩ := bw_cut (n := 61) (A := .inr (11, [.ref (a + 1), .ref (a + 2), .ref (a + 10), .ref (a + 23), .ref (a + 36), .ref (a + 49), .ref (a + 51), .ref (a + 57), .ref (a + 60), .ref (a + 61), .ref (a + 62), .ref (a + 63), .ref (a + 109), .int 0, .int 0]) :: (((((((([.inl (G.2.2.2.1 1, 700, .inl (fun _ => 0))] ++ LX5 G (a + 2)) ++ LX8 G (a + 10)) ++ LX8 G (a + 23)) ++ LX8 G (a + 36)) ++ LX0 G (a + 49)) ++ LX3 G (a + 51)) ++ LX6 G (a + 57)) ++ [.inl (G.2.2.2.1 0, 6, .inl (fun _ => 0))])) (B := [.inl (G.2.2.2.1 0, 128, .inl (fun _ => 0))]) h (by simp only [List.length_cons, List.length_append, List.length_nil, blk_len (L1_len G), blk_len (L10_len G), blk_len (L4_len G), blk_len (L2_len G)])
  obtain ⟨h, hak⟩ := bw_cut (n := 60) (A := .inr (11, [.ref (a + 1), .ref (a + 2), .ref (a + 10), .ref (a + 23), .ref (a + 36), .ref (a + 49), .ref (a + 51), .ref (a + 57), .ref (a + 60), .ref (a + 61), .ref (a + 62), .ref (a + 63), .ref (a + 109), .int 0, .int 0]) :: ((((((([.inl (G.2.2.2.1 1, 700, .inl (fun _ => 0))] ++ LX5 G (a + 2)) ++ LX8 G (a + 10)) ++ LX8 G (a + 23)) ++ LX8 G (a + 36)) ++ LX0 G (a + 49)) ++ LX3 G (a + 51)) ++ LX6 G (a + 57))) (B := [.inl (G.2.2.2.1 0, 6, .inl (fun _ => 0))]) h (by simp only [List.length_cons, List.length_append, List.length_nil, blk_len (L1_len G), blk_len (L10_len G), blk_len (L4_len G), blk_len (L2_len G)])
  obtain ⟨h, hb6⟩ := bw_cut (n := 57) (A := .inr (11, [.ref (a + 1), .ref (a + 2), .ref (a + 10), .ref (a + 23), .ref (a + 36), .ref (a + 49), .ref (a + 51), .ref (a + 57), .ref (a + 60), .ref (a + 61), .ref (a + 62), .ref (a + 63), .ref (a + 109), .int 0, .int 0]) :: (((((([.inl (G.2.2.2.1 1, 700, .inl (fun _ => 0))] ++ LX5 G (a + 2)) ++ LX8 G (a + 10)) ++ LX8 G (a + 23)) ++ LX8 G (a + 36)) ++ LX0 G (a + 49)) ++ LX3 G (a + 51))) (B := LX6 G (a + 57)) h (by simp only [List.length_cons, List.length_append, List.length_nil, blk_len (L1_len G), blk_len (L10_len G), blk_len (L4_len G), blk_len (L2_len G)])
  obtain ⟨h, hb3⟩ := bw_cut (n := 51) (A := .inr (11, [.ref (a + 1), .ref (a + 2), .ref (a + 10), .ref (a + 23), .ref (a + 36), .ref (a + 49), .ref (a + 51), .ref (a + 57), .ref (a + 60), .ref (a + 61), .ref (a + 62), .ref (a + 63), .ref (a + 109), .int 0, .int 0]) :: ((((([.inl (G.2.2.2.1 1, 700, .inl (fun _ => 0))] ++ LX5 G (a + 2)) ++ LX8 G (a + 10)) ++ LX8 G (a + 23)) ++ LX8 G (a + 36)) ++ LX0 G (a + 49))) (B := LX3 G (a + 51)) h (by simp only [List.length_cons, List.length_append, List.length_nil, blk_len (L1_len G), blk_len (L10_len G), blk_len (L4_len G), blk_len (L2_len G)])
  obtain ⟨h, hb0⟩ := bw_cut (n := 49) (A := .inr (11, [.ref (a + 1), .ref (a + 2), .ref (a + 10), .ref (a + 23), .ref (a + 36), .ref (a + 49), .ref (a + 51), .ref (a + 57), .ref (a + 60), .ref (a + 61), .ref (a + 62), .ref (a + 63), .ref (a + 109), .int 0, .int 0]) :: (((([.inl (G.2.2.2.1 1, 700, .inl (fun _ => 0))] ++ LX5 G (a + 2)) ++ LX8 G (a + 10)) ++ LX8 G (a + 23)) ++ LX8 G (a + 36))) (B := LX0 G (a + 49)) h (by simp only [List.length_cons, List.length_append, List.length_nil, blk_len (L1_len G), blk_len (L10_len G), blk_len (L4_len G), blk_len (L2_len G)])
  obtain ⟨h, hs2⟩ := bw_cut (n := 36) (A := .inr (11, [.ref (a + 1), .ref (a + 2), .ref (a + 10), .ref (a + 23), .ref (a + 36), .ref (a + 49), .ref (a + 51), .ref (a + 57), .ref (a + 60), .ref (a + 61), .ref (a + 62), .ref (a + 63), .ref (a + 109), .int 0, .int 0]) :: ((([.inl (G.2.2.2.1 1, 700, .inl (fun _ => 0))] ++ LX5 G (a + 2)) ++ LX8 G (a + 10)) ++ LX8 G (a + 23))) (B := LX8 G (a + 36)) h (by simp only [List.length_cons, List.length_append, List.length_nil, blk_len (L1_len G), blk_len (L10_len G), blk_len (L4_len G), blk_len (L2_len G)])
  obtain ⟨h, hs1⟩ := bw_cut (n := 23) (A := .inr (11, [.ref (a + 1), .ref (a + 2), .ref (a + 10), .ref (a + 23), .ref (a + 36), .ref (a + 49), .ref (a + 51), .ref (a + 57), .ref (a + 60), .ref (a + 61), .ref (a + 62), .ref (a + 63), .ref (a + 109), .int 0, .int 0]) :: (([.inl (G.2.2.2.1 1, 700, .inl (fun _ => 0))] ++ LX5 G (a + 2)) ++ LX8 G (a + 10))) (B := LX8 G (a + 23)) h (by simp only [List.length_cons, List.length_append, List.length_nil, blk_len (L1_len G), blk_len (L10_len G), blk_len (L4_len G), blk_len (L2_len G)])
  obtain ⟨h, hs0⟩ := bw_cut (n := 10) (A := .inr (11, [.ref (a + 1), .ref (a + 2), .ref (a + 10), .ref (a + 23), .ref (a + 36), .ref (a + 49), .ref (a + 51), .ref (a + 57), .ref (a + 60), .ref (a + 61), .ref (a + 62), .ref (a + 63), .ref (a + 109), .int 0, .int 0]) :: ([.inl (G.2.2.2.1 1, 700, .inl (fun _ => 0))] ++ LX5 G (a + 2))) (B := LX8 G (a + 10)) h (by simp only [List.length_cons, List.length_append, List.length_nil, blk_len (L1_len G), blk_len (L10_len G), blk_len (L4_len G), blk_len (L2_len G)])
  obtain ⟨h, hb5⟩ := bw_cut (n := 2) (A := .inr (11, [.ref (a + 1), .ref (a + 2), .ref (a + 10), .ref (a + 23), .ref (a + 36), .ref (a + 49), .ref (a + 51), .ref (a + 57), .ref (a + 60), .ref (a + 61), .ref (a + 62), .ref (a + 63), .ref (a + 109), .int 0, .int 0]) :: [.inl (G.2.2.2.1 1, 700, .inl (fun _ => 0))]) (B := LX5 G (a + 2)) h (by simp only [List.length_cons, List.length_append, List.length_nil, blk_len (L1_len G), blk_len (L10_len G), blk_len (L4_len G), blk_len (L2_len G)])
  have hT : ∀ t, t < 2 → va_P G.2.2.1 classes (bw (a + 63 + 46 * t) (LX9 G (a + 63 + 46 * t))) H := fun t ht => by
    rcases (show t = 0 ∨ t = 1 by omega) with rfl | rfl
    · exact hT0
    · exact hT1
  have hSc : ∀ j, j < 3 → va_P G.2.2.1 classes (bw (a + 10 + 13 * j) (LX8 G (a + 10 + 13 * j))) H := fun j hj => by
    rcases (show j = 0 ∨ j = 1 ∨ j = 2 by omega) with rfl | rfl | rfl
    · exact hs0
    · exact hs1
    · exact hs2
  have fS : ∀ i, i < 3 → _ := fun i hi => rX8 (G := G) (a := a) (i := i) (hSc i hi) (by show _ = a + (10 + 13 * i); omega) (by show _ = a + (11 + 13 * i); omega) (by show _ = a + (12 + 13 * i); omega) (by show _ = a + (13 + 13 * i); omega) (by show _ = a + (14 + 13 * i); omega) (by show _ = a + (15 + 13 * i); omega) (by show _ = a + (16 + 13 * i); omega) (by show _ = a + (17 + 13 * i); omega) (by show _ = a + (18 + 13 * i); omega) (by show _ = a + (19 + 13 * i); omega) (by show _ = a + (20 + 13 * i); omega) (by show _ = a + (21 + 13 * i); omega) (by show _ = a + (22 + 13 * i); omega)
  have fH : ∀ i, i < 12 → _ := fun i hi => rX1 (G := G) (a := a) (i := i) ((rX9 (hT (i / 6) (by omega))).1 (i % 6) (by omega)) (by show _ = a + (68 + 46 * (i / 6) + 3 * (i % 6)); omega) (by show _ = a + (69 + 46 * (i / 6) + 3 * (i % 6)); omega) (by show _ = a + (70 + 46 * (i / 6) + 3 * (i % 6)); omega)
  have fW : ∀ i, i < 8 → _ := fun i hi => rX10 (G := G) (a := a) (i := i) ((rX9 (hT (i / 4) (by omega))).2.1 (i % 4) (by omega)) (by show _ = a + (86 + 46 * (i / 4) + i % 4); omega)
  have fR : ∀ i, i < 20 → _ := fun i hi => rX4 (G := G) (a := a) (i := i) ((rX9 (hT (i / 10) (by omega))).2.2.1 (i % 10) (by omega)) (by show _ = a + (90 + 46 * (i / 10) + i % 10); omega)
  have fL : ∀ i, i < 6 → _ := fun i hi => rX2 (G := G) (a := a) (i := i) ((rX9 (hT (i / 3) (by omega))).2.2.2 (i % 3) (by omega)) (by show _ = a + (100 + 46 * (i / 3) + 3 * (i % 3)); omega) (by show _ = a + (101 + 46 * (i / 3) + 3 * (i % 3)); omega) (by show _ = a + (102 + 46 * (i / 3) + 3 * (i % 3)); omega)
  have fD := rX0 (G := G) (a := a) (i := 0) hb0 rfl rfl
  have fO := rX3 (G := G) (a := a) (i := 0) hb3 rfl rfl rfl rfl rfl rfl
  have fQ := rX6 (G := G) (a := a) (i := 0) hb6 rfl rfl rfl
  have f5 := rX5 (G := G) (a := a) hb5
  intro k i hi
  have hk := cnA_lt hi
  rcases (show k = 0 ∨ k = 1 ∨ k = 2 ∨ k = 3 ∨ k = 4 ∨ k = 5 ∨ k = 6 ∨ k = 7 ∨ k = 8 ∨ k = 9 ∨ k = 10 ∨ k = 11 ∨ k = 13 ∨ k = 14 ∨ k = 15 ∨ k = 16 ∨ k = 17 ∨ k = 18 ∨ k = 19 ∨ k = 20 ∨ k = 21 ∨ k = 22 ∨ k = 23 ∨ k = 24 ∨ k = 25 ∨ k = 26 ∨ k = 27 ∨ k = 28 ∨ k = 29 ∨ k = 30 ∨ k = 31 ∨ k = 32 ∨ k = 33 ∨ k = 34 ∨ k = 35 ∨ k = 36 ∨ k = 37 ∨ k = 38 ∨ k = 39 ∨ k = 40 ∨ k = 41 ∨ k = 42 ∨ k = 43 ∨ k = 44 ∨ k = 45 ∨ k = 46 ∨ k = 47 ∨ k = 48 ∨ k = 49 ∨ k = 50 by omega) with rfl | rfl | rfl | rfl | rfl | rfl | rfl | rfl | rfl | rfl | rfl | rfl | rfl | rfl | rfl | rfl | rfl | rfl | rfl | rfl | rfl | rfl | rfl | rfl | rfl | rfl | rfl | rfl | rfl | rfl | rfl | rfl | rfl | rfl | rfl | rfl | rfl | rfl | rfl | rfl | rfl | rfl | rfl | rfl | rfl | rfl | rfl | rfl | rfl | rfl
  · have hi : i < 1 := hi
    have e : i = 0 := by omega
    subst e
    exact fD.1
  · exact (fH i hi).1
  · exact (fL i hi).1
  · have hi : i < 1 := hi
    have e : i = 0 := by omega
    subst e
    exact fO.1
  · exact fR i hi
  · have hi : i < 1 := hi
    have e : i = 0 := by omega
    subst e
    exact f5.1
  · have hi : i < 1 := hi
    have e : i = 0 := by omega
    subst e
    exact fQ.1
  · have hi : i < 1 := hi
    have e : i = 0 := by omega
    subst e
    exact f5.2.1
  · exact (fS i hi).1
  · exact (rX9o (G := G) (a := a) hi (hT i hi)).1
  · exact fW i hi
  · have hi : i < 1 := hi
    have e : i = 0 := by omega
    subst e
    exact at_to (h 0 _ rfl) rfl rfl
  · have hi : i < 1 := hi
    have e : i = 0 := by omega
    subst e
    exact fD.2
  · exact (fH i hi).2.1
  · exact (fH i hi).2.2
  · exact (fL i hi).2.1
  · exact (fL i hi).2.2
  · have hi : i < 1 := hi
    have e : i = 0 := by omega
    subst e
    exact fO.2.1
  · have hi : i < 1 := hi
    have e : i = 0 := by omega
    subst e
    exact fO.2.2.1
  · have hi : i < 1 := hi
    have e : i = 0 := by omega
    subst e
    exact fO.2.2.2.1
  · have hi : i < 1 := hi
    have e : i = 0 := by omega
    subst e
    exact fO.2.2.2.2.1
  · have hi : i < 1 := hi
    have e : i = 0 := by omega
    subst e
    exact fO.2.2.2.2.2
  · have hi : i < 1 := hi
    have e : i = 0 := by omega
    subst e
    exact f5.2.2.2.2.2.2.1
  · have hi : i < 1 := hi
    have e : i = 0 := by omega
    subst e
    exact f5.2.2.2.2.2.2.2
  · have hi : i < 1 := hi
    have e : i = 0 := by omega
    subst e
    exact fQ.2.1
  · have hi : i < 1 := hi
    have e : i = 0 := by omega
    subst e
    exact fQ.2.2
  · have hi : i < 1 := hi
    have e : i = 0 := by omega
    subst e
    exact f5.2.2.1
  · have hi : i < 1 := hi
    have e : i = 0 := by omega
    subst e
    exact f5.2.2.2.1
  · have hi : i < 1 := hi
    have e : i = 0 := by omega
    subst e
    exact f5.2.2.2.2.1
  · have hi : i < 1 := hi
    have e : i = 0 := by omega
    subst e
    exact f5.2.2.2.2.2.1
  · exact (fS i hi).2.1
  · exact (fS i hi).2.2.1
  · exact (fS i hi).2.2.2.1
  · exact (fS i hi).2.2.2.2.1
  · exact (fS i hi).2.2.2.2.2.1
  · exact (fS i hi).2.2.2.2.2.2.1
  · exact (fS i hi).2.2.2.2.2.2.2.1
  · exact (fS i hi).2.2.2.2.2.2.2.2.1
  · exact (fS i hi).2.2.2.2.2.2.2.2.2.1
  · exact (fS i hi).2.2.2.2.2.2.2.2.2.2.1
  · exact (fS i hi).2.2.2.2.2.2.2.2.2.2.2.1
  · exact (fS i hi).2.2.2.2.2.2.2.2.2.2.2.2
  · exact (rX9o (G := G) (a := a) hi (hT i hi)).2.1
  · exact (rX9o (G := G) (a := a) hi (hT i hi)).2.2.1
  · exact (rX9o (G := G) (a := a) hi (hT i hi)).2.2.2.1
  · exact (rX9o (G := G) (a := a) hi (hT i hi)).2.2.2.2
  · have hi : i < 1 := hi
    have e : i = 0 := by omega
    subst e
    exact at_to (h 1 _ rfl) rfl rfl
  · have hi : i < 1 := hi
    have e : i = 0 := by omega
    subst e
    exact at_to (hak 0 _ rfl) rfl rfl
  · have hi : i < 1 := hi
    have e : i = 0 := by omega
    subst e
    exact at_to (hac 0 _ rfl) rfl rfl
  · have hi : i < 1 := hi
    have e : i = 0 := by omega
    subst e
    exact at_to (haw 0 _ rfl) rfl rfl
end RA
