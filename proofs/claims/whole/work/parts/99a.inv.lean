-- WHAT ALWAYS HOLDS
theorem aRap_ge {T : aT} {S : aS} {r h w : Nat} {dr : Bool} {f i : Nat} (hf : 11 ≤ f) : aRap T S r h w dr f i = S f i := by
  have n : ∀ k, k < 11 → ¬ f = k := fun k hk e => by omega
  simp [aRap, n 0 (by decide), n 1 (by decide), n 2 (by decide), n 3 (by decide), n 4 (by decide), n 5 (by decide), n 6 (by decide), n 7 (by decide), n 8 (by decide), n 9 (by decide), n 10 (by decide)]
theorem aRaps_ge {T : aT} {S : aS} {dr : Bool} {f i : Nat} (hf : 11 ≤ f) : ∀ n, aRaps T dr n S f i = S f i := by
  intro n
  induction n with
  | zero => rfl
  | succ n ih =>
    unfold aRaps
    split
    · rw [aRap_ge hf]; exact ih
    · exact ih
theorem aDay_ge {T : aT} {S : aS} {dr fd : Bool} {f i : Nat} (hf : 11 ≤ f) : aDay T dr fd S f i = S f i := by
  unfold aDay su
  rw [if_neg (by omega), aRaps_ge hf]
  cases fd
  · rfl
  · exact aFade_ne (T := T) (S := S) (n := T.1 2) (f := f) (by omega)
theorem aPass_ge {T : aT} {S : aS} {dr fd : Bool} {f i : Nat} (hf : 11 ≤ f) : ∀ n, aPass T dr fd n S f i = S f i := by
  intro n
  induction n with
  | zero => rfl
  | succ n ih => unfold aPass; rw [aDay_ge hf]; exact ih
theorem WX.eq {T : aT} {S S' : aS} (h : WX T S) (e : ∀ f i, f = 3 ∨ f = 5 ∨ f = 6 ∨ f = 7 ∨ 10 ≤ f → S' f i = S f i) : WX T S' := by
  obtain ⟨h1, h2, h3, h4, ⟨t1, t2, t3, t4⟩, h6⟩ := h
  refine ⟨fun r hr => ?_, fun r hr => ?_, fun r hr => ?_, ?_, ⟨fun x hx => ?_, fun x hx => ?_, ?_, ?_⟩, ?_⟩
  · rw [e 3 r (by omega)]; exact h1 r hr
  · rw [e 5 r (by omega), e 7 r (by omega)]; exact h2 r hr
  · rw [e 5 r (by omega), e 6 r (by omega)]; exact h3 r hr
  · unfold WL at h4 ⊢; rw [e 13 0 (by omega)]; exact h4
  · rw [e 11 x (by omega)]; exact t1 x hx
  · rw [e 12 x (by omega)]; exact t2 x hx
  · rw [e 13 0 (by omega)]; exact t3
  · rw [e 14 0 (by omega)]; exact t4
  · rw [e 10 0 (by omega)]; exact h6
def WW (A : aA) : Prop := (A.T.1 0 ≤ 6 ∧ A.T.1 1 ≤ 4 ∧ A.T.1 2 ≤ 10) ∧ WT A.T ∧ WD A.T ∧ WX A.T A.S ∧ (∀ S, A.im = some S → WX A.T S) ∧ WU A ∧ WO A ∧ WP A
theorem WW.upd {A : aA} {S' : aS} {U' : aU} (h : WW A) (hx : WX A.T S') (hu : WU (updA A S' U')) : WW (updA A S' U') := ⟨h.1, h.2.1, h.2.2.1, hx, h.2.2.2.2.1, hu, h.2.2.2.2.2.2.1, h.2.2.2.2.2.2.2⟩
theorem WU.push {A : aA} {S' : aS} (h : WU A) (hx : WX A.T A.S) (e5 : ∀ r, S' 5 r = A.S 5 r) (e4 : ∀ r, ¬ A.S 5 r = 0 → S' 4 r = A.S 4 r) : WU (updA A S' (push A.U A.S)) := by
  obtain ⟨u1, u2⟩ := h
  obtain ⟨x1, x2, -, -, -, -⟩ := hx
  have pn : pN A.U ≤ 19 := Nat.min_le_right _ _
  refine ⟨?_, fun i hi r hr => ?_⟩
  · show pN A.U + 1 ≤ 20; omega
  have hi : i < pN A.U + 1 := hi
  show (¬ S' 5 r = 0 → (if i = pN A.U then A.S else A.U.2 (i + pD A.U)) 4 r = S' 4 r) ∧ ((if i = pN A.U then A.S else A.U.2 (i + pD A.U)) 7 r = 0 ∨ (if i = pN A.U then A.S else A.U.2 (i + pD A.U)) 7 r = 1) ∧ ∃ w, w < A.T.1 1 ∧ (if i = pN A.U then A.S else A.U.2 (i + pD A.U)) 3 r = nI w
  rw [e5]
  by_cases c : i = pN A.U
  · rw [if_pos c]
    exact ⟨fun z => (e4 r z).symm, (x2 r hr).2, x1 r hr⟩
  · rw [if_neg c]
    have lt : i + pD A.U < A.U.1 := by
      have : i < min A.U.1 19 := by have : pN A.U = min A.U.1 19 := rfl; omega
      have : pD A.U = A.U.1 - min A.U.1 19 := rfl
      omega
    obtain ⟨v1, v2, v3⟩ := u2 _ lt r hr
    exact ⟨fun z => by rw [e4 r z]; exact v1 z, v2, v3⟩
theorem su_o {S : aS} {f i : Nat} {v : Int32} {g j : Nat} (h : ¬ g = f) : su S f i v g j = S g j := if_neg (fun z => h z.1)
theorem W_warm {A : aA} {x y : Int32} (h : WW A) : WW (s_warm A x y).1 := by
  unfold s_warm
  by_cases c : okW A x y
  · rw [if_pos c]
    exact h.upd (h.2.2.2.1.eq (fun f i q => su_o (by omega))) (h.2.2.2.2.2.1.push h.2.2.2.1 (fun r => su_o (by decide)) (fun r _ => su_o (by decide)))
  · rw [if_neg c]; exact h
theorem W_sell {A : aA} {x y : Int32} (h : WW A) : WW (s_sell A x y).1 := by
  unfold s_sell
  by_cases c : okS A x y
  · rw [if_pos c]
    exact h.upd (h.2.2.2.1.eq (fun f i q => su_o (by omega))) (h.2.2.2.2.2.1.push h.2.2.2.1 (fun r => su_o (by decide)) (fun r _ => su_o (by decide)))
  · rw [if_neg c]; exact h
theorem W_order {A : aA} {x y d : Int32} (h : WW A) : WW (s_order A x y d).1 := by
  unfold s_order
  by_cases c : okO A x y d
  · rw [if_pos c]
    obtain ⟨c1, c2, c3, c4, c5⟩ := c
    have w4 := h.1.2.1
    obtain ⟨w, ew, hw⟩ := n_of (x := y) (n := A.T.1 1) (by omega) c2.1 c2.2
    obtain ⟨h1, h2, h3, h4, h5, h6⟩ := h.2.2.2.1
    have X1 : WX A.T (su A.S 3 x.toNatClampNeg y) := by
      refine ⟨fun r hr => ?_, fun r hr => ?_, fun r hr => ?_, ?_, ?_, ?_⟩
      · by_cases e : r = x.toNatClampNeg
        · exact ⟨w, hw, by show (if 3 = 3 ∧ r = _ then y else _) = _; rw [if_pos ⟨rfl, e⟩]; exact ew⟩
        · have : su A.S 3 x.toNatClampNeg y 3 r = A.S 3 r := if_neg (fun z => e z.2)
          rw [this]; exact h1 r hr
      · rw [su_o (by decide), su_o (by decide)]; exact h2 r hr
      · rw [su_o (by decide), su_o (by decide)]; exact h3 r hr
      · exact h4
      · exact h5
      · exact h6
    refine h.upd (X1.eq (fun f i q => su_o (by omega))) (h.2.2.2.2.2.1.push h.2.2.2.1 (fun r => ?_) (fun r z => ?_))
    · rw [su_o (by decide), su_o (by decide)]
    · have : su (su A.S 3 x.toNatClampNeg y) 4 x.toNatClampNeg d 4 r = su A.S 3 x.toNatClampNeg y 4 r := if_neg (fun q => z (by rw [q.2]; exact c4))
      rw [this, su_o (by decide)]
  · rw [if_neg c]; exact h
theorem W_plane {A : aA} {w : Int32} (h : WW A) : WW (s_plane A w).1 := by
  unfold s_plane
  by_cases c : okN (A.T.1 1) w
  · rw [if_pos c]
    obtain ⟨h1, h2, h3, h4, h5, h6⟩ := h.2.2.2.1
    refine h.upd ⟨fun r hr => ?_, fun r hr => ?_, fun r hr => ?_, ?_, ⟨fun x hx => ?_, fun x hx => ?_, ?_, ?_⟩, ?_⟩ (h.2.2.2.2.2.1.push h.2.2.2.1 (fun r => pln7_o (by decide)) (fun r _ => pln7_o (by decide)))
    · rw [pln7_o (by decide)]; exact h1 r hr
    · rw [pln7_o (by decide)]
      refine ⟨(h2 r hr).1, ?_⟩
      unfold pln7
      by_cases z : 7 = 7 ∧ aFresh A.S w r = true
      · rw [if_pos z]; exact Or.inr rfl
      · rw [if_neg z]; exact (h2 r hr).2
    · rw [pln7_o (by decide), pln7_o (by decide)]; exact h3 r hr
    · unfold WL; rw [pln7_o (by decide)]; exact h4
    · rw [pln7_o (by decide)]; exact h5.1 x hx
    · rw [pln7_o (by decide)]; exact h5.2.1 x hx
    · rw [pln7_o (by decide)]; exact h5.2.2.1
    · rw [pln7_o (by decide)]; exact h5.2.2.2
    · rw [pln7_o (by decide)]; exact h6
  · rw [if_neg c]; exact h
theorem W_undo {A : aA} (h : WW A) : WW (s_undo A).1 := by
  unfold s_undo
  cases e : A.U.1 with
  | zero => exact h
  | succ n =>
    obtain ⟨h1, h2, h3, h4, h5, h6⟩ := h.2.2.2.1
    obtain ⟨u1, u2⟩ := h.2.2.2.2.2.1
    refine h.upd ⟨fun r hr => ?_, fun r hr => ⟨?_, ?_⟩, fun r hr => ?_, h4, h5, h6⟩ ⟨by show n ≤ 20; omega, fun i hi r hr => ?_⟩
    · exact (u2 n (by omega) r hr).2.2
    · exact (h2 r hr).1
    · exact (u2 n (by omega) r hr).2.1
    · exact h3 r hr
    · have hi : i < n := hi
      refine ⟨fun z => ?_, (u2 i (by omega) r hr).2⟩
      have z : ¬ A.S 5 r = 0 := z
      show A.U.2 i 4 r = A.U.2 n 4 r
      rw [(u2 i (by omega) r hr).1 z, (u2 n (by omega) r hr).1 z]
theorem W_keep {A : aA} (h : WW A) : WW (s_keep A).1 := ⟨h.1, h.2.1, h.2.2.1, h.2.2.2.1, fun S e => by cases e; exact h.2.2.2.1, h.2.2.2.2.2.1, h.2.2.2.2.2.2.1, h.2.2.2.2.2.2.2⟩
theorem W_back {A : aA} (h : WW A) : WW (s_back A).1 := by
  unfold s_back
  cases e : A.im with
  | none => exact h
  | some S => exact h.upd (h.2.2.2.2.1 S e) ⟨Nat.zero_le _, fun i hi => absurd hi (Nat.not_lt_zero _)⟩
theorem W_days {A : aA} {n : Int32} (h : WW A) (h0 : 0 ≤ (s_days A n).1.S 10 0) : WW (s_days A n).1 := by
  unfold s_days at h0 ⊢
  by_cases c : okD A n
  · rw [if_pos c] at h0 ⊢
    obtain ⟨h1, h2, h3, h4, ⟨t1, t2, t3, t4⟩, h6⟩ := h.2.2.2.1
    refine h.upd ⟨h1.of3 (fun i => aPass_3 _), h2.pass _ _ _, h3.pass _ _ _, ?_, ⟨fun x hx => ?_, fun x hx => ?_, ?_, ?_⟩, h0⟩ ?_
    · unfold WL; rw [aPass_13]; exact h4
    · rw [aPass_ge (by decide)]; exact t1 x hx
    · rw [aPass_ge (by decide)]; exact t2 x hx
    · rw [aPass_ge (by decide)]; exact t3
    · rw [aPass_ge (by decide)]; exact t4
    · by_cases z : n = 0
      · subst z
        rw [if_pos rfl]
        exact h.2.2.2.2.2.1
      · rw [if_neg z]
        exact ⟨Nat.zero_le _, fun i hi => absurd hi (Nat.not_lt_zero _)⟩
  · rw [if_neg c]; exact h
