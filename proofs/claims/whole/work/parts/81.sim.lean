-- a hundred days from the first on: when each rap came, and what was heard
def WD (T : aT) : Prop := (∀ r, r < T.1 2 → ∃ d, d ≤ 99 ∧ T.2.1 10 r = nI d) ∧ WS T (sc0 T) ∧ WL (sc0 T)
def dyr (T : aT) (r : Nat) : Nat := (T.2.1 10 r).toNatClampNeg
theorem WD.d {T : aT} (h : WD T) {r : Nat} (hr : r < T.1 2) : dyr T r ≤ 99 ∧ T.2.1 10 r = nI (dyr T r) := by
  obtain ⟨x, h1, h2⟩ := h.1 r hr
  unfold dyr
  rw [h2, n_cl (by omega)]
  exact ⟨h1, rfl⟩
abbrev hap (T : aT) (d n r : Nat) : Prop := dyr T r < d ∨ (dyr T r = d ∧ r < n)
def ahp (T : aT) (h d n r : Nat) : Bool := decide (hnd T r = h ∧ hap T d n r)
def cntA (T : aT) (h d n : Nat) : Nat := zcount (ahp T h d n) (T.1 2)
def ahd (T : aT) (r : Nat) : Nat := cntA T (hnd T r) (dyr T r) r
theorem zc_one {p q : Nat → Bool} {n : Nat} (hp : p n = false) (hq : q n = true) (h : ∀ i, ¬ i = n → p i = q i) : ∀ N, n < N → zcount q N = zcount p N + 1 := by
  intro N
  induction N with
  | zero => intro z; omega
  | succ N ih =>
    intro z
    show zcount q N + (if q N = true then 1 else 0) = zcount p N + (if p N = true then 1 else 0) + 1
    by_cases e : n = N
    · subst e
      rw [zcount_congr (fun i hi => (h i (by omega)).symm), hp, hq]; rfl
    · rw [ih (by omega), h N (by omega)]
      omega
theorem cntA_yes {T : aT} {d n : Nat} (hn : n < T.1 2) (hd : dyr T n = d) : cntA T (hnd T n) d (n + 1) = cntA T (hnd T n) d n + 1 := by
  refine zc_one (n := n) (decide_eq_false (by unfold hap; omega)) (decide_eq_true ⟨rfl, Or.inr ⟨hd, by omega⟩⟩) (fun i hi => ?_) _ hn
  exact decide_eq_decide.mpr ⟨fun q => ⟨q.1, by have := q.2; unfold hap at *; omega⟩, fun q => ⟨q.1, by have := q.2; unfold hap at *; omega⟩⟩
theorem cntA_no {T : aT} {d n h : Nat} (hd : ¬ (dyr T n = d ∧ hnd T n = h)) : cntA T h d (n + 1) = cntA T h d n := by
  refine zcount_congr (fun i hi => ?_)
  refine decide_eq_decide.mpr ⟨fun q => ⟨q.1, ?_⟩, fun q => ⟨q.1, ?_⟩⟩
  · have q2 := q.2
    have q1 := q.1
    unfold hap at *
    by_cases e : i = n
    · subst e; omega
    · omega
  · have q2 := q.2
    unfold hap at *
    omega
theorem cntA_day {T : aT} {d h : Nat} : cntA T h d (T.1 2) = cntA T h (d + 1) 0 := by
  refine zcount_congr (fun i hi => ?_)
  exact decide_eq_decide.mpr ⟨fun q => ⟨q.1, by have := q.2; unfold hap at *; omega⟩, fun q => ⟨q.1, by have := q.2; unfold hap at *; omega⟩⟩
theorem zc_none {p : Nat → Bool} (h : ∀ i, p i = false) : ∀ n, zcount p n = 0 := by
  intro n
  induction n with
  | zero => rfl
  | succ n ih =>
    show zcount p n + (if p n = true then 1 else 0) = 0
    rw [ih, h n]; rfl
def stt (T : aT) (S0 : aS) (r : Nat) : aS := su (su S0 9 0 (nI (dyr T r))) 1 (hnd T r) (nI (ahd T r))
def vlu (T : aT) (S0 : aS) (r k : Nat) : Int32 := T.2.1 3 (6 * hnd T r + k) + (if shk T (stt T S0 r) (hnd T r) (wod S0 r) k < 50 then 0 else 1)
theorem shk_cg {T : aT} {S S' : aS} {h w k : Nat} (h0 : S 0 h = S' 0 h) (h11 : S 11 h = S' 11 h) (h12 : S 12 w = S' 12 w) (h1 : S 1 h = S' 1 h) (h9 : S 9 0 = S' 9 0) : shk T S h w k = shk T S' h w k := by
  unfold shk anm
  rw [h0, h11, h12, h1, h9]
def smP (T : aT) (S0 : aS) (d n : Nat) (S : aS) : Prop :=
  (∀ f i, ¬ (f = 1 ∨ f = 5 ∨ f = 6 ∨ f = 7 ∨ f = 8 ∨ f = 9 ∨ f = 10) → S f i = S0 f i) ∧ S 9 0 = nI d ∧ (∀ h, h < T.1 0 → S 1 h = nI (cntA T h d n)) ∧
  ∀ r, r < T.1 2 → (hap T d n r → ¬ S 5 r = 0 ∧ ∀ k, k < 6 → S 8 (6 * r + k) = vlu T S0 r k) ∧ (¬ hap T d n r → S 5 r = 0)
theorem sm_raps {T : aT} {S0 S : aS} {d : Nat} (wT : WT T) (wD : WD T) (h6 : T.1 0 ≤ 6) (w4 : T.1 1 ≤ 4) (e3 : ∀ i, S0 3 i = T.2.1 9 i) (e4 : ∀ i, S0 4 i = T.2.1 10 i) (e14 : S0 14 0 = -1) (hd : d < 1000) (h : smP T S0 d 0 S) : ∀ n, n ≤ T.1 2 → smP T S0 d n (aRaps T false n S) := by
  intro n
  induction n with
  | zero => intro _; exact h
  | succ n ih =>
    intro hn
    have ih := ih (by omega)
    obtain ⟨g1, g2, g3, g4⟩ := ih
    obtain ⟨hh, eh⟩ := wT.h h6 (r := n) (by omega)
    obtain ⟨d9, ed⟩ := wD.d (r := n) (by omega)
    have s4 : aRaps T false n S 4 n = nI (dyr T n) := by rw [g1 4 n (by omega), e4]; exact ed
    have s14 : aRaps T false n S 14 0 = -1 := by rw [g1 14 0 (by omega)]; exact e14
    have s3 : ∀ i, aRaps T false n S 3 i = S0 3 i := fun i => g1 3 i (by omega)
    have st : aRaps T false (n + 1) S = if aRaps T false n S 5 n = 0 ∧ aRaps T false n S 4 n = aRaps T false n S 9 0 ∧ ¬ T.2.1 8 n = aRaps T false n S 14 0 then aRap T (aRaps T false n S) n (hnd T n) (wod (aRaps T false n S) n) false else aRaps T false n S := rfl
    have hw : wod (aRaps T false n S) n = wod S0 n := by unfold wod; rw [s3]
    rw [st]
    by_cases e : dyr T n = d
    · have c5 : aRaps T false n S 5 n = 0 := (g4 n (by omega)).2 (by unfold hap; omega)
      rw [if_pos ⟨c5, by rw [s4, g2, e], by rw [s14, eh]; exact n_ne1 (by omega)⟩, hw]
      generalize aRaps T false n S = C at *
      have ec : C 1 (hnd T n) = nI (ahd T n) := by rw [g3 _ hh]; unfold ahd; rw [e]
      have es : ∀ k, shk T C (hnd T n) (wod S0 n) k = shk T (stt T S0 n) (hnd T n) (wod S0 n) k := fun k => by
        refine shk_cg ?_ ?_ ?_ ?_ ?_
        · rw [g1 0 _ (by omega)]; unfold stt; rw [su_r (by omega), su_r (by omega)]
        · rw [g1 11 _ (by omega)]; unfold stt; rw [su_r (by omega), su_r (by omega)]
        · rw [g1 12 _ (by omega)]; unfold stt; rw [su_r (by omega), su_r (by omega)]
        · rw [ec]; unfold stt; rw [su_h ⟨rfl, rfl⟩]
        · rw [g2]; unfold stt; rw [su_r (by omega), su_h ⟨rfl, rfl⟩, e]
      refine ⟨fun f i q => ?_, ?_, fun x hx => ?_, fun r hr => ⟨fun q => ?_, fun q => ?_⟩⟩
      · rw [← g1 f i q]
        unfold aRap
        rw [if_neg (by omega), if_neg (by omega), if_neg (by omega), if_neg (by omega), if_neg (by omega)]
      · rw [← g2]
        unfold aRap
        rw [if_neg (by omega), if_neg (by omega), if_neg (by omega), if_neg (by omega), if_neg (by omega)]
      · unfold aRap
        rw [if_neg (by omega), if_neg (by omega), if_neg (by omega)]
        by_cases z : x = hnd T n
        · rw [if_pos ⟨rfl, z⟩, z, cntA_yes (by omega) e, g3 _ hh, n_succ]
        · rw [if_neg (fun y => z y.2), if_neg (by omega), g3 x hx, cntA_no (fun y => z y.2.symm)]
      · by_cases z : r = n
        · subst z
          refine ⟨?_, fun k hk => ?_⟩
          · unfold aRap
            rw [if_neg (by omega), if_pos ⟨rfl, rfl⟩]
            cases whof T C (wod S0 r) (earf T C (hnd T r) (wod S0 r) false) with
            | none => decide
            | some b => exact (by decide : ¬ (1 : Int32) = 0)
          · unfold aRap
            rw [if_pos ⟨rfl, by omega, by omega⟩, show 6 * r + k - 6 * r = k by omega]
            unfold earf vlu
            rw [← es k]
            rfl
        · have := (g4 r hr).1 (by unfold hap at q ⊢; omega)
          refine ⟨?_, fun k hk => ?_⟩
          · unfold aRap
            rw [if_neg (by omega), if_neg (by omega), if_neg (by omega), if_neg (by omega), if_neg (by omega)]
            exact this.1
          · unfold aRap
            rw [if_neg (by omega), if_neg (by omega), if_neg (by omega), if_neg (by omega), if_neg (by omega)]
            exact this.2 k hk
      · have z : ¬ r = n := fun z => q (by subst z; exact Or.inr ⟨e, by omega⟩)
        have := (g4 r hr).2 (by unfold hap at q ⊢; omega)
        unfold aRap
        rw [if_neg (by omega), if_neg (by omega), if_neg (by omega), if_neg (by omega), if_neg (by omega)]
        exact this
    · rw [if_neg (fun z => e (by
        have := z.2.1
        rw [s4, g2, n_eq (by omega) (by omega)] at this
        exact this))]
      refine ⟨g1, g2, fun x hx => ?_, fun r hr => ⟨fun q => (g4 r hr).1 ?_, fun q => (g4 r hr).2 ?_⟩⟩
      · rw [cntA_no (fun y => e y.1)]; exact g3 x hx
      · unfold hap at q ⊢
        by_cases z : r = n
        · subst z; omega
        · omega
      · unfold hap at q ⊢
        omega
theorem sm_day {T : aT} {S0 S : aS} {d : Nat} (wT : WT T) (wD : WD T) (h6 : T.1 0 ≤ 6) (w4 : T.1 1 ≤ 4) (e3 : ∀ i, S0 3 i = T.2.1 9 i) (e4 : ∀ i, S0 4 i = T.2.1 10 i) (e14 : S0 14 0 = -1) (hd : d < 1000) (h : smP T S0 d 0 S) : smP T S0 (d + 1) 0 (aDay T false true S) := by
  have hf : smP T S0 d 0 (aFade T S (T.1 2)) := by
    obtain ⟨g1, g2, g3, g4⟩ := h
    refine ⟨fun f i q => ?_, ?_, fun x hx => ?_, fun r hr => ?_⟩
    · rw [aFade_ne (by omega)]; exact g1 f i q
    · rw [aFade_ne (by omega)]; exact g2
    · rw [aFade_ne (by omega)]; exact g3 x hx
    · have e8 : ∀ i, aFade T S (T.1 2) 8 i = S 8 i := fun i => aFade_ne (by omega)
      rw [aFade_ne (f := 5) (by omega)]
      simp only [e8]
      exact g4 r hr
  have := sm_raps wT wD h6 w4 e3 e4 e14 hd hf (T.1 2) (Nat.le_refl _)
  have e9 : aDay T false true S = su (aRaps T false (T.1 2) (aFade T S (T.1 2))) 9 0 (aRaps T false (T.1 2) (aFade T S (T.1 2)) 9 0 + 1) := rfl
  rw [e9]
  generalize aRaps T false (T.1 2) (aFade T S (T.1 2)) = C at *
  obtain ⟨g1, g2, g3, g4⟩ := this
  refine ⟨fun f i q => ?_, ?_, fun x hx => ?_, fun r hr => ⟨fun q => ?_, fun q => ?_⟩⟩
  · rw [su_r (by omega)]; exact g1 f i q
  · rw [su_h ⟨rfl, rfl⟩, g2, n_succ]
  · rw [su_r (by omega), ← cntA_day]; exact g3 x hx
  · have := (g4 r hr).1 (by unfold hap at q ⊢; omega)
    refine ⟨by rw [su_r (by omega)]; exact this.1, fun k hk => by rw [su_r (by omega)]; exact this.2 k hk⟩
  · rw [su_r (by omega)]
    exact (g4 r hr).2 (by unfold hap at q ⊢; omega)
theorem sm_pass {T : aT} {S0 : aS} (wT : WT T) (wD : WD T) (h6 : T.1 0 ≤ 6) (w4 : T.1 1 ≤ 4) (e3 : ∀ i, S0 3 i = T.2.1 9 i) (e4 : ∀ i, S0 4 i = T.2.1 10 i) (e14 : S0 14 0 = -1) (e9 : S0 9 0 = 0) (e1 : ∀ i, S0 1 i = 0) (e5 : ∀ i, S0 5 i = 0) : ∀ n, n ≤ 100 → smP T S0 n 0 (aPass T false true n S0) := by
  intro n
  induction n with
  | zero =>
    intro _
    refine ⟨fun f i q => rfl, e9, fun x hx => ?_, fun r hr => ⟨fun q => ?_, fun q => e5 r⟩⟩
    · show S0 1 x = _
      rw [e1]
      unfold cntA
      rw [zc_none (p := ahp T x 0 0) (fun i => decide_eq_false (by unfold hap; omega))]; rfl
    · unfold hap at q; omega
  | succ n ih =>
    intro hn
    exact sm_day wT wD h6 w4 e3 e4 e14 (by omega) (ih (by omega))
theorem sm_end {T : aT} {S0 : aS} (wT : WT T) (wD : WD T) (h6 : T.1 0 ≤ 6) (w4 : T.1 1 ≤ 4) (e3 : ∀ i, S0 3 i = T.2.1 9 i) (e4 : ∀ i, S0 4 i = T.2.1 10 i) (e14 : S0 14 0 = -1) (e9 : S0 9 0 = 0) (e1 : ∀ i, S0 1 i = 0) (e5 : ∀ i, S0 5 i = 0) {r k : Nat} (hr : r < T.1 2) (hk : k < 6) : aPass T false true 100 S0 8 (6 * r + k) = vlu T S0 r k := by
  have h := (sm_pass wT wD h6 w4 e3 e4 e14 e9 e1 e5 100 (Nat.le_refl _)).2.2.2 r hr
  have := (wD.d hr).1
  exact (h.1 (Or.inl (by omega))).2 k hk
