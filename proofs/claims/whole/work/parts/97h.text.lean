-- what a text that is read keeps to
def QW (T : aT) : Prop := (T.1 0 ≤ 6 ∧ T.1 1 ≤ 4 ∧ T.1 2 ≤ 10) ∧ WT T ∧ (∀ r, r < T.1 2 → ∃ d, d ≤ 99 ∧ T.2.1 10 r = nI d) ∧ WS T (sc0 T) ∧ (∃ l, l ≤ 24 ∧ T.2.1 11 0 = nI l) ∧ (∃ s, s ≤ 99999 ∧ T.2.1 12 0 = nI s) ∧ QK T
theorem v_of {x : Int32} {lo hi : Nat} (hh : hi < 2147483647) (h1 : nI lo ≤ x) (h2 : x ≤ nI hi) (hl : lo < 2147483648) : ∃ k, lo ≤ k ∧ k ≤ hi ∧ x = nI k := by
  obtain ⟨k, e, hk⟩ := n_of (x := x) (n := hi + 1) (by omega) (Int32.le_trans (by rw [show (0 : Int32) = nI 0 from rfl, n_le (by omega) hl]; omega) h1) (Int32.lt_of_le_of_lt h2 (by rw [n_lt (by omega) (by omega)]; omega))
  subst e
  rw [n_le hl (by omega)] at h1
  exact ⟨k, h1, by omega, rfl⟩
theorem tkA_inl {B : Nat → Nat} {n k j : Nat} {st : aR} (h : tkA B n k st = .inl j) : ∃ i, st = .inl i ∧ j = i + 1 ∧ kd B n i = k := by
  cases st with
  | inr x => cases h
  | inl i =>
    unfold tkA at h
    dsimp only at h
    by_cases c : kd B n i = k
    · rw [if_pos c] at h; cases h; exact ⟨i, rfl, rfl, c⟩
    · rw [if_neg c] at h; cases h
theorem xrun_ok {B : Nat → Nat} {n c0 : Nat} : ∀ {f : Nat} {X : aX} {j cnt : Nat} {cs : List Int32}, XI c0 X → xrun B n f X = .inr (j, cs, cnt) → cnt ≤ 64 ∧ X.1 ≤ j := by
  intro f
  induction f with
  | zero => intro X j cnt cs _ h; cases h
  | succ f ih =>
    intro X j cnt cs hI h
    rw [xrun_s] at h
    cases e : xst B n X with
    | inl x => rw [e] at h; cases h
    | inr y =>
      cases y with
      | inr X' =>
        rw [e] at h
        obtain ⟨g1, g2, -⟩ := XI_step hI e
        have := ih g1 h
        exact ⟨this.1, by omega⟩
      | inl r =>
        rw [e] at h
        have h : Sum.inr r = Sum.inr (j, cs, cnt) := h
        cases h
        obtain ⟨i, a, ws, wa, mn, cn⟩ := X
        have i5 := hI.2.2.2.2.1
        dsimp only at i5 ⊢
        unfold xst at e
        dsimp only at e
        cases wa with
        | true =>
          rw [if_pos rfl] at e
          by_cases c1 : kd B n i = 11 ∧ mn = true
          · rw [if_pos c1] at e
            by_cases c2 : cn = 64
            · rw [if_pos c2] at e; cases e
            · rw [if_neg c2] at e; cases e
          · rw [if_neg c1] at e
            by_cases c2 : kd B n i = 22
            · rw [if_pos c2] at e
              by_cases c3 : opn ws = 8
              · rw [if_pos c3] at e; cases e
              · rw [if_neg c3] at e; cases e
            · rw [if_neg c2] at e
              by_cases c3 : 12 ≤ kd B n i ∧ kd B n i ≤ 18
              · rw [if_pos c3] at e
                by_cases c4 : cn = 64
                · rw [if_pos c4] at e; cases e
                · rw [if_neg c4] at e; cases e
              · rw [if_neg c3] at e
                by_cases c4 : kd B n i = 20
                · rw [if_pos c4] at e
                  by_cases c5 : vl B n i ≤ nI 9999
                  · rw [if_pos c5] at e
                    by_cases c6 : cn = 64
                    · rw [if_pos c6] at e; cases e
                    · rw [if_neg c6] at e; cases e
                  · rw [if_neg c5] at e; cases e
                · rw [if_neg c4] at e; cases e
        | false =>
          rw [if_neg (by decide)] at e
          by_cases c1 : kd B n i = 23 ∧ 0 < opn ws
          · rw [if_pos c1] at e; cases e
          · rw [if_neg c1] at e
            by_cases c2 : isB (kd B n i)
            · rw [if_pos c2] at e
              by_cases c3 : rkC (kd B n i) = 4 ∧ cmT ws = true
              · rw [if_pos c3] at e; cases e
              · rw [if_neg c3] at e
                by_cases c4 : cn = 64
                · rw [if_pos c4] at e; cases e
                · rw [if_neg c4] at e; cases e
            · rw [if_neg c2] at e
              by_cases c3 : 0 < opn ws
              · rw [if_pos c3] at e; cases e
              · rw [if_neg c3] at e; cases e; exact ⟨i5, Nat.le_refl _⟩
theorem XI_0 {i c : Nat} (hc : c ≤ 64) : XI c (i, [], [], true, true, c) := ⟨trivial, fun _ _ k l q => (by cases q), Nat.zero_le _, by show 0 + (0 - 0) + c = c; omega, hc, fun x hx => (by cases hx)⟩
theorem bodA_QW {B : Nat → Nat} {n i j : Nat} {Q : aQ} (h : QW Q.1) (e : (bodA B n Q i).1 = .inl j) : QW (bodA B n Q i).2.1 ∧ i < j := by
  obtain ⟨⟨h6, h4, h10⟩, ⟨w1, w2, w3⟩, hd, hs, hl, hsd, hk⟩ := h
  unfold bodA at e ⊢
  by_cases k0 : kd B n i = 0
  · rw [if_pos k0] at e ⊢
    dsimp only at e ⊢
    by_cases c : Q.1.1 0 < 6
    · rw [if_pos c] at e
      obtain ⟨i1, q1, q2, q3⟩ := btA_inl e
      obtain ⟨i2, q4, q5, -⟩ := nuA_inl q1
      obtain ⟨i3, q6, q7, -⟩ := nuA_inl q4
      obtain ⟨i4, q8, q9⟩ := nnA_inl q6
      cases q8
      have T0 : (addH Q.1 (fun q => vl B n (i + 1 + q))).1 0 = Q.1.1 0 + 1 := rfl
      have T1 : ∀ q, ¬ q = 0 → (addH Q.1 (fun q => vl B n (i + 1 + q))).1 q = Q.1.1 q := fun q w => if_neg w
      have F : ∀ a x, ¬ (a ≤ 2 ∧ x = Q.1.1 0) → ¬ (a = 3 ∧ 6 * Q.1.1 0 ≤ x ∧ x < 6 * Q.1.1 0 + 6) → (addH Q.1 (fun q => vl B n (i + 1 + q))).2.1 a x = Q.1.2.1 a x := fun a x u1 u2 => by
        unfold addH; dsimp only; rw [if_neg u1, if_neg u2]
      have fe : ∀ a x, 3 < a → (addH Q.1 (fun q => vl B n (i + 1 + q))).2.1 a x = Q.1.2.1 a x := fun a x u => F a x (by omega) (by omega)
      refine ⟨⟨⟨by rw [T0]; omega, by rw [T1 1 (by decide)]; exact h4, by rw [T1 2 (by decide)]; exact h10⟩, ⟨fun r hr => ?_, fun x hx k hk6 => ?_, fun x hx => ?_⟩, fun r hr => ?_, fun r hr => ?_, ?_, ?_, ?_⟩, by omega⟩
      · rw [T1 2 (by decide)] at hr
        obtain ⟨x, u1, u2⟩ := w1 r hr
        rw [T0, fe 8 r (by omega)]
        exact ⟨x, by omega, u2⟩
      · rw [T0] at hx
        by_cases z : x = Q.1.1 0
        · subst z
          have : (addH Q.1 (fun q => vl B n (i + 1 + q))).2.1 3 (6 * Q.1.1 0 + k) = vl B n (i1 + k) := by
            unfold addH; dsimp only
            rw [if_neg (show ¬ (3 ≤ 2 ∧ 6 * Q.1.1 0 + k = Q.1.1 0) by omega), if_pos (show 3 = 3 ∧ 6 * Q.1.1 0 ≤ 6 * Q.1.1 0 + k ∧ 6 * Q.1.1 0 + k < 6 * Q.1.1 0 + 6 by omega), show i + 1 + (3 + (6 * Q.1.1 0 + k - 6 * Q.1.1 0)) = i1 + k by omega]
          rw [this]
          obtain ⟨y, y1, y2, y3⟩ := v_of (by decide) (q3 k hk6).2.1 (q3 k hk6).2.2 (by decide)
          exact ⟨y, y1, y2, y3⟩
        · rw [F 3 _ (by omega) (by omega)]; exact w2 x (by omega) k hk6
      · rw [T1 1 (by decide)] at hx
        rw [fe 5 x (by omega)]; exact w3 x hx
      · rw [T1 2 (by decide)] at hr
        rw [fe 10 r (by omega)]; exact hd r hr
      · rw [T1 2 (by decide)] at hr
        obtain ⟨x, u1, u2⟩ := hs r hr
        exact ⟨x, by rw [T1 1 (by decide)]; exact u1, by show (addH Q.1 (fun q => vl B n (i + 1 + q))).2.1 9 r = nI x; rw [fe 9 r (by omega)]; exact u2⟩
      · rw [fe 11 0 (by omega)]; exact hl
      · rw [fe 12 0 (by omega)]; exact hsd
      · unfold QK; rw [fe 13 0 (by omega)]; exact hk
    · rw [if_neg c] at e; cases e
  · rw [if_neg k0] at e ⊢
    by_cases k1 : kd B n i = 1
    · rw [if_pos k1] at e ⊢
      dsimp only at e ⊢
      by_cases c : Q.1.1 1 < 4
      · rw [if_pos c] at e
        obtain ⟨i1, b1, q1, q2, q3⟩ := tnA_inl e
        obtain ⟨i2, q4, q5, -⟩ := nuA_inl q1
        obtain ⟨i3, q6, q7, q8, q9, q10⟩ := nuA_inl q4
        obtain ⟨i4, q11, q12⟩ := nnA_inl q6
        cases q11
        have T0 : (addW Q.1 (woG B n Q.1 i)).1 1 = Q.1.1 1 + 1 := rfl
        have T1 : ∀ q, ¬ q = 1 → (addW Q.1 (woG B n Q.1 i)).1 q = Q.1.1 q := fun q w => if_neg w
        have F : ∀ a x, ¬ ((4 ≤ a ∧ a ≤ 7) ∧ x = Q.1.1 1) → (addW Q.1 (woG B n Q.1 i)).2.1 a x = Q.1.2.1 a x := fun a x u1 => by
          unfold addW; dsimp only; rw [if_neg u1]
        refine ⟨⟨⟨by rw [T1 0 (by decide)]; exact h6, by rw [T0]; omega, by rw [T1 2 (by decide)]; exact h10⟩, ⟨fun r hr => ?_, fun x hx k hk6 => ?_, fun x hx => ?_⟩, fun r hr => ?_, fun r hr => ?_, ?_, ?_, ?_⟩, by omega⟩
        · rw [T1 2 (by decide)] at hr
          rw [T1 0 (by decide), F 8 r (by omega)]; exact w1 r hr
        · rw [T1 0 (by decide)] at hx
          rw [F 3 _ (by omega)]; exact w2 x hx k hk6
        · rw [T0] at hx
          by_cases z : x = Q.1.1 1
          · subst z
            have : (addW Q.1 (woG B n Q.1 i)).2.1 5 (Q.1.1 1) = vl B n i3 := by
              unfold addW; dsimp only
              rw [if_pos (show (4 ≤ 5 ∧ 5 ≤ 7) ∧ Q.1.1 1 = Q.1.1 1 from ⟨by omega, rfl⟩), q12]; rfl
            rw [this]
            obtain ⟨y, y1, y2, y3⟩ := v_of (by decide) q9 q10 (by decide)
            exact ⟨y, y2, y3⟩
          · rw [F 5 x (by omega)]; exact w3 x (by omega)
        · rw [T1 2 (by decide)] at hr
          rw [F 10 r (by omega)]; exact hd r hr
        · rw [T1 2 (by decide)] at hr
          obtain ⟨x, u1, u2⟩ := hs r hr
          exact ⟨x, by rw [T0]; omega, by show (addW Q.1 (woG B n Q.1 i)).2.1 9 r = nI x; rw [F 9 r (by omega)]; exact u2⟩
        · rw [F 11 0 (by omega)]; exact hl
        · rw [F 12 0 (by omega)]; exact hsd
        · unfold QK; rw [F 13 0 (by omega)]; exact hk
      · rw [if_neg c] at e; cases e
    · rw [if_neg k1] at e ⊢
      by_cases k2 : kd B n i = 2
      · rw [if_pos k2] at e ⊢
        dsimp only at e ⊢
        by_cases c : Q.1.1 2 < 10
        · rw [if_pos c] at e
          obtain ⟨i1, q1, q2, q3, q4, q5⟩ := nuA_inl e
          obtain ⟨i2, b2, q6, q7, q8⟩ := tnA_inl q1
          obtain ⟨i3, b3, q9, q10, q11⟩ := tnA_inl q6
          cases q9
          have T0 : (addR Q.1 (raG B n Q.1 i)).1 2 = Q.1.1 2 + 1 := rfl
          have T1 : ∀ q, ¬ q = 2 → (addR Q.1 (raG B n Q.1 i)).1 q = Q.1.1 q := fun q w => if_neg w
          have F : ∀ a x, ¬ ((8 ≤ a ∧ a ≤ 10) ∧ x = Q.1.1 2) → (addR Q.1 (raG B n Q.1 i)).2.1 a x = Q.1.2.1 a x := fun a x u1 => by
            unfold addR; dsimp only; rw [if_neg u1]
          have G : ∀ a, 8 ≤ a ∧ a ≤ 10 → (addR Q.1 (raG B n Q.1 i)).2.1 a (Q.1.1 2) = raG B n Q.1 i (a - 8) := fun a u => by
            unfold addR; dsimp only; rw [if_pos ⟨u, rfl⟩]
          refine ⟨⟨⟨by rw [T1 0 (by decide)]; exact h6, by rw [T1 1 (by decide)]; exact h4, by rw [T0]; omega⟩, ⟨fun r hr => ?_, fun x hx k hk6 => ?_, fun x hx => ?_⟩, fun r hr => ?_, fun r hr => ?_, ?_, ?_, ?_⟩, by omega⟩
          · rw [T0] at hr
            rw [T1 0 (by decide)]
            by_cases z : r = Q.1.1 2
            · subst z
              rw [G 8 (by omega)]
              refine ⟨b3, fnd_lt q11, ?_⟩
              show wbR (fnd (Q.1.2.1 0) (vl B n (i + 1)) (Q.1.1 0)) = nI b3
              rw [q11]; rfl
            · rw [F 8 r (by omega)]; exact w1 r (by omega)
          · rw [T1 0 (by decide)] at hx
            rw [F 3 _ (by omega)]; exact w2 x hx k hk6
          · rw [T1 1 (by decide)] at hx
            rw [F 5 x (by omega)]; exact w3 x hx
          · rw [T0] at hr
            by_cases z : r = Q.1.1 2
            · subst z
              rw [G 10 (by omega)]
              obtain ⟨y, y1, y2, y3⟩ := v_of (by decide) q4 q5 (by decide)
              refine ⟨y, y2, ?_⟩
              show vl B n (i + 3) = nI y
              rw [← y3, q7, q10]
            · rw [F 10 r (by omega)]; exact hd r (by omega)
          · rw [T0] at hr
            rw [T1 1 (by decide)]
            show ∃ w, w < Q.1.1 1 ∧ (addR Q.1 (raG B n Q.1 i)).2.1 9 r = nI w
            by_cases z : r = Q.1.1 2
            · subst z
              rw [G 9 (by omega)]
              refine ⟨b2, fnd_lt q8, ?_⟩
              show wbR (fnd (Q.1.2.1 4) (vl B n (i + 2)) (Q.1.1 1)) = nI b2
              rw [q10] at q8
              rw [q8]; rfl
            · rw [F 9 r (by omega)]; exact hs r (by omega)
          · rw [F 11 0 (by omega)]; exact hl
          · rw [F 12 0 (by omega)]; exact hsd
          · unfold QK; rw [F 13 0 (by omega)]; exact hk
        · rw [if_neg c] at e; cases e
      · rw [if_neg k2] at e ⊢
        have setQ : ∀ (f : Nat) (v : Int32), f = 11 ∨ f = 12 → (f = 11 → ∃ l, l ≤ 24 ∧ v = nI l) → (f = 12 → ∃ s, s ≤ 99999 ∧ v = nI s) → QW (setF Q.1 f v) := fun f v hf g1 g2 => by
          have F : ∀ a x, ¬ a = f → (setF Q.1 f v).2.1 a x = Q.1.2.1 a x := fun a x u => setF_r u
          have n8 : ∀ a, ¬ a = 11 → ¬ a = 12 → ¬ a = f := fun a u1 u2 v => hf.elim (fun w => u1 (v.trans w)) (fun w => u2 (v.trans w))
          refine ⟨⟨h6, h4, h10⟩, ⟨fun r hr => ?_, fun x hx k hk6 => ?_, fun x hx => ?_⟩, fun r hr => ?_, fun r hr => ?_, ?_, ?_, ?_⟩
          · rw [F 8 r (n8 8 (by decide) (by decide))]; exact w1 r hr
          · rw [F 3 _ (n8 3 (by decide) (by decide))]; exact w2 x hx k hk6
          · rw [F 5 x (n8 5 (by decide) (by decide))]; exact w3 x hx
          · rw [F 10 r (n8 10 (by decide) (by decide))]; exact hd r hr
          · obtain ⟨x, u1, u2⟩ := hs r hr
            exact ⟨x, u1, by show (setF Q.1 f v).2.1 9 r = nI x; rw [F 9 r (n8 9 (by decide) (by decide))]; exact u2⟩
          · by_cases z : f = 11
            · subst z; rw [setF_h]; exact g1 rfl
            · rw [F 11 0 (fun u => z u.symm)]; exact hl
          · by_cases z : f = 12
            · subst z; rw [setF_h]; exact g2 rfl
            · rw [F 12 0 (fun u => z u.symm)]; exact hsd
          · unfold QK; rw [F 13 0 (n8 13 (by decide) (by decide))]; exact hk
        by_cases k3 : kd B n i = 3
        · rw [if_pos k3] at e ⊢
          dsimp only at e ⊢
          by_cases c : Q.2.1 = true
          · rw [if_pos c] at e; cases e
          · rw [if_neg c] at e
            obtain ⟨i1, q1, q2, q3, q4, q5⟩ := nuA_inl e
            cases q1
            obtain ⟨y, y1, y2, y3⟩ := v_of (by decide) q4 q5 (by decide)
            exact ⟨setQ 11 _ (Or.inl rfl) (fun _ => ⟨y, y2, y3⟩) (fun u => by cases u), by omega⟩
        · rw [if_neg k3] at e ⊢
          by_cases k4 : kd B n i = 4
          · rw [if_pos k4] at e ⊢
            dsimp only at e ⊢
            by_cases c : Q.2.2 = true
            · rw [if_pos c] at e; cases e
            · rw [if_neg c] at e
              obtain ⟨i1, q1, q2, q3, q4, q5⟩ := nuA_inl e
              cases q1
              obtain ⟨y, y1, y2, y3⟩ := v_of (by decide) q4 q5 (by decide)
              exact ⟨setQ 12 _ (Or.inr rfl) (fun u => by cases u) (fun _ => ⟨y, y2, y3⟩), by omega⟩
          · rw [if_neg k4] at e ⊢
            by_cases k5 : kd B n i = 5
            · rw [if_pos k5] at e ⊢
              unfold laA at e ⊢
              by_cases c1 : kd B n (i + 1) < 6 ∨ 8 < kd B n (i + 1)
              · rw [if_pos c1] at e; cases e
              · rw [if_neg c1] at e ⊢
                by_cases c2 : ¬ Q.1.2.2 (kd B n (i + 1) - 6) = []
                · rw [if_pos c2] at e; cases e
                · rw [if_neg c2] at e ⊢
                  obtain ⟨ck, ck1, ck2⟩ := hk
                  rw [ck2, n_cl (n := ck) (by omega)] at e ⊢
                  cases ex : exA B n (i + 2) ck with
                  | inl x => rw [ex] at e; cases e
                  | inr r =>
                    obtain ⟨j', cs, cn⟩ := r
                    rw [ex] at e
                    have e : Sum.inl j' = Sum.inl j := e
                    cases e
                    have xo := xrun_ok (XI_0 (i := i + 2) ck1) ex
                    dsimp only at xo ⊢
                    have F : ∀ a x, ¬ a = 13 → (setL Q.1 (kd B n (i + 1) - 6) cs cn).2.1 a x = Q.1.2.1 a x := fun a x u => if_neg (fun z => u z.1)
                    refine ⟨⟨⟨h6, h4, h10⟩, ⟨fun r hr => ?_, fun x hx k hk6 => ?_, fun x hx => ?_⟩, fun r hr => ?_, fun r hr => ?_, ?_, ?_, ⟨cn, xo.1, setL_13⟩⟩, by omega⟩
                    · rw [F 8 r (by omega)]; exact w1 r hr
                    · rw [F 3 _ (by omega)]; exact w2 x hx k hk6
                    · rw [F 5 x (by omega)]; exact w3 x hx
                    · rw [F 10 r (by omega)]; exact hd r hr
                    · obtain ⟨x, u1, u2⟩ := hs r hr
                      exact ⟨x, u1, by show (setL Q.1 (kd B n (i + 1) - 6) cs cn).2.1 9 r = nI x; rw [F 9 r (by omega)]; exact u2⟩
                    · rw [F 11 0 (by omega)]; exact hl
                    · rw [F 12 0 (by omega)]; exact hsd
            · rw [if_neg k5] at e; cases e
theorem lnA_QW {B : Nat → Nat} {n i j : Nat} {Q : aQ} (h : QW Q.1) (e : (lnA B n Q i).1 = .inl j) : QW (lnA B n Q i).2.1 ∧ i < j := by
  obtain ⟨i1, e1, e2, -⟩ := tkA_inl e
  obtain ⟨g1, g2⟩ := bodA_QW h e1
  exact ⟨g1, by omega⟩
theorem QW_0 : QW T00 := ⟨⟨Nat.zero_le _, Nat.zero_le _, Nat.zero_le _⟩, ⟨fun r hr => absurd hr (Nat.not_lt_zero _), fun r hr => absurd hr (Nat.not_lt_zero _), fun r hr => absurd hr (Nat.not_lt_zero _)⟩, fun r hr => absurd hr (Nat.not_lt_zero _), fun r hr => absurd hr (Nat.not_lt_zero _), ⟨3, by decide, rfl⟩, ⟨0, by decide, rfl⟩, ⟨0, by decide, rfl⟩⟩
theorem lrun_s (B : Nat → Nat) (n f i k : Nat) (Q : aQ) : lrun B n (f + 1) i Q k = if kd B n i = 34 then .inr (Q, k) else match lnA B n Q i with
    | (.inr e, _) => .inl e
    | (.inl j, Q') => lrun B n f j Q' (k + 1) := rfl
theorem lrun_QW {B : Nat → Nat} {n : Nat} : ∀ {f i k k' : Nat} {Q Q' : aQ}, QW Q.1 → lrun B n f i Q k = .inr (Q', k') → QW Q'.1 ∧ k' ≤ k + f := by
  intro f
  induction f with
  | zero => intro i k k' Q Q' _ h; cases h
  | succ f ih =>
    intro i k k' Q Q' hQ h
    rw [lrun_s] at h
    by_cases c : kd B n i = 34
    · rw [if_pos c] at h; cases h; exact ⟨hQ, by omega⟩
    · rw [if_neg c] at h
      cases e : lnA B n Q i with
      | mk st Q1 =>
        rw [e] at h
        cases st with
        | inr x => cases h
        | inl j =>
          have := lnA_QW (B := B) (n := n) (i := i) (j := j) hQ (by rw [e])
          rw [e] at this
          obtain ⟨a, b⟩ := ih this.1 h
          exact ⟨a, by omega⟩
