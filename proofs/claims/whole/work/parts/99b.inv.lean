theorem WW.updO {A : aA} {O' : aH} {l' : Int32} (h : WW A) (ho : WO (updO A O' l')) : WW (updO A O' l') := ⟨h.1, h.2.1, h.2.2.1, h.2.2.2.1, h.2.2.2.2.1, h.2.2.2.2.2.1, ho, h.2.2.2.2.2.2.2⟩
theorem WO.push {A : aA} {v : Nat ⊕ (Nat × Nat × Bool)} (h : WO A) (h24 : A.O.1 < 24) (hv : match v with
    | .inl j => j < A.O.1
    | .inr (r, k, _) => r < A.T.1 2 ∧ k < 6) : WO (updO A (pushO A.O v) A.lm) := by
  obtain ⟨h1, h2, h3⟩ := h
  refine ⟨by show A.O.1 + 1 ≤ 24; omega, ?_, fun i hi => ?_⟩
  · rcases h2 with h2 | ⟨m, m1, m2⟩
    · exact Or.inl h2
    · exact Or.inr ⟨m, by show m ≤ A.O.1 + 1; omega, m2⟩
  · have hi : i < A.O.1 + 1 := hi
    by_cases e : i = A.O.1
    · have : (updO A (pushO A.O v) A.lm).O.2 i = v := if_pos e
      rw [this, e]
      exact hv
    · have : (updO A (pushO A.O v) A.lm).O.2 i = A.O.2 i := if_neg e
      rw [this]
      exact h3 i (by omega)
theorem W_hear {A : aA} {r k x : Int32} (h : WW A) : WW (s_hear A r k x).1 := by
  unfold s_hear
  by_cases c : okH A r k
  · rw [if_pos c]
    obtain ⟨c1, c2, c3⟩ := c
    have r10 := h.1.2.2
    obtain ⟨r', er, hr⟩ := n_of (x := r) (n := A.T.1 2) (by omega) c1.1 c1.2
    obtain ⟨k', ek, hk⟩ := n_of (x := k) (n := 6) (by omega) c2.1 (Int32.lt_of_le_of_lt c2.2 (by decide))
    refine h.updO (h.2.2.2.2.2.2.1.push c3 ?_)
    subst er ek
    dsimp only
    rw [n_cl (by omega), n_cl (by omega)]
    exact ⟨hr, hk⟩
  · rw [if_neg c]; exact h
theorem W_strike {A : aA} {x : Int32} (h : WW A) : WW (s_strike A x).1 := by
  unfold s_strike
  by_cases c : okJ A x
  · rw [if_pos c]
    obtain ⟨c1, c3⟩ := c
    obtain ⟨r', er, hr⟩ := n_of (x := x) (n := A.O.1) (by omega) c1.1 c1.2
    refine h.updO (h.2.2.2.2.2.2.1.push c3 ?_)
    subst er
    dsimp only
    rw [n_cl (by omega)]
    exact hr
  · rw [if_neg c]; exact h
theorem W_known {A : aA} {x : Int32} (h : WW A) : WW (s_known A x).1 := by
  unfold s_known
  by_cases c : okI x (-1) (nI A.O.1)
  · rw [if_pos c]
    obtain ⟨h1, h2, h3⟩ := h.2.2.2.2.2.2.1
    refine h.updO ⟨h1, ?_, h3⟩
    by_cases z : x = -1
    · exact Or.inl z
    · right
      have x0 : 0 ≤ x := by
        have a := Int32.le_iff_toInt_le.mp c.1
        rw [Int32.le_iff_toInt_le]
        have b : ¬ x.toInt = (-1 : Int32).toInt := fun e => z (Int32.toInt_inj.mp e)
        rw [show (-1 : Int32).toInt = -1 from rfl] at a b
        rw [show (0 : Int32).toInt = 0 from rfl]
        omega
      obtain ⟨m, e, hm⟩ := n_ofle (x := x) (n := A.O.1) (by omega) x0 c.2
      exact ⟨m, hm, e⟩
  · rw [if_neg c]; exact h
theorem and255 (y : Int32) : ∃ b, b < 256 ∧ y &&& 255 = nI b := by
  refine ⟨(y.toBitVec &&& 255#32).toNat, ?_, ?_⟩
  · rw [BitVec.toNat_and]
    have := Nat.and_le_right (n := y.toBitVec.toNat) (m := (255#32).toNat)
    have e : (255#32).toNat = 255 := rfl
    omega
  · apply Int32.toBitVec_inj.mp
    show y.toBitVec &&& 255#32 = (nI (y.toBitVec &&& 255#32).toNat).toBitVec
    show _ = (Int32.ofNat (y.toBitVec &&& 255#32).toNat).toBitVec
    rw [Int32.toBitVec_ofNat']
    exact (BitVec.ofNat_toNat ..).symm ▸ by simp
theorem W_feed {A : aA} {a b c d e : Int32} (h : WW A) : WW (s_feed A a b c d e).1 := by
  unfold s_feed
  by_cases q : A.tp.1 + 20 ≤ 700
  · rw [if_pos q]
    refine ⟨h.1, h.2.1, h.2.2.1, h.2.2.2.1, h.2.2.2.2.1, h.2.2.2.2.2.1, h.2.2.2.2.2.2.1, ⟨q, fun i hi => ?_⟩⟩
    show ∃ x, x < 256 ∧ (if i < A.tp.1 then A.tp.2 i else byt (fdW a b c d e (i - A.tp.1)) ((i - A.tp.1) % 4)) = nI x
    by_cases z : i < A.tp.1
    · rw [if_pos z]; exact h.2.2.2.2.2.2.2.2 i z
    · rw [if_neg z]; exact and255 _
  · rw [if_neg q]; exact h
theorem W_new {T : aT} (h : QW T) : WW (newA T) := by
  obtain ⟨hb, hT, hd, hS, ⟨l, l24, el⟩, ⟨s, s9, es⟩, -⟩ := h
  have wl : WL (sc0 T) := by
    show 0 ≤ T.2.1 11 0 ∧ T.2.1 11 0 ≤ 30
    rw [el]
    refine ⟨?_, ?_⟩
    · show nI 0 ≤ nI l; rw [n_le (by omega) (by omega)]; omega
    · show nI l ≤ nI 30; rw [n_le (by omega) (by omega)]; omega
  refine ⟨hb, hT, ⟨hd, hS, wl⟩, ⟨hS, fun r hr => ⟨Or.inl rfl, Or.inl rfl⟩, fun r hr _ => rfl, wl, ⟨fun x hx => rfl, fun x hx => rfl, rfl, rfl⟩, ?_⟩, fun S e => (by cases e), ⟨Nat.zero_le _, fun i hi => absurd hi (Nat.not_lt_zero _)⟩, ⟨Nat.zero_le _, Or.inl rfl, fun i hi => absurd hi (Nat.not_lt_zero _)⟩, ⟨Nat.zero_le _, fun i hi => absurd hi (Nat.not_lt_zero _)⟩⟩
  show 0 ≤ T.2.1 12 0
  rw [es]
  show nI 0 ≤ nI s; rw [n_le (by omega) (by omega)]; omega
theorem W_text {A : aA} {x : Int32} (h : WW A) : WW (s_text A x).1 := by
  unfold s_text
  by_cases c : okTx A x
  · rw [if_pos c]
    cases e : rdA (bt A) x.toNatClampNeg with
    | inl y =>
      obtain ⟨y1, y2⟩ := y
      exact ⟨h.1, h.2.1, h.2.2.1, h.2.2.2.1, h.2.2.2.2.1, h.2.2.2.2.2.1, h.2.2.2.2.2.2.1, ⟨Nat.zero_le _, fun i hi => absurd hi (Nat.not_lt_zero _)⟩⟩
    | inr y =>
      obtain ⟨Q, k⟩ := y
      exact W_new (lrun_QW (B := bt A) (Q := (T00, false, false)) QW_0 e).1
  · rw [if_neg c]; exact h
