theorem RT.frb {M M' : zI} {T : aT} (h : RT M T) (e12 : ∀ c, 12 ≤ c → c ≤ 15 → M' 12 0 c = M 12 0 c) (e : ∀ a c, 54 ≤ a → a ≤ 71 → c < Zc a → M' a 0 c = M a 0 c) : RT M' T := by
  unfold RT at h ⊢
  obtain ⟨h1, h2, h3, h4, h5, h6, h7⟩ := h
  refine ⟨?_, h2, fun x hx => ?_, fun x hx => ?_, fun x hx => ?_, ?_, fun w hw => ?_⟩
  · rw [e12 12 (by decide) (by decide), e12 13 (by decide) (by decide), e12 14 (by decide) (by decide)]; exact h1
  · obtain ⟨u1, u2, u3, u4⟩ := h3 x hx
    have x6 : x < 6 := by omega
    rw [e 55 x (by decide) (by decide) x6, e 56 x (by decide) (by decide) x6, e 57 x (by decide) (by decide) x6]
    refine ⟨u1, u2, u3, fun k hk => ?_⟩
    rw [e 58 _ (by decide) (by decide) (show 6 * x + k < 36 by omega)]; exact u4 k hk
  · have x4 : x < 4 := by omega
    rw [e 59 x (by decide) (by decide) x4, e 60 x (by decide) (by decide) x4, e 61 x (by decide) (by decide) x4, e 62 x (by decide) (by decide) x4]; exact h4 x hx
  · have x10 : x < 10 := by omega
    rw [e 63 x (by decide) (by decide) x10, e 64 x (by decide) (by decide) x10, e 65 x (by decide) (by decide) x10]; exact h5 x hx
  · rw [e 54 0 (by decide) (by decide) (by decide), e 54 1 (by decide) (by decide) (by decide), e12 15 (by decide) (by decide)]; exact h6
  · have h8 := h7 w hw
    unfold RLw at h8 ⊢
    rw [e 66 w (by decide) (by decide) hw, e 67 w (by decide) (by decide) hw, e 68 w (by decide) (by decide) hw]
    rcases h8 with h8 | ⟨g1, a, g2, g3, g4, g5⟩
    · exact Or.inl h8
    · refine Or.inr ⟨g1, a, g2, g3, g4, RK_frb _ _ _ (fun b c u v => ?_) g5⟩
      rcases u with rfl | rfl | rfl
      · exact e 69 c (by decide) (by decide) (show c < 64 by omega)
      · exact e 70 c (by decide) (by decide) (show c < 64 by omega)
      · exact e 71 c (by decide) (by decide) (show c < 64 by omega)
theorem RS.frb {M M' : zI} {T : aT} {S : aS} (h6 : T.1 0 ≤ 6) (w4 : T.1 1 ≤ 4) (h : RS M 0 T S) (e12 : ∀ c, 64 ≤ c → c ≤ 67 → M' 12 0 c = M 12 0 c) (e7 : ∀ a c, 76 ≤ a → a ≤ 86 → M' a 0 c = M a 0 c) (e57 : ∀ c, c < 6 → M' 57 0 c = M 57 0 c) (e61 : ∀ c, c < 4 → M' 61 0 c = M 61 0 c) (e54 : M' 54 0 0 = M 54 0 0) : RS M' 0 T S := by
  obtain ⟨s1, s2, s3, s4, s5, s6⟩ := h
  unfold RS
  refine ⟨fun x hx => ?_, fun x hx => ?_, fun x hx => ?_, ?_, ?_, ?_⟩
  · have q := s1 x hx
    unfold coldR agedR at q ⊢
    rw [e12 64 (by decide) (by decide), e12 66 (by decide) (by decide), e12 67 (by decide) (by decide), e7 76 _ (by decide) (by decide), e7 77 _ (by decide) (by decide), e57 x (by omega)]
    exact q
  · have q := s2 x hx
    unfold hardR at q ⊢
    rw [e12 64 (by decide) (by decide), e7 78 _ (by decide) (by decide), e61 x (by omega)]
    exact q
  · obtain ⟨q1, q2, q3, q4, q5, q6, q7⟩ := s3 x hx
    rw [e7 79 _ (by decide) (by decide), e7 80 _ (by decide) (by decide), e7 81 _ (by decide) (by decide), e7 82 _ (by decide) (by decide), e7 83 _ (by decide) (by decide), e7 84 _ (by decide) (by decide)]
    refine ⟨q1, q2, q3, q4, q5, q6, fun k hk => ?_⟩
    rw [e7 85 _ (by decide) (by decide)]; exact q7 k hk
  · rw [e7 86 _ (by decide) (by decide)]; exact s4
  · unfold likeR at s5 ⊢
    rw [e12 64 (by decide) (by decide), e54]; exact s5
  · rw [e12 64 (by decide) (by decide), e12 65 (by decide) (by decide)]; exact s6
def tK (a c : Nat) : Prop := rrK a c ∨ (a = 12 ∧ (c = 1 ∨ c = 6))
theorem Zc_t {a c : Nat} (h1 : 54 ≤ a) (h2 : a ≤ 71) (h : c < Zc a) : ¬ tK a c := by
  unfold tK rrK
  unfold Zc at h
  by_cases c0 : a = 54
  · rw [if_pos c0] at h; omega
  rw [if_neg c0] at h
  by_cases c1 : a ≤ 57
  · rw [if_pos c1] at h; omega
  rw [if_neg c1] at h
  by_cases c2 : a = 58
  · rw [if_pos c2] at h; omega
  rw [if_neg c2] at h
  by_cases c3 : a ≤ 62
  · rw [if_pos c3] at h; omega
  rw [if_neg c3] at h
  by_cases c4 : a ≤ 65
  · rw [if_pos c4] at h; omega
  rw [if_neg c4] at h
  by_cases c5 : a ≤ 68
  · rw [if_pos c5] at h; omega
  rw [if_neg c5] at h
  omega
theorem RR.fal {A : aA} {I I' : zI} {L : zJ} {x y : Int32} (h : RR A I L) (e : ony tK I I') (ht : I' 12 0 1 = 0) (hf : I' 12 0 4 = x) (hf2 : I' 12 0 5 = y) : RR (falA A x y) I' L := by
  obtain ⟨h1, h2, h3, h4, h5, h6, h7, h8, h9, h10, h11⟩ := h
  have lo : ∀ a c, ¬ tK a c → I' a 0 c = I a 0 c := fun a c q => e.lo q
  refine ⟨RT.frb h1 (fun c u1 u2 => lo _ _ (by unfold tK rrK; omega)) (fun a c u1 u2 u3 => lo _ _ (Zc_t u1 u2 u3)), RS.frb h1.h6 h1.w4 h2 (fun c u1 u2 => lo _ _ (by unfold tK rrK; omega)) (fun a c u1 u2 => lo _ _ (by unfold tK rrK; omega)) (fun c u => lo _ _ (by unfold tK rrK; omega)) (fun c u => lo _ _ (by unfold tK rrK; omega)) (lo _ _ (by unfold tK rrK; omega)), h3.e (fun c u1 u2 => lo _ _ (by unfold tK rrK; omega)), fun c hc => by rw [lo 83 _ (by unfold tK rrK; omega)]; exact h4 c hc, h5, h6.e (lo _ _ (by unfold tK rrK; omega)) (fun a c q => lo _ _ (by unfold tK rrK; omega)) rfl, ⟨(lo _ _ (by unfold tK rrK; omega)).trans h7.1, fun i hi => (h7.2 i hi).q (fun c => lo _ _ (by unfold tK rrK; omega))⟩, h8.e (lo _ _ (by unfold tK rrK; omega)) (lo _ _ (by unfold tK rrK; omega)) (fun c => lo _ _ (by unfold tK rrK; omega)), ⟨ht, fun i hi => absurd hi (Nat.not_lt_zero _)⟩, ⟨hf, hf2⟩, fun i hi => (lo _ _ (by unfold tK rrK; omega)).trans (h11 i hi)⟩
theorem RR.new {Q : aQ} {I J I1 I2 I3 : zI} {L : zJ} (hQ : RQ I Q) (hW : QW Q.1) (j : ∀ a b c, ¬ (a = 12 ∧ b = 0 ∧ (12 ≤ c ∧ c ≤ 15)) → J a b c = I a b c) (j1 : J 12 0 12 = I 12 0 16) (j2 : J 12 0 13 = I 12 0 17) (j3 : J 12 0 14 = I 12 0 18) (j4 : J 12 0 15 = I 12 0 19) (kp : KP 72 J I1) (f2 : ony (afK 0) I1 I2) (r2 : afR 0 I1 I2) (f3 : ∀ a b c, ¬ (a = 12 ∧ b = 0 ∧ 63 ≤ c ∧ c ≤ 75) → I3 a b c = I2 a b c) (hp : pln I3) (h69 : I3 12 0 69 = 0) (h70 : I3 12 0 70 = -1) (h73 : I3 12 0 73 = 0) (h75 : I3 12 0 75 = 0) (hL : L 12 0 61 = (I1 54 0 1).toInt64) (ht : I 12 0 1 = 0) (hf : I 12 0 4 = 0) (hf2 : I 12 0 5 = -1) (hw : ∀ i, i < 90 → I 52 0 i = wrdR.getD i 0) : RR (newA Q.1) I3 L := by
  obtain ⟨⟨q1, q2, q3⟩, ⟨b6, b4, b10⟩, qh, qw, qr, qo, ql, qf⟩ := hQ
  obtain ⟨-, -, -, -, -, ⟨s, s9, es⟩, cn, c64, ec⟩ := hW
  have v1 : ∀ a i, 54 ≤ a → a ≤ 71 → i < Zc a → I1 a 0 i = I a 0 (Zc a + i) := fun a i u1 u2 u3 => by
    rw [kp.2 a i u1 (by omega) u3]; exact j _ _ _ (by omega)
  have v : ∀ a i, 54 ≤ a → a ≤ 71 → i < Zc a → I3 a 0 i = I a 0 (Zc a + i) := fun a i u1 u2 u3 => by
    rw [f3 _ _ _ (by omega), f2.lo (fun z => by unfold afK at z; omega)]; exact v1 a i u1 u2 u3
  have l12 : ∀ c, c < 63 → I3 12 0 c = J 12 0 c := fun c hc => by
    rw [f3 _ _ _ (by omega), f2.lo (fun z => by unfold afK at z; omega)]; exact kp.1 _ _ _ (by omega)
  have up : ∀ a c, 76 ≤ a → I3 a 0 c = I2 a 0 c := fun a c u => f3 _ _ _ (by omega)
  obtain ⟨p1, p2, p3, p4, p5⟩ := hp
  obtain ⟨a1, a2, a3, a4, a5⟩ := r2
  refine ⟨⟨⟨?_, ?_, ?_⟩, ⟨b6, b4, b10⟩, fun x hx => ?_, fun x hx => ?_, fun x hx => ?_, ⟨?_, ?_, ?_⟩, fun w hw => ?_⟩, ⟨fun x hx => ?_, fun x hx => ?_, fun x hx => ?_, ?_, ?_, ?_⟩, ⟨p1, p2, p3, p4, p5⟩, fun c hc => ?_, ⟨?_, ?_⟩, h75, ⟨h73, fun i hi => absurd hi (Nat.not_lt_zero _)⟩, ⟨h69, h70, fun i hi => absurd hi (Nat.not_lt_zero _)⟩, ⟨?_, fun i hi => absurd hi (Nat.not_lt_zero _)⟩, ⟨?_, ?_⟩, fun i hi => ?_⟩
  · exact (l12 _ (by decide)).trans (j1.trans q1)
  · exact (l12 _ (by decide)).trans (j2.trans q2)
  · exact (l12 _ (by decide)).trans (j3.trans q3)
  · have hx : x < Q.1.1 0 := hx
    have x6 : x < 6 := by omega
    obtain ⟨u1, u2, u3, u4⟩ := qh x hx
    exact ⟨(v 55 x (by decide) (by decide) x6).trans u1, (v 56 x (by decide) (by decide) x6).trans u2, (v 57 x (by decide) (by decide) x6).trans u3, fun k hk => (v 58 _ (by decide) (by decide) (show 6 * x + k < 36 by omega)).trans (u4 k hk)⟩
  · have hx : x < Q.1.1 1 := hx
    have x4 : x < 4 := by omega
    obtain ⟨u1, u2, u3, u4⟩ := qw x hx
    exact ⟨(v 59 x (by decide) (by decide) x4).trans u1, (v 60 x (by decide) (by decide) x4).trans u2, (v 61 x (by decide) (by decide) x4).trans u3, (v 62 x (by decide) (by decide) x4).trans u4⟩
  · have hx : x < Q.1.1 2 := hx
    have x10 : x < 10 := by omega
    obtain ⟨u1, u2, u3⟩ := qr x hx
    exact ⟨(v 63 x (by decide) (by decide) x10).trans u1, (v 64 x (by decide) (by decide) x10).trans u2, (v 65 x (by decide) (by decide) x10).trans u3⟩
  · exact (v 54 0 (by decide) (by decide) (by decide)).trans qo.1
  · exact (v 54 1 (by decide) (by decide) (by decide)).trans qo.2.1
  · exact (l12 _ (by decide)).trans (j4.trans qo.2.2.1)
  · have lq := ql w hw
    rw [ec, n_cl (n := cn) (by omega)] at lq
    rcases lq with ⟨u1, u2⟩ | ⟨u1, a, u2, u3, u4, u5⟩
    · exact Or.inl ⟨u1, (v 66 w (by decide) (by decide) hw).trans u2⟩
    · refine Or.inr ⟨(v 66 w (by decide) (by decide) hw).trans u1, a, (v 67 w (by decide) (by decide) hw).trans u2, (v 68 w (by decide) (by decide) hw).trans u3, by show a + (Q.1.2.2 w).length ≤ 64; omega, RK_frb (I := vk I) (I' := I3) _ _ _ (fun b c z y => ?_) u5⟩
      have y : c < a + (Q.1.2.2 w).length := y
      rcases z with rfl | rfl | rfl
      · exact v 69 c (by decide) (by decide) (show c < 64 by omega)
      · exact v 70 c (by decide) (by decide) (show c < 64 by omega)
      · exact v 71 c (by decide) (by decide) (show c < 64 by omega)
  · have hx : x < Q.1.1 0 := hx
    have x6 : x < 6 := by omega
    obtain ⟨u1, u2, u3, u4⟩ := qh x hx
    refine ⟨?_, ?_, ?_⟩
    · unfold coldR
      rw [p2, p4, if_neg (by decide), if_neg (fun z => by have : ∀ x, x < 6 → ¬ nI x = -1 := by decide
                                                          exact this x x6 z), up _ _ (by decide), (a1 x x6).1, v1 56 x (by decide) (by decide) x6]
      exact u2
    · rw [up _ _ (by decide), (a1 x x6).2]; rfl
    · unfold agedR
      rw [p2, if_neg (by decide), v 57 x (by decide) (by decide) x6]
      exact u3
  · have hx : x < Q.1.1 1 := hx
    have x4 : x < 4 := by omega
    obtain ⟨u1, u2, u3, u4⟩ := qw x hx
    refine ⟨?_, ?_⟩
    · unfold hardR
      rw [p2, if_neg (by decide), v 61 x (by decide) (by decide) x4]
      exact u3
    · rw [up _ _ (by decide), a2 x x4, v1 62 x (by decide) (by decide) x4]
      exact u4
  · have hx : x < Q.1.1 2 := hx
    have x10 : x < 10 := by omega
    obtain ⟨u1, u2, u3⟩ := qr x hx
    obtain ⟨w1, w2, w3, w4, w5, w6⟩ := a3 x x10
    refine ⟨?_, ?_, ?_, ?_, ?_, fun z => absurd rfl z, fun k hk => ?_⟩
    · rw [up _ _ (by decide), w1, v1 64 x (by decide) (by decide) x10]; exact u2
    · rw [up _ _ (by decide), w2, v1 65 x (by decide) (by decide) x10]; exact u3
    · rw [up _ _ (by decide), w3]; rfl
    · rw [up _ _ (by decide), w4]; rfl
    · rw [up _ _ (by decide), w5]; rfl
    · rw [up _ _ (by decide), show 60 * 0 + 6 * x + k = 60 * 0 + (6 * x + k) by omega, a4 (6 * x + k) (by omega)]; rfl
  · rw [up _ _ (by decide), a5]; rfl
  · unfold likeR
    rw [p2, if_neg (by decide), v 54 0 (by decide) (by decide) (by decide)]
    exact qo.1
  · rw [p2, if_neg (by decide)]; rfl
  · have hc : c < Q.1.1 2 := hc
    obtain ⟨w1, w2, w3, w4, w5, w6⟩ := a3 c (by omega)
    have w5 : I2 83 0 c = 0 := by rw [← w5]; congr 1; omega
    rw [up _ _ (by decide), w5]; exact Or.inl rfl
  · show 0 ≤ Q.1.2.1 12 0
    rw [es]; show nI 0 ≤ nI s; rw [n_le (by omega) (by omega)]; omega
  · rw [hL, v1 54 1 (by decide) (by decide) (by decide)]
    show (I 54 0 3).toInt64 = (Q.1.2.1 12 0).toInt64
    rw [qo.2.1]
  · rw [l12 _ (by decide), j _ _ _ (by decide)]; exact ht
  · rw [l12 _ (by decide), j _ _ _ (by decide)]; exact hf
  · rw [l12 _ (by decide), j _ _ _ (by decide)]; exact hf2
  · rw [f3 _ _ _ (by omega), f2.lo (fun z => by unfold afK at z; omega), kp.1 _ _ _ (by omega), j _ _ _ (by omega)]; exact hw i hi
