-- THE WHOLE STATE, as both of them hold it
abbrev aH : Type := Nat × (Nat → Nat ⊕ (Nat × Nat × Bool))
abbrev aU : Type := Nat × (Nat → aS)
/-- text, scene, image, what can be undone (oldest first), overheard, its limit, tape, fault -/
abbrev aA : Type := aT × aS × Option aS × aU × aH × Int32 × (Nat × (Nat → Int32)) × (Int32 × Int32)
abbrev aA.T (A : aA) : aT := A.1
abbrev aA.S (A : aA) : aS := A.2.1
abbrev aA.im (A : aA) : Option aS := A.2.2.1
abbrev aA.U (A : aA) : aU := A.2.2.2.1
abbrev aA.O (A : aA) : aH := A.2.2.2.2.1
abbrev aA.lm (A : aA) : Int32 := A.2.2.2.2.2.1
abbrev aA.tp (A : aA) : Nat × (Nat → Int32) := A.2.2.2.2.2.2.1
abbrev aA.ft (A : aA) : Int32 × Int32 := A.2.2.2.2.2.2.2
def beH (i k : Nat) : Int32 := nI (i / 4 ^ (2 - k) % 4 + 1)
def gapv (T : aT) (h i : Nat) : Int32 := apn (fun k => T.2.1 3 (6 * h + ((if i < 64 then 0 else 3) + k)) - beH i k) 3
def codK (c k : Nat) : Int32 := nI (c / 4 ^ (5 - k) % 4 + 1)
def lst (T : aT) (g : Nat → Int32) : Nat → Int32
  | 0 => 24
  | n + 1 => if farf T g n < lst T g n then farf T g n else lst T g n
def anw (T : aT) : Nat → Nat × Int32
  | 0 => (0, -1)
  | c + 1 => if lst T (codK c) (T.1 0) ≤ (anw T c).2 then anw T c else (c, lst T (codK c) (T.1 0))
def RCt (T : aT) (I : zI) (P : zP) (t : Nat) : Prop := CT I t T ∧ P 11 0 11 = t ∧ P 11 0 12 = 1 - t ∧ (∀ h, h < T.1 0 → ∀ i, i < 128 → I 15 (6 * t + h) i = gapv T h i) ∧ ((I 9 t 13 = -1 ∧ I 9 t 14 = -1) ∨ (I 9 t 13 = nI (anw T 4096).1 ∧ I 9 t 14 = (anw T 4096).2))
def RCi (T : aT) (im : Option aS) (I : zI) (P : zP) (t : Nat) : Prop := match im with
  | none => I 11 0 14 = 0
  | some S => I 11 0 14 = 1 ∧ P 8 1 0 = t ∧ CS I 1 T S
/-- what a call may change: equal there -/
def uE (T : aT) (S S' : aS) : Prop := (∀ h, h < T.1 0 → S 0 h = S' 0 h) ∧ (∀ w, w < T.1 1 → S 2 w = S' 2 w) ∧ ∀ r, r < T.1 2 → S 3 r = S' 3 r ∧ S 4 r = S' 4 r ∧ S 7 r = S' 7 r
def dOK (T : aT) (d : Nat → Int32) (S0 S1 : aS) : Prop :=
  (d 0 = 0 ∧ ∃ h, h < T.1 0 ∧ d 1 = nI h ∧ uE T S0 (su S1 0 h (d 2))) ∨
  (d 0 = 1 ∧ ∃ r, r < T.1 2 ∧ d 1 = nI r ∧ uE T S0 (su (su S1 3 r (d 2)) 4 r (d 3))) ∨
  (d 0 = 2 ∧ ∃ w, w < T.1 1 ∧ d 1 = nI w ∧ uE T S0 (su S1 2 w (d 2))) ∨
  (d 0 = 3 ∧ ∃ p : Nat → Bool, d 2 = nI (bsB p (T.1 2)) ∧ (∀ r, r < T.1 2 → p r = true → S1 7 r = 1) ∧ uE T S0 (fun f i => if f = 7 ∧ p i = true then 0 else S1 f i))
def nxt (U : aU) (S : aS) (i : Nat) : aS := if i + 1 < U.1 then U.2 (i + 1) else S
def RCd (T : aT) (S : aS) (U : aU) (I : zI) : Prop := I 0 0 1 = nI U.1 ∧ U.1 ≤ 20 ∧ ∀ i, i < U.1 → dOK T (fun q => I 13 0 (4 * i + q)) (U.2 i) (nxt U S i)
def RCo (T : aT) (O : aH) (lm : Int32) (I : zI) : Prop := I 3 0 5 = nI O.1 ∧ O.1 ≤ 24 ∧ I 3 0 6 = lm ∧ (lm = -1 ∨ ∃ m, m ≤ O.1 ∧ lm = nI m) ∧ ∀ i, i < O.1 → match O.2 i with
  | .inl j => j < i ∧ I 21 0 i = nI j
  | .inr (r, k, b) => r < T.1 2 ∧ k < 6 ∧ I 18 0 i = nI r ∧ I 19 0 i = nI k ∧ I 20 0 i = (if b = true then 1 else 0) ∧ I 21 0 i = -1
def RCp (tp : Nat × (Nat → Int32)) (I : zI) : Prop := I 11 0 13 = nI tp.1 ∧ tp.1 ≤ 700 ∧ ∀ i, i < tp.1 → I 47 0 i &&& 255 = tp.2 i
def wrdC : List Int32 := [269946880, 787976192, 605552640, 412455936, 642945024, 404455424, 645967008, 475056128, 202511360, 522190848, 48365568, 486146048, 116789248, 41062400, 270077952, 72404992, 549489824, 605572096, 136085504]
def RCw (I : zI) : Prop := ∀ i, i < 19 → I 27 0 i = wrdC.getD i 0
def RC (A : aA) (I : zI) (P : zP) : Prop := ∃ t, RCt A.T I P t ∧ P 8 0 0 = t ∧ CS I 0 A.T A.S ∧ RCi A.T A.im I P t ∧ RCd A.T A.S A.U I ∧ RCo A.T A.O A.lm I ∧ RCp A.tp I ∧ (I 5 0 8 = A.ft.1 ∧ I 5 0 9 = A.ft.2) ∧ RCw I
/-- cells of the class that nobody asks for behind a call -/
def scrC (a b : Nat) : Bool := ((a == 8 || (Nat.ble 31 a && Nat.ble a 40)) && b == 2) || (a == 41 || (a == 48 || (a == 49 || (a == 50 || (a == 22 || (a == 25 || (a == 26 || a == 6)))))))
def frQ (I I' : zI) : Prop := ∀ a b c, scrC a b = false → I' a b c = I a b c
def frP (P P' : zP) : Prop := ∀ x y z, ¬ x = 6 → ¬ (x = 8 ∧ y = 2) → P' x y z = P x y z
theorem frQ.rf {I : zI} : frQ I I := fun _ _ _ _ => rfl
theorem frP.rf {P : zP} : frP P P := fun _ _ _ _ _ => rfl
theorem frQ.tr {I I1 I2 : zI} (h : frQ I I1) (h2 : frQ I1 I2) : frQ I I2 := fun a b c q => (h2 a b c q).trans (h a b c q)
theorem frP.tr {P P1 P2 : zP} (h : frP P P1) (h2 : frP P1 P2) : frP P P2 := fun a b c q q2 => (h2 a b c q q2).trans (h a b c q q2)
theorem frQ_set {I I' : zI} {L : zJ} {P : zP} {k i s : Nat} {v : Int32} (h : frQ I I') (hk : scrC k i = true) : frQ I (zsI (I', L, P) k i s v).1 := fun a b c q => by
  show (if a = k ∧ b = i ∧ c = s then v else I' a b c) = _
  rw [if_neg (fun e => by rw [e.1, e.2.1, hk] at q; cases q)]
  exact h a b c q
theorem scrC_ct {a b : Nat} (h : ctK a = true) : scrC a b = false := by
  unfold ctK at h
  simp only [Bool.or_eq_true, beq_iff_eq] at h
  rcases h with rfl | rfl | rfl | rfl | rfl | rfl | rfl <;> simp [scrC] <;> rfl
theorem scrC_cs {a b c : Nat} (h : csK a c = true) (hb : ¬ b = 2) : scrC a b = false := by
  unfold csK at h
  simp only [Bool.or_eq_true, Bool.and_eq_true, Nat.ble_eq, beq_iff_eq] at h
  unfold scrC
  have e : (b == 2) = false := by simp [hb]
  rw [e, Bool.and_false, Bool.false_or]
  simp only [Bool.or_eq_false_iff, beq_eq_false_iff_ne]
  omega
theorem frQ.CT {I I' : zI} {t : Nat} {T : aT} (h : frQ I I') (hT : CT I t T) : CT I' t T := hT.fr (fun a b c q => h a b c (scrC_ct q))
theorem frQ.CS {I I' : zI} {j : Nat} {T : aT} {S : aS} (h : frQ I I') (hj : ¬ j = 2) (hS : CS I j T S) : CS I' j T S := hS.fr (fun a c q => h a j c (scrC_cs q hj))
theorem frS_Q {I I' : zI} (h : frS 2 I I') : frQ I I' := fun a b c q => h a b c (fun e => by
    have e1 := e.1
    simp only [Bool.and_eq_true, Nat.ble_eq] at e1
    have e2 := e.2
    subst e2
    unfold scrC at q
    simp only [Bool.or_eq_false_iff, Bool.and_eq_false_iff, beq_eq_false_iff_ne] at q
    have := q.2.1
    have : ¬ (Nat.ble 31 a = true ∧ Nat.ble a 40 = true) := by
      rcases q.1 with q1 | q1
      · intro z
        rcases q1.2 with q2 | q2
        · rw [q2] at z; cases z.1
        · rw [q2] at z; cases z.2
      · exact absurd rfl q1
    simp only [Nat.ble_eq] at this
    omega) (fun e => by
    rw [e.1, e.2] at q
    exact absurd q (by decide))
theorem RCt.q {T : aT} {I I' : zI} {P P' : zP} {t : Nat} (h : RCt T I P t) (hI : frQ I I') (hP : frP P P') : RCt T I' P' t := by
  obtain ⟨h1, h2, h3, h4, h5⟩ := h
  have p9 : ∀ c, I' 9 t c = I 9 t c := fun c => hI 9 t c rfl
  refine ⟨hI.CT h1, (hP 11 0 _ (by decide) (by simp)).trans h2, (hP 11 0 _ (by decide) (by simp)).trans h3, fun x hx i hi => (hI 15 _ i rfl).trans (h4 x hx i hi), ?_⟩
  rw [p9, p9]; exact h5
theorem RC.q {A : aA} {I I' : zI} {P P' : zP} (h : RC A I P) (hI : frQ I I') (hP : frP P P') : RC A I' P' := by
  obtain ⟨t, h1, h2, h3, h4, h5, h6, h7, h8, h9⟩ := h
  refine ⟨t, h1.q hI hP, (hP 8 0 0 (by decide) (by simp)).trans h2, hI.CS (by decide) h3, ?_, ?_, ?_, ?_, ?_, ?_⟩
  · revert h4
    unfold RCi
    have e : I' 11 0 14 = I 11 0 14 := hI 11 0 _ rfl
    cases A.im with
    | none => intro h4; exact e.trans h4
    | some S => intro h4; exact ⟨e.trans h4.1, (hP 8 1 0 (by decide) (by simp)).trans h4.2.1, hI.CS (by decide) h4.2.2⟩
  · obtain ⟨g1, g2, g3⟩ := h5
    refine ⟨(hI 0 0 _ rfl).trans g1, g2, fun i hi => ?_⟩
    have e : (fun q => I' 13 0 (4 * i + q)) = fun q => I 13 0 (4 * i + q) := by funext q; exact hI 13 0 _ rfl
    rw [e]; exact g3 i hi
  · obtain ⟨g1, g2, g3, g4, g5⟩ := h6
    refine ⟨(hI 3 0 _ rfl).trans g1, g2, (hI 3 0 _ rfl).trans g3, g4, fun i hi => ?_⟩
    have := g5 i hi
    rw [hI 18 0 i rfl, hI 19 0 i rfl, hI 20 0 i rfl, hI 21 0 i rfl]
    exact this
  · exact ⟨(hI 11 0 _ rfl).trans h7.1, h7.2.1, fun i hi => by rw [hI 47 0 i rfl]; exact h7.2.2 i hi⟩
  · exact ⟨(hI 5 0 _ rfl).trans h8.1, (hI 5 0 _ rfl).trans h8.2⟩
  · exact fun i hi => (hI 27 0 i rfl).trans (h9 i hi)
-- the reference
def snp (T : aT) (S : aS) (I : zI) (k o : Nat) : Prop := (∀ h, h < T.1 0 → I k 0 (o + h) = S 0 h) ∧ (∀ r, r < T.1 2 → I k 0 (o + 6 + r) = S 3 r ∧ I k 0 (o + 16 + r) = S 4 r ∧ I k 0 (o + 26 + r) = S 7 r) ∧ ∀ w, w < T.1 1 → I k 0 (o + 36 + w) = S 2 w
def RRi (T : aT) (im : Option aS) (I : zI) (L : zJ) : Prop := match im with
  | none => I 12 0 75 = 0
  | some S => I 12 0 75 = 1 ∧ snp T S I 92 0 ∧ (∀ r, r < T.1 2 → I 93 0 r = S 5 r ∧ I 93 0 (10 + r) = S 6 r ∧ (¬ S 5 r = 0 → I 93 0 (20 + r) = S 4 r) ∧ ∀ k, k < 6 → I 93 0 (36 + (6 * r + k)) = S 8 (6 * r + k)) ∧ (∀ h, h < T.1 0 → I 93 0 (30 + h) = S 1 h) ∧ I 93 0 96 = S 9 0 ∧ L 12 0 78 = (S 10 0).toInt64
def RRo (O : aH) (lm : Int32) (I : zI) : Prop := I 12 0 69 = nI O.1 ∧ I 12 0 70 = lm ∧ ∀ i, i < O.1 → match O.2 i with
  | .inl j => I 89 0 (3 * i) = -1 ∧ I 89 0 (3 * i + 1) = nI j
  | .inr (r, k, b) => I 89 0 (3 * i) = nI r ∧ I 89 0 (3 * i + 1) = nI k ∧ I 89 0 (3 * i + 2) = (if b = true then 1 else 0)
def wrdR : List Int32 := [104, 97, 110, 100, 32, 119, 111, 111, 100, 32, 114, 97, 112, 32, 108, 105, 107, 101, 32, 115, 101, 101, 100, 32, 108, 97, 119, 32, 115, 104, 97, 107, 101, 32, 110, 101, 97, 114, 32, 102, 97, 100, 101, 32, 97, 110, 100, 32, 111, 114, 32, 110, 111, 116, 32, 99, 111, 108, 100, 32, 97, 103, 101, 100, 32, 104, 97, 114, 100, 32, 98, 101, 97, 116, 32, 112, 108, 97, 99, 101, 32, 114, 97, 112, 115, 32, 100, 97, 121, 32]
def RR (A : aA) (I : zI) (L : zJ) : Prop := RT I A.T ∧ RS I 0 A.T A.S ∧ pln I ∧ (∀ c, c < A.T.1 2 → zb (I 83 0 c)) ∧ (0 ≤ A.S 10 0 ∧ L 12 0 61 = (A.S 10 0).toInt64) ∧ RRi A.T A.im I L ∧ (I 12 0 73 = nI A.U.1 ∧ ∀ i, i < A.U.1 → snp A.T (A.U.2 i) I 91 (40 * i)) ∧ RRo A.O A.lm I ∧ (I 12 0 1 = nI A.tp.1 ∧ ∀ i, i < A.tp.1 → I 51 0 i = A.tp.2 i) ∧ (I 12 0 4 = A.ft.1 ∧ I 12 0 5 = A.ft.2) ∧ ∀ i, i < 90 → I 52 0 i = wrdR.getD i 0
def scrR (a c : Nat) : Prop := upH a c ∨ a = 87 ∨ a = 88 ∨ a = 90 ∨ (a = 12 ∧ (c = 2 ∨ c = 49))
def frR (I I' : zI) : Prop := ∀ a i c, ¬ (i = 0 ∧ scrR a c) → I' a i c = I a i c
theorem frR.rf {I : zI} : frR I I := fun _ _ _ _ => rfl
theorem frR.tr {I I1 I2 : zI} (h : frR I I1) (h2 : frR I1 I2) : frR I I2 := fun a b c q => (h2 a b c q).trans (h a b c q)
theorem frR_set {I I' : zI} {L : zJ} {P : zP} {k s : Nat} {v : Int32} (h : frR I I') (hu : scrR k s) : frR I (zsI (I', L, P) k 0 s v).1 := fun a i c q => by
  show (if a = k ∧ i = 0 ∧ c = s then v else I' a i c) = _
  rw [if_neg (fun e => q ⟨e.2.1, by rw [e.1, e.2.2]; exact hu⟩)]
  exact h a i c q
theorem frR_thrown {I : zI} {L : zJ} {P : zP} {v : Int32} : frR I (zsI (I, L, P) 12 0 2 v).1 := frR_set frR.rf (Or.inr (Or.inr (Or.inr (Or.inr ⟨rfl, Or.inl rfl⟩))))
theorem frE_R {I I' : zI} (h : frE I I') : frR I I' := fun a i c q => h a i c (fun e => q ⟨e.2.1, Or.inr (Or.inr (Or.inr (Or.inr ⟨e.1, Or.inr e.2.2⟩)))⟩)
theorem frU_R {I I' : zI} (h : frU I I') : frR I I' := fun a i c q => h a i c (fun e => q ⟨e.1, Or.inl e.2⟩)
theorem frB_R {I I' : zI} (h : frB 1 I I') : frR I I' := fun a i c q => h a i c (fun e => q ⟨e.1, by
    unfold scrR upH
    rcases e.2 with e | e | e | e | e <;> omega⟩) (fun e => q ⟨e.2.1, Or.inr (Or.inr (Or.inr (Or.inr ⟨e.1, Or.inr e.2.2⟩)))⟩)
theorem scrR_rt {a c : Nat} (h : rtK a c = true) : ¬ scrR a c := by
  unfold rtK at h
  simp only [Bool.or_eq_true, Bool.and_eq_true, Nat.ble_eq, beq_iff_eq] at h
  unfold scrR upH
  omega
theorem frR_RT {I I' : zI} {T : aT} (h : frR I I') (hT : RT I T) : RT I' T := hT.fr (fun a c q => h a 0 c (fun e => scrR_rt q e.2))
theorem frR_pln {I I' : zI} (h : frR I I') (hp : pln I) : pln I' := by
  have e : ∀ c, ¬ (c = 2 ∨ c = 49) → I' 12 0 c = I 12 0 c := fun c q => h 12 0 c (fun z => by rcases z.2 with z | z | z | z | z; (unfold upH at z; omega); omega; omega; omega; exact q z.2)
  obtain ⟨z1, z2, z3, z4, z5⟩ := hp
  exact ⟨(e _ (by decide)).trans z1, (e _ (by decide)).trans z2, (e _ (by decide)).trans z3, (e _ (by decide)).trans z4, (e _ (by decide)).trans z5⟩
theorem frR.lo {I I' : zI} (h : frR I I') {a c : Nat} (q : ¬ scrR a c) : I' a 0 c = I a 0 c := h a 0 c (fun e => q e.2)
theorem frR_RS {I I' : zI} {T : aT} {S : aS} (h : frR I I') (hT : RT I T) (hp : pln I) (hS : RS I 0 T S) : RS I' 0 T S := by
  have hp' := frR_pln h hp
  have h6 := hT.h6
  have w4 := hT.w4
  have r10 := hT.r10
  have lo : ∀ a c, (¬ scrR a c) → I' a 0 c = I a 0 c := fun a c q => h.lo q
  obtain ⟨a1, a2, a3, a4, a5, a6⟩ := hS
  refine ⟨fun x hx => ?_, fun x hx => ?_, fun x hx => ?_, ?_, ?_, ?_⟩
  · obtain ⟨b1, b2, b3⟩ := a1 x hx
    rw [coldR_pln hp (by omega)] at b1
    rw [agedR_pln hp] at b3
    rw [coldR_pln hp' (by omega), agedR_pln hp', lo 57 x (by unfold scrR upH; omega), lo 76 _ (by unfold scrR upH; omega), lo 77 _ (by unfold scrR upH; omega)]
    exact ⟨b1, b2, b3⟩
  · obtain ⟨b1, b2⟩ := a2 x hx
    rw [hardR_pln hp] at b1
    rw [hardR_pln hp', lo 61 x (by unfold scrR upH; omega), lo 78 _ (by unfold scrR upH; omega)]
    exact ⟨b1, b2⟩
  · obtain ⟨b1, b2, b3, b4, b5, b6, b7⟩ := a3 x hx
    rw [lo 79 _ (by unfold scrR upH; omega), lo 80 _ (by unfold scrR upH; omega), lo 81 _ (by unfold scrR upH; omega), lo 82 _ (by unfold scrR upH; omega), lo 83 _ (by unfold scrR upH; omega), lo 84 _ (by unfold scrR upH; omega)]
    refine ⟨b1, b2, b3, b4, b5, b6, fun k hk => ?_⟩
    rw [lo 85 _ (by unfold scrR upH; omega)]; exact b7 k hk
  · rw [lo 86 _ (by unfold scrR upH; omega)]; exact a4
  · rw [likeR_pln hp] at a5
    rw [likeR_pln hp', lo 54 0 (by unfold scrR upH; omega)]; exact a5
  · rw [hp.2.1, if_neg (by decide)] at a6
    rw [hp'.2.1, if_neg (by decide)]; exact a6
theorem snp.q {T : aT} {S : aS} {I I' : zI} {k o : Nat} (h : snp T S I k o) (e : ∀ c, I' k 0 c = I k 0 c) : snp T S I' k o := by
  unfold snp at h ⊢
  simp only [e]
  exact h
theorem RR.q {A : aA} {I I' : zI} {L L' : zJ} (h : RR A I L) (hI : frR I I') (hL : zeLr L L') : RR A I' L' := by
  obtain ⟨h1, h2, h3, h4, h5, h6, h7, h8, h9, h10, h11⟩ := h
  have lo : ∀ a c, (¬ scrR a c) → I' a 0 c = I a 0 c := fun a c q => hI.lo q
  have l12 : ∀ c, ¬ (c = 2 ∨ c = 49) → I' 12 0 c = I 12 0 c := fun c q => lo 12 c (by unfold scrR upH; omega)
  refine ⟨frR_RT hI h1, frR_RS hI h1 h3 h2, frR_pln hI h3, fun c hc => by have r10 := h1.r10; rw [lo 83 c (by unfold scrR upH; omega)]; exact h4 c hc, ⟨h5.1, (hL 12 0 _ (by decide) (by decide)).trans h5.2⟩, ?_, ⟨(l12 _ (by decide)).trans h7.1, fun i hi => (h7.2 i hi).q (fun c => lo 91 c (by unfold scrR upH; omega))⟩, ?_, ⟨(l12 _ (by decide)).trans h9.1, fun i hi => (lo 51 i (by unfold scrR upH; omega)).trans (h9.2 i hi)⟩, ⟨(l12 _ (by decide)).trans h10.1, (l12 _ (by decide)).trans h10.2⟩, fun i hi => (lo 52 i (by unfold scrR upH; omega)).trans (h11 i hi)⟩
  · revert h6
    unfold RRi
    have e : I' 12 0 75 = I 12 0 75 := l12 _ (by decide)
    have e93 : ∀ c, I' 93 0 c = I 93 0 c := fun c => lo 93 c (by unfold scrR upH; omega)
    cases A.im with
    | none => intro h6; exact e.trans h6
    | some S =>
      intro h6
      simp only [e, e93, hL 12 0 78 (by decide) (by decide)]
      exact ⟨h6.1, h6.2.1.q (fun c => lo 92 c (by unfold scrR upH; omega)), h6.2.2⟩
  · obtain ⟨g1, g2, g3⟩ := h8
    refine ⟨(l12 _ (by decide)).trans g1, (l12 _ (by decide)).trans g2, fun i hi => ?_⟩
    have := g3 i hi
    have e89 : ∀ c, I' 89 0 c = I 89 0 c := fun c => lo 89 c (by unfold scrR upH; omega)
    rw [e89, e89, e89]
    exact this
