def sgm (k : Nat) : Nat := if k = 9 then 10 else if k = 10 then 9 else k
def crt (w j : Nat) : Nat := if j < LNk (sgm w) then (wrdR.getD (FRk (sgm w) + j) 0).toNatClampNeg - 96 else 0
theorem sgm_lt : ∀ w, w < 19 → sgm w < 19 ∧ sgm (sgm w) = w := by decide
theorem crt_w : ∀ w, w < 19 → wrdC.getD w 0 = nI (crt w 0 * 33554432 + crt w 1 * 1048576 + crt w 2 * 32768 + crt w 3 * 1024 + crt w 4 * 32 + crt w 5) := by decide +kernel
theorem crt_b : ∀ w, w < 19 → ∀ j, j < 6 → crt w j ≤ 26 ∧ (j < LNk (sgm w) → 1 ≤ crt w j ∧ wrdR.getD (FRk (sgm w) + j) 0 = nI (crt w j + 96)) := by decide +kernel
theorem wrdC_inj : ∀ w, w < 19 → ∀ u, u < 19 → wrdC.getD w 0 = wrdC.getD u 0 → w = u := by decide +kernel
/-- bits and letters say the same -/
theorem word_iff {B : Nat → Nat} {s e w : Nat} (hw : w < 19) (he : e - s ≤ 6) (hse : s ≤ e) (hl : ∀ j, j < e - s → isL (B (s + j)) = true) : wrdC.getD w 0 = pkC B s (e - s) ↔ mtP B s e (sgm w) := by
  have l : ∀ j, j < e - s → 97 ≤ B (s + j) ∧ B (s + j) ≤ 122 := fun j hj => of_decide_eq_true (hl j hj)
  obtain ⟨s1, s2, s3, s4⟩ := FR_s (sgm w) (sgm_lt w hw).1
  have cb := crt_b w hw
  have dj : ∀ j, Dj B s (e - s) j ≤ 26 ∧ (j < e - s → 1 ≤ Dj B s (e - s) j ∧ B (s + j) = Dj B s (e - s) j + 96) ∧ (¬ j < e - s → Dj B s (e - s) j = 0) := fun j => by
    unfold Dj
    by_cases h : j < e - s
    · rw [if_pos h]; have := l j h; exact ⟨by omega, fun _ => ⟨by omega, by omega⟩, fun z => absurd h z⟩
    · rw [if_neg h]; exact ⟨by omega, fun z => absurd z h, fun _ => rfl⟩
  have c0 : ∀ j, ¬ j < LNk (sgm w) → crt w j = 0 := fun j h => if_neg h
  have b0 := (cb 0 (by omega)).1
  have b1 := (cb 1 (by omega)).1
  have b2 := (cb 2 (by omega)).1
  have b3 := (cb 3 (by omega)).1
  have b4 := (cb 4 (by omega)).1
  have b5 := (cb 5 (by omega)).1
  have d0 := (dj 0).1
  have d1 := (dj 1).1
  have d2 := (dj 2).1
  have d3 := (dj 3).1
  have d4 := (dj 4).1
  have d5 := (dj 5).1
  rw [crt_w w hw, pkC_N _ he hl, n_eq (by omega) (by unfold pkN; omega)]
  constructor
  · intro q
    unfold pkN at q
    have q0 : crt w 0 = Dj B s (e - s) 0 := by omega
    have q1 : crt w 1 = Dj B s (e - s) 1 := by omega
    have q2 : crt w 2 = Dj B s (e - s) 2 := by omega
    have q3 : crt w 3 = Dj B s (e - s) 3 := by omega
    have q4 : crt w 4 = Dj B s (e - s) 4 := by omega
    have q5 : crt w 5 = Dj B s (e - s) 5 := by omega
    have all : ∀ j, j < 6 → crt w j = Dj B s (e - s) j := fun j hj => by
      have c : j = 0 ∨ j = 1 ∨ j = 2 ∨ j = 3 ∨ j = 4 ∨ j = 5 := by omega
      rcases c with rfl | rfl | rfl | rfl | rfl | rfl <;> assumption
    have len : LNk (sgm w) = e - s := by
      by_cases z : LNk (sgm w) < e - s
      · have := all (LNk (sgm w)) (by omega)
        rw [c0 _ (by omega)] at this
        have := ((dj (LNk (sgm w))).2.1 z).1
        omega
      · by_cases y : e - s < LNk (sgm w)
        · have := all (e - s) (by omega)
          rw [(dj (e - s)).2.2 (by omega)] at this
          have := ((cb (e - s) (by omega)).2 y).1
          omega
        · omega
    refine ⟨len, fun j hj => ?_⟩
    rw [((cb j (by omega)).2 hj).2, all j (by omega), ((dj j).2.1 (by omega)).2]
  · rintro ⟨len, q⟩
    have all : ∀ j, j < 6 → crt w j = Dj B s (e - s) j := fun j hj => by
      by_cases z : j < LNk (sgm w)
      · have a := q j z
        have bb := l j (by omega)
        rw [((cb j hj).2 z).2, n_eq (by have := (cb j hj).1; omega) (by omega)] at a
        have := ((dj j).2.1 (by omega)).2
        omega
      · rw [c0 j z, (dj j).2.2 (by omega)]
    unfold pkN
    rw [all 0 (by omega), all 1 (by omega), all 2 (by omega), all 3 (by omega), all 4 (by omega), all 5 (by omega)]
theorem kow_spec {v : Int32} : ∀ k, k ≤ 19 → (∃ w, w < 19 ∧ wrdC.getD w 0 = v ∧ kow v k = w) ∨ ((∀ w, 19 - k ≤ w → w < 19 → ¬ wrdC.getD w 0 = v) ∧ kow v k = 19) := by
  intro k
  induction k with
  | zero => intro _; exact Or.inr ⟨fun w h1 h2 => by omega, rfl⟩
  | succ k ih =>
    intro hk
    have st : kow v (k + 1) = if wrdC.getD (19 - (k + 1)) 0 = v then 19 - (k + 1) else kow v k := rfl
    by_cases c : wrdC.getD (19 - (k + 1)) 0 = v
    · rw [if_pos c] at st
      exact Or.inl ⟨19 - (k + 1), by omega, c, st⟩
    · rw [if_neg c] at st
      rcases ih (by omega) with h | ⟨h1, h2⟩
      · rw [st]; exact Or.inl h
      · refine Or.inr ⟨fun w a b => ?_, st.trans h2⟩
        by_cases e : w = 19 - (k + 1)
        · rw [e]; exact c
        · exact h1 w (by omega) b
theorem wat_spec {B : Nat → Nat} {a b : Nat} : ∀ k, (∀ q, wat B a b k = some q → q < k ∧ mtP B a b q) ∧ (wat B a b k = none → ∀ q, q < k → ¬ mtP B a b q) := by
  intro k
  induction k with
  | zero => exact ⟨fun q h => (by cases h), fun _ q hq => by omega⟩
  | succ k ih =>
    have st : wat B a b (k + 1) = match wat B a b k with
      | some q => some q
      | none => if mtP B a b k then some k else none := rfl
    cases e : wat B a b k with
    | some q =>
      rw [e] at st
      refine ⟨fun x h => ?_, fun h => ?_⟩
      · rw [st] at h; cases h
        have := ih.1 q e
        exact ⟨by omega, this.2⟩
      · rw [st] at h; cases h
    | none =>
      rw [e] at st
      dsimp only at st
      by_cases c : mtP B a b k
      · rw [if_pos c] at st
        refine ⟨fun x h => ?_, fun h => ?_⟩
        · rw [st] at h; cases h; exact ⟨by omega, c⟩
        · rw [st] at h; cases h
      · rw [if_neg c] at st
        refine ⟨fun x h => ?_, fun h q hq => ?_⟩
        · rw [st] at h; cases h
        · by_cases z : q = k
          · rw [z]; exact c
          · exact ih.2 e q (by omega)
/-- a word, in both of them -/
theorem word_rel {B : Nat → Nat} {s e : Nat} (hse : s ≤ e) (hl : ∀ j, j < e - s → isL (B (s + j)) = true) : (∃ w, w < 19 ∧ e - s ≤ 6 ∧ kow (pkC B s (e - s)) 19 = w ∧ wat B s e 19 = some (sgm w)) ∨ (wat B s e 19 = none ∧ (e - s ≤ 6 → kow (pkC B s (e - s)) 19 = 19)) := by
  obtain ⟨w1, w2⟩ := wat_spec (B := B) (a := s) (b := e) 19
  by_cases h6 : e - s ≤ 6
  · rcases kow_spec (v := pkC B s (e - s)) 19 (by omega) with ⟨w, a1, a2, a3⟩ | ⟨a1, a2⟩
    · have m := (word_iff a1 h6 hse hl).mp a2
      left
      refine ⟨w, a1, h6, a3, ?_⟩
      cases z : wat B s e 19 with
      | none => exact absurd m (w2 z _ (sgm_lt w a1).1)
      | some q =>
        obtain ⟨q1, q2⟩ := w1 q z
        have sq := sgm_lt q q1
        have q2' : mtP B s e (sgm (sgm q)) := by rw [sq.2]; exact q2
        have := (word_iff sq.1 h6 hse hl).mpr q2'
        have := wrdC_inj _ sq.1 _ a1 (this.trans a2.symm)
        rw [← this, sq.2]
    · right
      refine ⟨?_, fun _ => a2⟩
      cases z : wat B s e 19 with
      | none => rfl
      | some q =>
        obtain ⟨q1, q2⟩ := w1 q z
        have sq := sgm_lt q q1
        have q2' : mtP B s e (sgm (sgm q)) := by rw [sq.2]; exact q2
        exact absurd ((word_iff sq.1 h6 hse hl).mpr q2') (a1 _ (by omega) sq.1)
  · right
    refine ⟨?_, fun z => absurd z h6⟩
    cases z : wat B s e 19 with
    | none => rfl
    | some q =>
      obtain ⟨q1, q2⟩ := w1 q z
      have := (FR_s q q1).2.1
      have := q2.1
      omega
-- the chain of tokens
theorem kos_ne : ∀ c, c < 256 → ¬ kos c = 34 := by decide +kernel
theorem kow_le (v : Int32) : kow v 19 ≤ 19 := by
  rcases kow_spec (v := v) 19 (by omega) with ⟨w, a1, a2, a3⟩ | ⟨a1, a2⟩
  · omega
  · omega
theorem tkn_b {B : Nat → Nat} {n p : Nat} (hB : ∀ i, i < n → B i < 256) (hp : p ≤ n) : p ≤ (tkn B n p).2.2.1 ∧ (tkn B n p).2.2.1 ≤ n ∧ (tkn B n p).2.2.2 ≤ n ∧ (((tkn B n p).1 = 34 ∧ (tkn B n p).2.2.1 = n ∧ (tkn B n p).2.2.2 = n) ∨ (¬ (tkn B n p).1 = 34 ∧ (tkn B n p).2.2.1 < (tkn B n p).2.2.2)) := by
  have sb := rn_b (P := fun q => isW (B q)) hp
  unfold tkn
  dsimp only
  generalize rn (fun q => isW (B q)) n p = s at *
  by_cases h : s < n
  · rw [if_pos h]
    by_cases l : isL (B s) = true
    · rw [if_pos l]
      have e := rn_go (P := fun q => isL (B q)) h l
      have eb := rn_b (P := fun q => isL (B q)) (n := n) (p := s + 1) (by omega)
      rw [← e] at eb
      refine ⟨sb.1, sb.2, eb.2, Or.inr ⟨?_, by dsimp only; omega⟩⟩
      dsimp only
      have := kow_le (pkC B s (rn (fun q => isL (B q)) n s - s))
      split <;> omega
    · rw [if_neg l]
      by_cases d : isD (B s) = true
      · rw [if_pos d]
        have e := rn_go (P := fun q => isD (B q)) h d
        have eb := rn_b (P := fun q => isD (B q)) (n := n) (p := s + 1) (by omega)
        rw [← e] at eb
        exact ⟨sb.1, sb.2, eb.2, Or.inr ⟨by dsimp only; omega, by dsimp only; omega⟩⟩
      · rw [if_neg d]
        have two : ¬ sgB B n (s + 1) = 0 → s + 2 ≤ n := fun z => by
          unfold sgB at z
          by_cases y : s + 1 < n
          · omega
          · rw [if_neg y] at z; exact absurd rfl z
        by_cases w1 : B s = 60 ∧ sgB B n (s + 1) = 62
        · rw [if_pos w1]
          exact ⟨sb.1, sb.2, two (by omega), Or.inr ⟨by dsimp only; omega, by dsimp only; omega⟩⟩
        · rw [if_neg w1]
          by_cases w2 : (B s = 60 ∨ B s = 62) ∧ sgB B n (s + 1) = 61
          · rw [if_pos w2]
            refine ⟨sb.1, sb.2, two (by omega), Or.inr ⟨?_, by dsimp only; omega⟩⟩
            dsimp only
            split <;> decide
          · rw [if_neg w2]
            exact ⟨sb.1, sb.2, by dsimp only; omega, Or.inr ⟨kos_ne _ (hB s h), by dsimp only; omega⟩⟩
  · rw [if_neg h]
    exact ⟨sb.1, sb.2, sb.2, Or.inl ⟨rfl, by dsimp only; omega, by dsimp only; omega⟩⟩
def ps (B : Nat → Nat) (n : Nat) : Nat → Nat
  | 0 => 0
  | i + 1 => (tkn B n (ps B n i)).2.2.2
abbrev kd (B : Nat → Nat) (n i : Nat) : Nat := (tkn B n (ps B n i)).1
abbrev vl (B : Nat → Nat) (n i : Nat) : Int32 := (tkn B n (ps B n i)).2.1
abbrev stn (B : Nat → Nat) (n i : Nat) : Nat := (tkn B n (ps B n i)).2.2.1
theorem ps_le {B : Nat → Nat} {n : Nat} (hB : ∀ i, i < n → B i < 256) : ∀ i, ps B n i ≤ n := by
  intro i
  induction i with
  | zero => exact Nat.zero_le _
  | succ i ih => exact (tkn_b hB ih).2.2.1
theorem ps_ge {B : Nat → Nat} {n : Nat} (hB : ∀ i, i < n → B i < 256) : ∀ i, (∀ j, j < i → ¬ kd B n j = 34) → i ≤ ps B n i := by
  intro i
  induction i with
  | zero => intro _; exact Nat.zero_le _
  | succ i ih =>
    intro h
    have a := ih (fun j hj => h j (by omega))
    have b := tkn_b hB (ps_le hB i)
    rcases b.2.2.2 with c | c
    · exact absurd c.1 (h i (by omega))
    · show i + 1 ≤ (tkn B n (ps B n i)).2.2.2
      omega
abbrev endA (B : Nat → Nat) (n m : Nat) : Prop := m ≤ n ∧ kd B n m = 34 ∧ ∀ i, i < m → ¬ kd B n i = 34
theorem end_ex {B : Nat → Nat} {n : Nat} (hB : ∀ i, i < n → B i < 256) : ∃ m, endA B n m := by
  have h : ∀ k, (∀ i, i < k → ¬ kd B n i = 34) ∨ ∃ m, m < k ∧ kd B n m = 34 ∧ ∀ i, i < m → ¬ kd B n i = 34 := by
    intro k
    induction k with
    | zero => exact Or.inl (fun i hi => by omega)
    | succ k ih =>
      rcases ih with h | ⟨m, h1, h2⟩
      · by_cases e : kd B n k = 34
        · exact Or.inr ⟨k, by omega, e, h⟩
        · left
          intro i hi
          by_cases z : i = k
          · rw [z]; exact e
          · exact h i (by omega)
      · exact Or.inr ⟨m, by omega, h2⟩
  rcases h (n + 1) with h | ⟨m, h1, h2⟩
  · have a := ps_ge hB (n + 1) h
    have b := ps_le hB (n + 1)
    omega
  · exact ⟨m, by omega, h2⟩
