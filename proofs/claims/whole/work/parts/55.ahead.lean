-- what fades changes nothing else
def off7 (S S' : aS) : Prop := ∀ f i, ¬ f = 7 → S f i = S' f i
theorem off7_shk {T : aT} {S S' : aS} (h : off7 S S') (a w k : Nat) : shk T S a w k = shk T S' a w k := by
  unfold shk anm
  rw [h 0 _ (by decide), h 11 _ (by decide), h 12 _ (by decide), h 1 _ (by decide), h 9 _ (by decide)]
theorem off7_rch {T : aT} {S S' : aS} (h : off7 S S') (a w : Nat) (f : Int32) : rch T S a w f = rch T S' a w f := by
  unfold rch anm
  rw [h 0 _ (by decide), h 11 _ (by decide), h 12 _ (by decide), h 1 _ (by decide), h 9 _ (by decide), h 13 _ (by decide)]
theorem off7_whof {T : aT} {S S' : aS} (h : off7 S S') (w : Nat) (g : Nat → Int32) : whof T S w g = whof T S' w g := by
  unfold whof
  simp only [off7_rch h]
theorem off7_ear {T : aT} {S S' : aS} (h : off7 S S') (a w : Nat) (dr : Bool) : earf T S a w dr = earf T S' a w dr := by
  funext k
  unfold earf
  rw [show shk T S a w = shk T S' a w from funext (fun k => off7_shk h a w k), h 10 _ (by decide)]
theorem off7_rap {T : aT} {S S' : aS} (h : off7 S S') (r a w : Nat) (dr : Bool) : off7 (aRap T S r a w dr) (aRap T S' r a w dr) := fun f i hf => by
  unfold aRap
  rw [off7_ear h, off7_whof h, h 1 _ (by decide), h 10 _ (by decide), h f i hf, show shk T S a w = shk T S' a w from funext (fun k => off7_shk h a w k)]
theorem off7_raps {T : aT} {S S' : aS} (h : off7 S S') (dr : Bool) : ∀ n, off7 (aRaps T dr n S) (aRaps T dr n S') := by
  intro n
  induction n with
  | zero => exact h
  | succ n ih =>
    unfold aRaps
    have e : wod (aRaps T dr n S) n = wod (aRaps T dr n S') n := by unfold wod; rw [ih 3 _ (by decide)]
    rw [ih 5 _ (by decide), ih 4 _ (by decide), ih 9 _ (by decide), ih 14 _ (by decide), e]
    split
    · exact off7_rap ih _ _ _ _
    · exact ih
theorem off7_day {T : aT} {S S' : aS} (h : off7 S S') (dr fd fd' : Bool) : off7 (aDay T dr fd S) (aDay T dr fd' S') := by
  have h1 : off7 (if fd = true then aFade T S (T.1 2) else S) (if fd' = true then aFade T S' (T.1 2) else S') := fun f i hf => by
    have e1 : (if fd = true then aFade T S (T.1 2) else S) f i = S f i := by
      cases fd
      · rfl
      · exact aFade_ne hf
    have e2 : (if fd' = true then aFade T S' (T.1 2) else S') f i = S' f i := by
      cases fd'
      · rfl
      · exact aFade_ne hf
    rw [e1, e2]; exact h f i hf
  have h2 := off7_raps (T := T) h1 dr (T.1 2)
  intro f i hf
  unfold aDay su
  rw [h2 9 0 (by decide), h2 f i hf]
theorem off7_pass {T : aT} {S S' : aS} (h : off7 S S') (dr fd fd' : Bool) : ∀ n, off7 (aPass T dr fd n S) (aPass T dr fd' n S') := by
  intro n
  induction n with
  | zero => exact h
  | succ n ih => exact off7_day ih dr fd fd'
theorem off7_many {T : aT} {S S' : aS} (h : off7 S S') (w : Int32) : aMany T S w = aMany T S' w := zcount_congr (fun i _ => by rw [h 5 _ (by decide)])
theorem off7_wrong {T : aT} {S S' : aS} (h : off7 S S') : aWrong T S = aWrong T S' := zcount_congr (fun i _ => by rw [h 5 _ (by decide), h 6 _ (by decide)])
theorem off7_rf {S : aS} : off7 S S := fun _ _ _ => rfl
theorem WB.fade {T : aT} {S : aS} (h : WB T S) (n : Nat) : WB T (aFade T S n) := fun r hr => by
  rw [aFade_ne (by decide), aFade_ne (by decide)]; exact h r hr
theorem WB.rap {T : aT} {S : aS} (h : WB T S) (r x w : Nat) (dr : Bool) : WB T (aRap T S r x w dr) := fun q hq => by
  unfold aRap
  by_cases e : q = r
  · subst e
    cases whof T S w (earf T S x w dr) with
    | none => simp
    | some b => simp
  · simp [e]; exact h q hq
theorem WB.raps {T : aT} {S : aS} (h : WB T S) (dr : Bool) : ∀ n, WB T (aRaps T dr n S) := by
  intro n
  induction n with
  | zero => exact h
  | succ n ih =>
    unfold aRaps
    split
    · exact ih.rap _ _ _ _
    · exact ih
theorem WB.day {T : aT} {S : aS} (h : WB T S) (dr fd : Bool) : WB T (aDay T dr fd S) := fun r hr => by
  unfold aDay su
  have h1 : WB T (if fd = true then aFade T S (T.1 2) else S) := by
    cases fd
    · exact h
    · exact h.fade _
  simp
  exact (h1.raps dr (T.1 2)) r hr
theorem WB.pass {T : aT} {S : aS} (h : WB T S) (dr fd : Bool) : ∀ n, WB T (aPass T dr fd n S) := by
  intro n
  induction n with
  | zero => exact h
  | succ n ih => exact ih.day dr fd
/-- the trial stands as it stands now -/
theorem p_trial {K : zQ} {I : zI} {L : zJ} {P : zP} {A : aA} (hC : RC A I P) (hK : ∀ (t : Nat) (I' : zI) (P' : zP), frQ I I' → frP P P' → CT I' t A.T → P' 11 0 11 = t → P' 8 2 0 = t → P' 8 0 0 = t → CS I' 2 A.T A.S → CS I' 0 A.T A.S → K [] (I', L, P')) : mX8_copyOf K [.inr (.inr (8, 2)), .inr (.inr (8, 0))] (I, L, P) := by
  obtain ⟨t, hT, h11, h8, hS⟩ := hC.b
  refine p_copyOf (by decide) h8 hT.1 (fun I' P' e1 e2 e3 e4 => ?_)
  have hq := frS_Q e2
  have hP : frP P P' := fun x y z q1 q2 => e4 x y z (fun q => q2 ⟨q.1, q.2.1⟩)
  exact hK t I' P' hq hP (hq.CT hT) ((hP 11 0 _ (by decide) (by simp)).trans h11) e3 ((hP 8 0 0 (by decide) (by simp)).trans h8) (hS.copy hT e1) (hq.CS (by decide) hS)
theorem span_of {n : Int32} (h : okI n 0 99) : ∃ m, n = nI m ∧ m ≤ 99 := by
  obtain ⟨m, rfl, hm⟩ := n_nn h.1
  have := h.2
  rw [show (99 : Int32) = nI 99 from rfl, n_le hm (by decide)] at this
  exact ⟨m, rfl, this⟩
