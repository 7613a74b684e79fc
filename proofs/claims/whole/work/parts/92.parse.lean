-- THE PARSER, by token's number. An outcome: the next token's number, or a fault and the number of the token that it stands at
abbrev aR : Type := Nat ⊕ (Nat × Nat)
def flA (e : Nat) : aR → aR
  | .inl i => .inr (e, i)
  | .inr x => .inr x
section
variable (B : Nat → Nat) (n : Nat)
def tkA (k : Nat) : aR → aR
  | .inl i => if kd B n i = k then .inl (i + 1) else .inr (1, i)
  | .inr x => .inr x
def nuA (lo hi : Nat) : aR → aR
  | .inl i => if kd B n i = 20 then (if nI lo ≤ vl B n i ∧ vl B n i ≤ nI hi then .inl (i + 1) else .inr (2, i)) else .inr (1, i)
  | .inr x => .inr x
def nnA (f : Nat → Int32) (c : Nat) : aR → aR
  | .inl i => if kd B n i = 19 then (match fnd f (vl B n i) c with
      | none => .inl (i + 1)
      | some _ => .inr (3, i)) else .inr (1, i)
  | .inr x => .inr x
def tnA (f : Nat → Int32) (c : Nat) : aR → aR
  | .inl i => if kd B n i = 19 then (match fnd f (vl B n i) c with
      | none => .inr (4, i)
      | some _ => .inl (i + 1)) else .inr (1, i)
  | .inr x => .inr x
def btA : Nat → aR → aR
  | 0, st => st
  | k + 1, st => nuA B n 1 4 (btA k st)
-- a sum: token, codes, signs that wait (the last first), is an operand wanted, may be negated, knots
abbrev aX : Type := Nat × List Int32 × List Nat × Bool × Bool × Nat
def rkC (k : Nat) : Nat := if k = 9 then 1 else if k = 10 then 2 else if k = 11 then 3 else if k = 24 ∨ k = 25 then 5 else if k = 26 ∨ k = 27 then 6 else if 28 ≤ k ∧ k ≤ 33 then 4 else 0
def popC (r : Nat) : List Nat → List Int32 × List Nat
  | [] => ([], [])
  | k :: ws => if r ≤ rkC k then (-(nI k) :: (popC r ws).1, (popC r ws).2) else ([], k :: ws)
def opn : List Nat → Nat
  | [] => 0
  | k :: ws => opn ws + (if k = 22 then 1 else 0)
def cmT : List Nat → Bool
  | [] => false
  | k :: ws => if k = 22 then false else if rkC k = 4 then true else cmT ws
abbrev isB (k : Nat) : Prop := k = 9 ∨ k = 10 ∨ (24 ≤ k ∧ k ≤ 33)
def xst (X : aX) : (Nat × Nat) ⊕ ((Nat × List Int32 × Nat) ⊕ aX) := match X with
  | (i, cs, ws, wa, mn, cnt) =>
    if wa = true then
      (if kd B n i = 11 ∧ mn = true then (if cnt = 64 then .inl (2, i) else .inr (.inr (i + 1, cs, 11 :: ws, true, mn, cnt + 1)))
      else if kd B n i = 22 then (if opn ws = 8 then .inl (2, i) else .inr (.inr (i + 1, cs, 22 :: ws, true, true, cnt)))
      else if 12 ≤ kd B n i ∧ kd B n i ≤ 18 then (if cnt = 64 then .inl (2, i) else .inr (.inr (i + 1, cs ++ [-(nI (kd B n i))], ws, false, mn, cnt + 1)))
      else if kd B n i = 20 then (if vl B n i ≤ nI 9999 then (if cnt = 64 then .inl (2, i) else .inr (.inr (i + 1, cs ++ [vl B n i], ws, false, mn, cnt + 1))) else .inl (2, i))
      else .inl (1, i))
    else if kd B n i = 23 ∧ 0 < opn ws then .inr (.inr (i + 1, cs ++ (popC 1 ws).1, (popC 1 ws).2.tail, false, mn, cnt))
    else if isB (kd B n i) then
      (if rkC (kd B n i) = 4 ∧ cmT ws = true then .inl (1, i)
      else if cnt = 64 then .inl (2, i)
      else .inr (.inr (i + 1, cs ++ (popC (rkC (kd B n i)) ws).1, kd B n i :: (popC (rkC (kd B n i)) ws).2, true, decide (kd B n i = 9 ∨ kd B n i = 10), cnt + 1)))
    else if 0 < opn ws then .inl (1, i)
    else .inr (.inl (i, cs ++ (popC 1 ws).1, cnt))
def xrun : Nat → aX → (Nat × Nat) ⊕ (Nat × List Int32 × Nat)
  | 0, X => .inl (1, X.1)
  | f + 1, X => match xst B n X with
    | .inl e => .inl e
    | .inr (.inl r) => .inr r
    | .inr (.inr X') => xrun f X'
def exA (i cnt : Nat) : (Nat × Nat) ⊕ (Nat × List Int32 × Nat) := xrun B n (n + 1 - i) (i, [], [], true, true, cnt)
-- lines: what is told so far, is a like told, a seed
abbrev aQ : Type := aT × Bool × Bool
def addH (T : aT) (g : Nat → Int32) : aT := (fun q => if q = 0 then T.1 0 + 1 else T.1 q, fun a i => if a ≤ 2 ∧ i = T.1 0 then g a else if a = 3 ∧ 6 * T.1 0 ≤ i ∧ i < 6 * T.1 0 + 6 then g (3 + (i - 6 * T.1 0)) else T.2.1 a i, T.2.2)
def addW (T : aT) (g : Nat → Int32) : aT := (fun q => if q = 1 then T.1 1 + 1 else T.1 q, fun a i => if (4 ≤ a ∧ a ≤ 7) ∧ i = T.1 1 then g (a - 4) else T.2.1 a i, T.2.2)
def addR (T : aT) (g : Nat → Int32) : aT := (fun q => if q = 2 then T.1 2 + 1 else T.1 q, fun a i => if (8 ≤ a ∧ a ≤ 10) ∧ i = T.1 2 then g (a - 8) else T.2.1 a i, T.2.2)
def setF (T : aT) (f : Nat) (v : Int32) : aT := (T.1, fun a i => if a = f ∧ i = 0 then v else T.2.1 a i, T.2.2)
def setL (T : aT) (w : Nat) (cs : List Int32) (cnt : Nat) : aT := (T.1, fun a i => if a = 13 ∧ i = 0 then nI cnt else T.2.1 a i, fun q => if q = w then cs else T.2.2 q)
def woG (T : aT) (i : Nat) : Nat → Int32
  | 0 => vl B n (i + 1)
  | 1 => vl B n (i + 2)
  | 2 => vl B n (i + 3)
  | _ => wbR (fnd (T.2.1 0) (vl B n (i + 4)) (T.1 0))
def raG (T : aT) (i : Nat) : Nat → Int32
  | 0 => wbR (fnd (T.2.1 0) (vl B n (i + 1)) (T.1 0))
  | 1 => wbR (fnd (T.2.1 4) (vl B n (i + 2)) (T.1 1))
  | _ => vl B n (i + 3)
def laA (Q : aQ) (i : Nat) : aR × aQ :=
  if kd B n (i + 1) < 6 ∨ 8 < kd B n (i + 1) then (.inr (1, i + 1), Q)
  else if ¬ Q.1.2.2 (kd B n (i + 1) - 6) = [] then (.inr (3, i + 1), Q)
  else match exA B n (i + 2) (Q.1.2.1 13 0).toNatClampNeg with
    | .inl e => (.inr e, Q)
    | .inr (j, cs, cnt) => (.inl j, (setL Q.1 (kd B n (i + 1) - 6) cs cnt, Q.2))
def bodA (Q : aQ) (i : Nat) : aR × aQ :=
  if kd B n i = 0 then (if Q.1.1 0 < 6 then btA B n 6 (nuA B n 0 99 (nuA B n 0 9 (nnA B n (Q.1.2.1 0) (Q.1.1 0) (.inl (i + 1))))) else .inr (2, i), (addH Q.1 (fun q => vl B n (i + 1 + q)), Q.2))
  else if kd B n i = 1 then (if Q.1.1 1 < 4 then tnA B n (Q.1.2.1 0) (Q.1.1 0) (nuA B n 0 9 (nuA B n 0 99 (nnA B n (Q.1.2.1 4) (Q.1.1 1) (.inl (i + 1))))) else .inr (2, i), (addW Q.1 (woG B n Q.1 i), Q.2))
  else if kd B n i = 2 then (if Q.1.1 2 < 10 then nuA B n 0 99 (tnA B n (Q.1.2.1 4) (Q.1.1 1) (tnA B n (Q.1.2.1 0) (Q.1.1 0) (.inl (i + 1)))) else .inr (2, i), (addR Q.1 (raG B n Q.1 i), Q.2))
  else if kd B n i = 3 then (if Q.2.1 = true then .inr (3, i) else nuA B n 0 24 (.inl (i + 1)), (setF Q.1 11 (vl B n (i + 1)), true, Q.2.2))
  else if kd B n i = 4 then (if Q.2.2 = true then .inr (3, i) else nuA B n 0 99999 (.inl (i + 1)), (setF Q.1 12 (vl B n (i + 1)), Q.2.1, true))
  else if kd B n i = 5 then laA B n Q i
  else (.inr (1, i), Q)
def lnA (Q : aQ) (i : Nat) : aR × aQ := (tkA B n 21 (bodA B n Q i).1, (bodA B n Q i).2)
def lrun : Nat → Nat → aQ → Nat → (Nat × Nat) ⊕ (aQ × Nat)
  | 0, i, _, _ => .inl (1, i)
  | f + 1, i, Q, k => if kd B n i = 34 then .inr (Q, k) else match lnA B n Q i with
    | (.inr e, _) => .inl e
    | (.inl j, Q') => lrun f j Q' (k + 1)
end
def T00 : aT := (fun _ => 0, fun a _ => if a = 11 then 3 else 0, fun _ => [])
def rdA (B : Nat → Nat) (n : Nat) : (Nat × Nat) ⊕ (aQ × Nat) := lrun B n (n + 1) 0 (T00, false, false) 0
-- ranks
theorem rkC_22 : rkC 22 = 0 := rfl
def nop (ws : List Nat) : Nat := ws.length - opn ws
theorem opn_le : ∀ ws : List Nat, opn ws ≤ ws.length := by
  intro ws
  induction ws with
  | nil => exact Nat.le_refl 0
  | cons k ws ih =>
    show opn ws + (if k = 22 then 1 else 0) ≤ ws.length + 1
    split <;> omega
abbrev sgK (k : Nat) : Prop := isB k ∨ k = 11 ∨ k = 22
theorem rkC_pos {k : Nat} (h : sgK k) : (1 ≤ rkC k ∧ rkC k ≤ 6 ∧ ¬ k = 22) ∨ (rkC k = 0 ∧ k = 22) := by
  have : ∀ k, k < 34 → sgK k → (1 ≤ rkC k ∧ rkC k ≤ 6 ∧ ¬ k = 22) ∨ (rkC k = 0 ∧ k = 22) := by decide
  exact this k (by unfold sgK isB at h; omega) h
def srt : List Nat → Prop
  | [] => True
  | k :: ws => (k = 22 ∨ ∀ k2 r, ws = k2 :: r → rkC k2 ≤ rkC k) ∧ srt ws
theorem popC_srt {r : Nat} : ∀ {ws : List Nat}, srt ws → srt (popC r ws).2 := by
  intro ws
  induction ws with
  | nil => intro h; exact h
  | cons k ws ih =>
    intro h
    unfold popC
    by_cases c : r ≤ rkC k
    · rw [if_pos c]; exact ih h.2
    · rw [if_neg c]; exact h
/-- what is left begins with a sign of a lower rank -/
theorem popC_top {r : Nat} : ∀ {ws : List Nat} {k : Nat} {l : List Nat}, (popC r ws).2 = k :: l → rkC k < r := by
  intro ws
  induction ws with
  | nil => intro k l h; cases h
  | cons q ws ih =>
    intro k l h
    unfold popC at h
    by_cases c : r ≤ rkC q
    · rw [if_pos c] at h; exact ih h
    · rw [if_neg c] at h; cases h; omega
theorem popC_opn {r : Nat} (hr : 1 ≤ r) : ∀ {ws : List Nat}, opn (popC r ws).2 = opn ws := by
  intro ws
  induction ws with
  | nil => rfl
  | cons q ws ih =>
    unfold popC
    by_cases c : r ≤ rkC q
    · rw [if_pos c]
      show opn (popC r ws).2 = opn ws + (if q = 22 then 1 else 0)
      rw [ih, if_neg (fun z => by rw [z, rkC_22] at c; omega)]; rfl
    · rw [if_neg c]
theorem popC_len {r : Nat} : ∀ {ws : List Nat}, (popC r ws).1.length + (popC r ws).2.length = ws.length := by
  intro ws
  induction ws with
  | nil => rfl
  | cons q ws ih =>
    unfold popC
    by_cases c : r ≤ rkC q
    · rw [if_pos c]
      show (popC r ws).1.length + 1 + (popC r ws).2.length = ws.length + 1
      omega
    · rw [if_neg c]
      show 0 + (q :: ws).length = (q :: ws).length
      omega
theorem popC_all {r : Nat} {p : Nat → Prop} : ∀ {ws : List Nat}, (∀ x, x ∈ ws → p x) → ∀ x, x ∈ (popC r ws).2 → p x := by
  intro ws
  induction ws with
  | nil => intro h x hx; cases hx
  | cons q ws ih =>
    intro h x hx
    unfold popC at hx
    by_cases c : r ≤ rkC q
    · rw [if_pos c] at hx; exact ih (fun y hy => h y (List.mem_cons_of_mem _ hy)) x hx
    · rw [if_neg c] at hx; exact h x hx
theorem popC_cm {r : Nat} : ∀ {ws : List Nat}, cmT ws = false → cmT (popC r ws).2 = false := by
  intro ws
  induction ws with
  | nil => intro h; exact h
  | cons q ws ih =>
    intro h
    unfold popC
    by_cases c : r ≤ rkC q
    · rw [if_pos c]
      by_cases z : q = 22
      · subst z
        rw [rkC_22] at c
        have : r = 0 := by omega
        subst this
        -- everything goes
        have all : ∀ l : List Nat, (popC 0 l).2 = [] := by
          intro l
          induction l with
          | nil => rfl
          | cons a l ih2 => unfold popC; rw [if_pos (Nat.zero_le _)]; exact ih2
        show cmT (popC 0 ws).2 = false
        rw [all]; rfl
      · unfold cmT at h
        rw [if_neg z] at h
        by_cases y : rkC q = 4
        · rw [if_pos y] at h; cases h
        · rw [if_neg y] at h; exact ih h
    · rw [if_neg c]; exact h
/-- a compared one waits: what is left when tighter ones are bound -/
theorem popC_5 : ∀ {ws : List Nat}, srt ws → (cmT ws = true ↔ ∃ k l, (popC 5 ws).2 = k :: l ∧ rkC k = 4) := by
  intro ws
  induction ws with
  | nil => intro _; exact ⟨fun h => (by cases h), fun ⟨k, l, h, _⟩ => by cases h⟩
  | cons q ws ih =>
    intro h
    unfold popC
    by_cases c : 5 ≤ rkC q
    · rw [if_pos c]
      have z : ¬ q = 22 := fun z => by rw [z, rkC_22] at c; omega
      rw [← ih h.2]
      unfold cmT
      rw [if_neg z, if_neg (by omega)]
      cases ws <;> rfl
    · rw [if_neg c]
      by_cases z : q = 22
      · subst z
        refine ⟨fun y => ?_, fun ⟨k, l, e, y⟩ => ?_⟩
        · unfold cmT at y; rw [if_pos rfl] at y; cases y
        · cases e; rw [rkC_22] at y; omega
      · by_cases y : rkC q = 4
        · refine ⟨fun _ => ⟨q, ws, rfl, y⟩, fun _ => ?_⟩
          unfold cmT
          rw [if_neg z, if_pos y]
        · -- below are no higher ones
          have low : ∀ l : List Nat, srt l → (∀ k r, l = k :: r → rkC k ≤ rkC q) → rkC q < 4 → cmT l = false := by
            intro l
            induction l with
            | nil => intro _ _ _; rfl
            | cons a l ih2 =>
              intro s1 s2 s3
              have ha := s2 a l rfl
              unfold cmT
              by_cases w : a = 22
              · rw [if_pos w]
              · rw [if_neg w, if_neg (by omega)]
                refine ih2 s1.2 (fun k r e => ?_) s3
                rcases s1.1 with u | u
                · exact absurd u w
                · have := u k r e; omega
          have q4 : rkC q < 4 := by omega
          have hq := h.1.resolve_left z
          refine ⟨fun w => ?_, fun ⟨k, l, e, w⟩ => ?_⟩
          · unfold cmT at w
            rw [if_neg z, if_neg y, low ws h.2 hq q4] at w
            cases w
          · cases e; exact absurd w y
theorem popC_45 {ws : List Nat} : cmT ws = false → popC 4 ws = popC 5 ws := by
  induction ws with
  | nil => intro _; rfl
  | cons q ws ih =>
    intro h
    unfold popC
    by_cases z : q = 22
    · subst z
      rw [if_neg (by rw [rkC_22]; omega), if_neg (by rw [rkC_22]; omega)]
    · unfold cmT at h
      rw [if_neg z] at h
      by_cases y : rkC q = 4
      · rw [if_pos y] at h; cases h
      · rw [if_neg y] at h
        by_cases c : 5 ≤ rkC q
        · rw [if_pos (by omega), if_pos c, ih h]
        · rw [if_neg (by omega), if_neg c]
theorem srt_low {ws : List Nat} (h : srt ws) (h4 : ∀ k l, ws = k :: l → rkC k < 4) : cmT ws = false := by
  cases e : cmT ws with
  | false => rfl
  | true =>
    obtain ⟨k, l, h1, h2⟩ := (popC_5 h).mp e
    cases ws with
    | nil => cases h1
    | cons q ws =>
      have := h4 q ws rfl
      unfold popC at h1
      rw [if_neg (by omega)] at h1
      cases h1
      omega
