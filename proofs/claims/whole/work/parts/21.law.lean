-- laws: postfix codes over a stack
theorem lc_eq (x y : Int64) : lg_cmp x y = 0 ↔ x = y := by
  unfold lg_cmp
  simp only [gt_iff_lt, Int64.lt_iff_toInt_lt, ← Int64.toInt_inj]
  repeat' split
  · simp; omega
  · simp [*]
  · simp [*]
theorem lc_gt (x y : Int64) : 0 < lg_cmp x y ↔ y < x := by
  unfold lg_cmp
  simp only [gt_iff_lt, Int64.lt_iff_toInt_lt, ← Int64.toInt_inj]
  repeat' split
  · simp [*]
  · simp; omega
  · simp; omega
theorem lc_ge (x y : Int64) : 0 ≤ lg_cmp x y ↔ y ≤ x := lg_cmp_ge x y
theorem lc_lt (x y : Int64) : lg_cmp x y < 0 ↔ x < y := by
  rw [← Int32.not_le, lc_ge, Int64.not_le]
theorem lc_le (x y : Int64) : lg_cmp x y ≤ 0 ↔ x ≤ y := by
  rw [← Int32.not_lt, lc_gt, Int64.not_lt]
abbrev zER : Int64 := -9223372036854775808
def labs (x : Int64) : Int64 := if 0 < x then x else -x
def jn (k : Int32) (a b : Int64) : Int64 :=
  if k = 9 then (if a = 0 then (if b = 0 then 0 else 1) else 1)
  else if k = 10 then (if a = 0 then 0 else if b = 0 then 0 else 1)
  else if k = 24 then (if 1000000000000 < a + b then zER else if -1000000000000 ≤ a + b then a + b else zER)
  else if k = 25 then (if 1000000000000 < a - b then zER else if -1000000000000 ≤ a - b then a - b else zER)
  else if k = 26 then (if a = 0 then a * b else if labs b ≤ 1000000000000 / labs a then a * b else zER)
  else if k = 27 then (if b = 0 then zER else a / b)
  else if k = 28 then (if b ≤ a then 0 else 1)
  else if k = 29 then (if b < a then 0 else 1)
  else if k = 30 then (if a = b then 1 else 0)
  else if k = 31 then (if a = b then 0 else 1)
  else if k = 32 then (if a < b then 0 else 1)
  else if k = 33 then (if a ≤ b then 0 else 1)
  else zER
theorem labs_ne {a : Int64} (h : ¬ a = 0) : ¬ labs a = 0 := by
  unfold labs
  split
  · exact h
  · intro q
    apply h
    have := congrArg (fun x => -x) q
    simpa using this
set_option maxRecDepth 10000 in
set_option maxHeartbeats 4000000 in
theorem p_joined {K : zQ} {M : zM} {k : Int32} {a b : Int64} (hK : K [.inr (.inl (jn k a b))] M) : mX2_joined K [.inl k, .inr (.inl a), .inr (.inl b)] M := by
  unfold jn at hK
  refine And.intro (fun c => ?_) (fun c => ?_)
  · rw [if_pos c] at hK
    refine And.intro (fun d => ?_) (fun d => ?_)
    · rw [if_pos ((lc_eq _ _).mp d)] at hK
      refine And.intro (fun f => ?_) (fun f => ?_)
      · rw [if_pos ((lc_eq _ _).mp f)] at hK
        exact hK
      · rw [if_neg (fun q => f ((lc_eq _ _).mpr q))] at hK
        exact hK
    · rw [if_neg (fun q => d ((lc_eq _ _).mpr q))] at hK
      exact hK
  rw [if_neg c] at hK
  refine And.intro (fun c => ?_) (fun c => ?_)
  · rw [if_pos c] at hK
    refine And.intro (fun d => ?_) (fun d => ?_)
    · rw [if_pos ((lc_eq _ _).mp d)] at hK
      exact hK
    · rw [if_neg (fun q => d ((lc_eq _ _).mpr q))] at hK
      refine And.intro (fun f => ?_) (fun f => ?_)
      · rw [if_pos ((lc_eq _ _).mp f)] at hK
        exact hK
      · rw [if_neg (fun q => f ((lc_eq _ _).mpr q))] at hK
        exact hK
  rw [if_neg c] at hK
  refine And.intro (fun d => ?_) (fun _ => ?_)
  · subst d
    exact hK
  refine And.intro (fun d => ?_) (fun _ => ?_)
  · subst d
    exact hK
  refine And.intro (fun d => ?_) (fun _ => ?_)
  · subst d
    exact hK
  refine And.intro (fun d => ?_) (fun _ => ?_)
  · subst d
    exact hK
  refine And.intro (fun d => ?_) (fun _ => ?_)
  · subst d
    exact hK
  refine And.intro (fun d => ?_) (fun _ => ?_)
  · subst d
    exact hK
  refine And.intro (fun d => ?_) (fun _ => ?_)
  · subst d
    exact hK
  refine And.intro (fun d => ?_) (fun _ => ?_)
  · subst d
    exact hK
  refine And.intro (fun d => ?_) (fun _ => ?_)
  · subst d
    exact hK
  refine And.intro (fun d => ?_) (fun _ => ?_)
  · subst d
    exact hK
  refine And.intro (fun d => ?_) (fun _ => ?_)
  · subst d
    exact hK
  refine And.intro (fun d => ?_) (fun _ => ?_)
  · subst d
    exact hK
  refine And.intro (fun d => ?_) (fun _ => ?_)
  · subst d
    exact hK
  refine And.intro (fun c => ?_) (fun c => ?_)
  · rw [if_pos c] at hK
    refine And.intro (fun d => ?_) (fun d => ?_)
    · rw [if_pos ((lc_gt _ _).mp d)] at hK
      exact hK
    · rw [if_neg (fun q => d ((lc_gt _ _).mpr q))] at hK
      refine And.intro (fun f => ?_) (fun f => ?_)
      · rw [if_pos ((lc_ge _ _).mp f)] at hK
        exact hK
      · rw [if_neg (fun q => f ((lc_ge _ _).mpr q))] at hK
        exact hK
  rw [if_neg c] at hK
  refine And.intro (fun c => ?_) (fun c => ?_)
  · rw [if_pos c] at hK
    refine And.intro (fun d => ?_) (fun d => ?_)
    · rw [if_pos ((lc_gt _ _).mp d)] at hK
      exact hK
    · rw [if_neg (fun q => d ((lc_gt _ _).mpr q))] at hK
      refine And.intro (fun f => ?_) (fun f => ?_)
      · rw [if_pos ((lc_ge _ _).mp f)] at hK
        exact hK
      · rw [if_neg (fun q => f ((lc_ge _ _).mpr q))] at hK
        exact hK
  rw [if_neg c] at hK
  refine And.intro (fun c => ?_) (fun c => ?_)
  · rw [if_pos c] at hK
    refine And.intro (fun d => ?_) (fun d => ?_)
    · rw [if_pos ((lc_eq _ _).mp d)] at hK
      exact hK
    · have d := fun q => d ((lc_eq _ _).mpr q)
      rw [if_neg d] at hK
      refine And.intro (labs_ne d) ?_
      refine And.intro (fun f => ?_) (fun f => ?_)
      · have f : labs b ≤ 1000000000000 / labs a := (lc_le _ _).mp f
        rw [if_pos f] at hK
        exact hK
      · have f : ¬ labs b ≤ 1000000000000 / labs a := fun q => f ((lc_le _ _).mpr q)
        rw [if_neg f] at hK
        exact hK
  rw [if_neg c] at hK
  refine And.intro (fun c => ?_) (fun c => ?_)
  · rw [if_pos c] at hK
    refine And.intro (fun d => ?_) (fun d => ?_)
    · rw [if_pos ((lc_eq _ _).mp d)] at hK
      exact hK
    · have d := fun q => d ((lc_eq _ _).mpr q)
      rw [if_neg d] at hK
      exact And.intro d hK
  rw [if_neg c] at hK
  refine And.intro (fun c => ?_) (fun c => ?_)
  · rw [if_pos c] at hK
    refine And.intro (fun d => ?_) (fun d => ?_)
    · rw [if_pos ((lc_ge _ _).mp d)] at hK
      exact hK
    · rw [if_neg (fun q => d ((lc_ge _ _).mpr q))] at hK
      exact hK
  rw [if_neg c] at hK
  refine And.intro (fun c => ?_) (fun c => ?_)
  · rw [if_pos c] at hK
    refine And.intro (fun d => ?_) (fun d => ?_)
    · rw [if_pos ((lc_gt _ _).mp d)] at hK
      exact hK
    · rw [if_neg (fun q => d ((lc_gt _ _).mpr q))] at hK
      exact hK
  rw [if_neg c] at hK
  refine And.intro (fun c => ?_) (fun c => ?_)
  · rw [if_pos c] at hK
    refine And.intro (fun d => ?_) (fun d => ?_)
    · rw [if_pos ((lc_eq _ _).mp d)] at hK
      exact hK
    · rw [if_neg (fun q => d ((lc_eq _ _).mpr q))] at hK
      exact hK
  rw [if_neg c] at hK
  refine And.intro (fun c => ?_) (fun c => ?_)
  · rw [if_pos c] at hK
    refine And.intro (fun d => ?_) (fun d => ?_)
    · rw [if_pos ((lc_eq _ _).mp d)] at hK
      exact hK
    · rw [if_neg (fun q => d ((lc_eq _ _).mpr q))] at hK
      exact hK
  rw [if_neg c] at hK
  refine And.intro (fun c => ?_) (fun c => ?_)
  · rw [if_pos c] at hK
    refine And.intro (fun d => ?_) (fun d => ?_)
    · rw [if_pos ((lc_lt _ _).mp d)] at hK
      exact hK
    · rw [if_neg (fun q => d ((lc_lt _ _).mpr q))] at hK
      exact hK
  rw [if_neg c] at hK
  refine And.intro (fun c => ?_) (fun c => ?_)
  · rw [if_pos c] at hK
    refine And.intro (fun d => ?_) (fun d => ?_)
    · rw [if_pos ((lc_le _ _).mp d)] at hK
      exact hK
    · rw [if_neg (fun q => d ((lc_le _ _).mpr q))] at hK
      exact hK
  rw [if_neg c] at hK
  exact hK
